def f_X7_in (p0 : Int64) (p2 : Int64) (p4 : Int64) : Option (Int32) := (if (lg_cmp p0 p2) < 0 then some (0 : Int32) else (if 0 < (lg_cmp p0 p4) then some (0 : Int32) else some (1 : Int32)))
abbrev rm_X7_in : Room := { frames := 0, cells := 0, slots := 0, locals := 0 }
theorem hd_X7_in : yX7_in.cls ≠ "java/lang/invoke/MethodHandle" ∧ yX7_in.cls ≠ "java/lang/invoke/VarHandle" ∧ (parseMethodDescriptor yX7_in.desc).map (fun d => d.parameters.length) = some 3 := by decide +kernel
set_option maxHeartbeats 4000000 in
set_option maxRecDepth 100000 in
theorem c_X7_in (l : Launch) (D : va_G) (ty : TY) (p0 : Int64) (p2 : Int64) (p4 : Int64) (o0 : Int32) (hf : f_X7_in p0 p2 p4 = some o0) (sz : Nat) : CX l yX7_in wsX7_in rm_X7_in ([.long p0, .long p2, .long p4] : List Value) D ty (fl []) sz (qI D o0 (fl [])) 0 0 := by
  refine CX_of (cc := cX7_in) (maxL := 6) (ret := (some .boolean)) (C := RX7) (by decide) rfl rfl (Nat.le_of_ble_eq_true rfl) ?_
  intro p e s m below meth c A ls F hr hlk _ hK hP hD hS hA hl
  have hx := F.1
  have hb := F.2.1
  replace hl : lv_has ls 6 [(0, .long p0), (2, .long p2), (4, .long p4)] := hl
  unfold f_X7_in at hf
  refine lv_lload_n hx hb dX7_in_0 rfl (lv_at hl 0 rfl) ?_
  refine lv_lload_n hx hb dX7_in_1 rfl (lv_at hl 1 rfl) ?_
  refine W.lcmp hx hb dX7_in_2 ?_
  refine lv_if_lt (tgt := 17) hx hb dX7_in_3 (by decide) (fun hc => ?_) (fun hc => ?_)
  · replace hf := ite_t hf hc
    refine lv_iconst (v := (0 : Int32)) hx hb dX7_in_17 (by decide) ?_
    obtain hf := hf
    have e0 := Option.some.inj hf
    exact CX_z F hr hlk hP hD hS narrow_b0 e0 dX7_in_18
  · replace hf := ite_f hf hc
    refine lv_lload_n hx hb dX7_in_6 rfl (lv_at hl 0 rfl) ?_
    refine lv_lload hx hb dX7_in_7 (lv_at hl 2 rfl) ?_
    refine W.lcmp hx hb dX7_in_9 ?_
    refine lv_if_gt (tgt := 17) hx hb dX7_in_10 (by decide) (fun hc => ?_) (fun hc => ?_)
    · replace hf := ite_t hf hc
      refine lv_iconst (v := (0 : Int32)) hx hb dX7_in_17 (by decide) ?_
      obtain hf := hf
      have e0 := Option.some.inj hf
      exact CX_z F hr hlk hP hD hS narrow_b0 e0 dX7_in_18
    · replace hf := ite_f hf hc
      refine lv_iconst (v := (1 : Int32)) hx hb dX7_in_13 (by decide) ?_
      refine lv_goto (tgt := 18) hx hb dX7_in_14 (by decide) ?_
      obtain hf := hf
      have e0 := Option.some.inj hf
      exact CX_z F hr hlk hP hD hS narrow_b1 e0 dX7_in_18
def f_X7_has (p0 : Int32) (p1 : Int32) : Option (Int32) := (if ((p0 >>> (p1 &&& 31)) &&& (1 : Int32)) = (1 : Int32) then some (1 : Int32) else some (0 : Int32))
abbrev rm_X7_has : Room := { frames := 0, cells := 0, slots := 0, locals := 0 }
theorem hd_X7_has : yX7_has.cls ≠ "java/lang/invoke/MethodHandle" ∧ yX7_has.cls ≠ "java/lang/invoke/VarHandle" ∧ (parseMethodDescriptor yX7_has.desc).map (fun d => d.parameters.length) = some 2 := by decide +kernel
set_option maxHeartbeats 4000000 in
set_option maxRecDepth 100000 in
theorem c_X7_has (l : Launch) (D : va_G) (ty : TY) (p0 : Int32) (p1 : Int32) (o0 : Int32) (hf : f_X7_has p0 p1 = some o0) (sz : Nat) : CX l yX7_has wsX7_has rm_X7_has ([.int p0, .int p1] : List Value) D ty (fl []) sz (qI D o0 (fl [])) 0 0 := by
  refine CX_of (cc := cX7_has) (maxL := 2) (ret := (some .boolean)) (C := RX7) (by decide) rfl rfl (Nat.le_of_ble_eq_true rfl) ?_
  intro p e s m below meth c A ls F hr hlk _ hK hP hD hS hA hl
  have hx := F.1
  have hb := F.2.1
  replace hl : lv_has ls 2 [(0, .int p0), (1, .int p1)] := hl
  unfold f_X7_has at hf
  refine lv_iload_n hx hb dX7_has_0 rfl (lv_at hl 0 rfl) ?_
  refine lv_iload_n hx hb dX7_has_1 rfl (lv_at hl 1 rfl) ?_
  refine lv_ishr hx hb dX7_has_2 ?_
  refine lv_iconst (v := (1 : Int32)) hx hb dX7_has_3 (by decide) ?_
  refine lv_iand hx hb dX7_has_4 ?_
  refine lv_iconst (v := (1 : Int32)) hx hb dX7_has_5 (by decide) ?_
  refine lv_icmp_ne (tgt := 13) hx hb dX7_has_6 (by decide) (fun hc => ?_) (fun hc => ?_)
  · replace hf := ite_f hf hc
    refine lv_iconst (v := (0 : Int32)) hx hb dX7_has_13 (by decide) ?_
    obtain hf := hf
    have e0 := Option.some.inj hf
    exact CX_z F hr hlk hP hD hS narrow_b0 e0 dX7_has_14
  · replace hf := ite_t hf hc
    refine lv_iconst (v := (1 : Int32)) hx hb dX7_has_9 (by decide) ?_
    refine lv_goto (tgt := 14) hx hb dX7_has_10 (by decide) ?_
    obtain hf := hf
    have e0 := Option.some.inj hf
    exact CX_z F hr hlk hP hD hS narrow_b1 e0 dX7_has_14
def f_X7_noRing (z0 : Ob) (p1 : Int32) : Option (Int32) := (f_X7_in p1.toInt64 (0 : Int64) ((z0.1 4) - (1 : Int32)).toInt64).bind (fun v1 => (if v1 = 0 then some (1 : Int32) else some (0 : Int32)))
abbrev rm_X7_noRing : Room := { frames := 1, cells := 0, slots := 0, locals := 25 }
theorem hd_X7_noRing : yX7_noRing.cls ≠ "java/lang/invoke/MethodHandle" ∧ yX7_noRing.cls ≠ "java/lang/invoke/VarHandle" ∧ (parseMethodDescriptor yX7_noRing.desc).map (fun d => d.parameters.length) = some 1 := by decide +kernel
theorem in_X7_noRing_X7 : ∀ w ∈ wsX70, w ∈ wsX7_noRing := fun w h => List.mem_cons_of_mem _ (List.mem_append_right _ h)
set_option maxHeartbeats 4000000 in
set_option maxRecDepth 100000 in
theorem c_X7_noRing (l : Launch) (D : va_G) (ty : TY) (h0 : Nat) (a0 : Nat → Nat) (z0 : Ob) (p1 : Int32) (o0 : Int32) (hf : f_X7_noRing z0 p1 = some o0) (sz : Nat) : CX l yX7_noRing wsX7_noRing rm_X7_noRing ([.ref h0, .int p1] : List Value) D ty (fl [oX7 ty h0 a0 z0]) sz (qI D o0 (fl [oX7 ty h0 a0 z0])) 0 0 := by
  refine CX_of (cc := cX7_noRing) (maxL := 2) (ret := (some .boolean)) (C := RX7) (by decide) rfl rfl (Nat.le_of_ble_eq_true rfl) ?_
  intro p e s m below meth c A ls F hr hlk _ hK hP hD hS hA hl
  have hx := F.1
  have hb := F.2.1
  replace hl : lv_has ls 2 [(0, .ref h0), (1, .int p1)] := hl
  unfold f_X7_noRing at hf
  refine lv_iload_n hx hb dX7_noRing_0 rfl (lv_at hl 1 rfl) ?_
  refine lv_i2l hx hb dX7_noRing_1 rfl ?_
  refine lv_lconst (v := (0 : Int64)) hx hb dX7_noRing_2 (by decide) ?_
  refine lv_aload_n hx hb dX7_noRing_3 rfl (lv_at hl 0 rfl) ?_
  refine va_get (D := D) (ci := 7) (C := RX7) (T := TX7) (N := 40) hx hb F.2.2.2.2 in_X7_noRing_X7 F.2.2.2.1 hK.1 hP 0 rfl rfl 4 (Nat.le_of_ble_eq_true rfl) (F.2.2.2.2 (.fieldLink RX7 75 "LouderRoomModel" "rings" "I") (List.mem_of_getElem? (i := 1) rfl)) (fun _ h9 => h9) rfl dX7_noRing_4 ?_
  refine lv_iconst (v := (1 : Int32)) hx hb dX7_noRing_7 (by decide) ?_
  refine lv_isub hx hb dX7_noRing_8 ?_
  refine lv_i2l hx hb dX7_noRing_9 rfl ?_
  obtain ⟨v1, hv, hf⟩ := obd hf
  have hp1 : List.Perm [oX7 ty h0 a0 z0] ([] ++ [oX7 ty h0 a0 z0]) := (List.Perm.refl _)
  refine ci_call (out := v1) (os := [oX7 ty h0 a0 z0]) (oc := []) (oc' := []) (or_ := [oX7 ty h0 a0 z0]) (os' := [oX7 ty h0 a0 z0]) (va_runS (As := [.long p1.toInt64, .long (0 : Int64), .long ((z0.1 4) - (1 : Int32)).toInt64]) (rest := []) F (c_X7_in l D ty _ _ _ _ hv _) (va_cwS 3 F.2.2.2.2 gX7_noRing_X7_in rfl rfl rfl hd_X7_in ⟨Nat.le_of_ble_eq_true rfl, Nat.le_of_ble_eq_true rfl⟩) (pre_s hK hP hD hp1) rfl rfl hl.1 rfl (lv_room (Nat.le_of_ble_eq_true rfl)) dX7_noRing_10 ⟨Nat.zero_le _, Nat.zero_le _⟩) hp1 (List.Perm.refl _) hP hD hS hA (fun H locs hP hD hS => ?_)
  clear hp1 hv
  refine lv_if_ne (tgt := 20) hx hb dX7_noRing_13 (by decide) (fun hc => ?_) (fun hc => ?_)
  · replace hf := ite_f hf hc
    refine lv_iconst (v := (0 : Int32)) hx hb dX7_noRing_20 (by decide) ?_
    obtain hf := hf
    have e0 := Option.some.inj hf
    exact CX_z F hr hlk hP hD hS narrow_b0 e0 dX7_noRing_21
  · replace hf := ite_t hf hc
    refine lv_iconst (v := (1 : Int32)) hx hb dX7_noRing_16 (by decide) ?_
    refine lv_goto (tgt := 21) hx hb dX7_noRing_17 (by decide) ?_
    obtain hf := hf
    have e0 := Option.some.inj hf
    exact CX_z F hr hlk hP hD hS narrow_b1 e0 dX7_noRing_21
def b_X7_write_39 (p1 : Int32) (p2 : Int64) (r_39 : Int32 → Ob → Option (Int32 × Ob)) (y4 : Int32) (w0 : Ob) : Option (Int32 × Ob) := (if y4 < 0 then some ((w0.1 2), w0) else (if inb (w0.1 2) 80 = true then bnd (sA w0 1 (upd (w0.2 1) (w0.1 2).toNatClampNeg ((p2 >>> (((8 : Int32) * y4).toInt64 &&& 63)).toInt32 &&& (255 : Int32)))) (fun g4 => bnd (sI g4 2 ((g4.1 2) + (1 : Int32))) (fun g5 => bnd (y4 + (-1 : Int32)) (fun x6 => r_39 x6 g5))) else none))
def f_X7_write (z0 : Ob) (p1 : Int32) (p2 : Int64) : Option (Int32 × Ob) := bnd (sI z0 0 (0 : Int32)) (fun g1 => (f_X7_in p1.toInt64 (1 : Int64) (8 : Int64)).bind (fun v2 => (if v2 = 0 then some ((-2 : Int32), g1) else (if ((g1.1 2) + p1) ≤ (80 : Int32) then bnd (p1 - (1 : Int32)) (fun x3 => fuel2 (b_X7_write_39 p1 p2) FU x3 g1) else some ((-4 : Int32), g1)))))
abbrev rm_X7_write : Room := { frames := 1, cells := 0, slots := 0, locals := 25 }
theorem hd_X7_write : yX7_write.cls ≠ "java/lang/invoke/MethodHandle" ∧ yX7_write.cls ≠ "java/lang/invoke/VarHandle" ∧ (parseMethodDescriptor yX7_write.desc).map (fun d => d.parameters.length) = some 2 := by decide +kernel
theorem in_X7_write_X7 : ∀ w ∈ wsX70, w ∈ wsX7_write := fun w h => List.mem_cons_of_mem _ (List.mem_append_right _ h)
set_option maxHeartbeats 4000000 in
set_option maxRecDepth 100000 in
theorem c_X7_write (l : Launch) (D : va_G) (ty : TY) (h0 : Nat) (a0 : Nat → Nat) (z0 : Ob) (p1 : Int32) (p2 : Int64) (o0 : Int32) (o1 : Ob) (hf : f_X7_write z0 p1 p2 = some (o0, o1)) (sz : Nat) : CX l yX7_write wsX7_write rm_X7_write ([.ref h0, .int p1, .long p2] : List Value) D ty (fl [oX7 ty h0 a0 z0]) sz (qI D o0 (fl [oX7 ty h0 a0 o1])) 0 0 := by
  refine CX_of (cc := cX7_write) (maxL := 5) (ret := (some .int)) (C := RX7) (by decide) rfl rfl (Nat.le_of_ble_eq_true rfl) ?_
  intro p e s m below meth c A ls F hr hlk _ hK hP hD hS hA hl
  have hx := F.1
  have hb := F.2.1
  replace hl : lv_has ls 5 [(0, .ref h0), (1, .int p1), (2, .long p2)] := hl
  unfold f_X7_write at hf
  refine lv_aload_n hx hb dX7_write_0 rfl (lv_at hl 0 rfl) ?_
  refine lv_iconst (v := (0 : Int32)) hx hb dX7_write_1 (by decide) ?_
  refine pt_put (D := D) (ci := 7) (fty := .int) (C := RX7) (T := TX7) (N := 40) (w1 := fl [oX7 ty h0 a0 (sI z0 0 (0 : Int32))]) F in_X7_write_X7 tyX7 tyX7_ok nmX7 hK.1 hP hD hS 0 rfl rfl 0 (Nat.le_of_ble_eq_true rfl) (F.2.2.2.2 (.fieldLink RX7 71 "LouderRoomModel" "thrown" "I") (List.mem_of_getElem? (i := 1) rfl)) (fun _ h9 => h9) rfl (by decide +kernel) rfl rfl (Nat.le_of_ble_eq_true rfl) rfl dX7_write_2 (fun H locs hP hD hS => ?_)
  obtain ⟨g1, ex⟩ : ∃ y : Ob, y = (sI z0 0 (0 : Int32)) := ⟨_, rfl⟩
  replace hf := bnd_at hf ex; rw [← ex] at hP hD; clear ex
  refine lv_iload_n hx hb dX7_write_5 rfl (lv_at hl 1 rfl) ?_
  refine lv_i2l hx hb dX7_write_6 rfl ?_
  refine lv_lconst (v := (1 : Int64)) hx hb dX7_write_7 (by decide) ?_
  refine lv_ldc2 hx hb F.2.2.2.1 (F.2.2.2.2 (.constantLong RX7 82 (8)) (List.mem_of_getElem? (i := 2) rfl)) dX7_write_8 ?_
  obtain ⟨v2, hv, hf⟩ := obd hf
  have hp1 : List.Perm [oX7 ty h0 a0 g1] ([] ++ [oX7 ty h0 a0 g1]) := (List.Perm.refl _)
  refine ci_call (out := v2) (os := [oX7 ty h0 a0 g1]) (oc := []) (oc' := []) (or_ := [oX7 ty h0 a0 g1]) (os' := [oX7 ty h0 a0 g1]) (va_runS (As := [.long p1.toInt64, .long (1 : Int64), .long (8 : Int64)]) (rest := []) F (c_X7_in l D ty _ _ _ _ hv _) (va_cwS 3 F.2.2.2.2 gX7_write_X7_in rfl rfl rfl hd_X7_in ⟨Nat.le_of_ble_eq_true rfl, Nat.le_of_ble_eq_true rfl⟩) (pre_s hK hP hD hp1) rfl rfl hl.1 rfl (lv_room (Nat.le_of_ble_eq_true rfl)) dX7_write_11 ⟨Nat.zero_le _, Nat.zero_le _⟩) hp1 (List.Perm.refl _) hP hD hS hA (fun H locs hP hD hS => ?_)
  clear hp1 hv
  refine lv_if_ne (tgt := 20) hx hb dX7_write_14 (by decide) (fun hc => ?_) (fun hc => ?_)
  · replace hf := ite_f hf hc
    refine lv_aload_n hx hb dX7_write_20 rfl (lv_at hl 0 rfl) ?_
    refine va_get (D := D) (ci := 7) (C := RX7) (T := TX7) (N := 40) hx hb F.2.2.2.2 in_X7_write_X7 F.2.2.2.1 hK.1 hP 0 rfl rfl 2 (Nat.le_of_ble_eq_true rfl) (F.2.2.2.2 (.fieldLink RX7 84 "LouderRoomModel" "textSize" "I") (List.mem_of_getElem? (i := 3) rfl)) (fun _ h9 => h9) rfl dX7_write_21 ?_
    refine lv_iload_n hx hb dX7_write_24 rfl (lv_at hl 1 rfl) ?_
    refine lv_iadd hx hb dX7_write_25 ?_
    refine lv_bipush (v := (80 : Int32)) hx hb dX7_write_26 (by decide) ?_
    refine lv_icmp_le (tgt := 34) hx hb dX7_write_28 (by decide) (fun hc => ?_) (fun hc => ?_)
    · replace hf := ite_t hf hc
      refine lv_iload_n hx hb dX7_write_34 rfl (lv_at hl 1 rfl) ?_
      refine lv_iconst (v := (1 : Int32)) hx hb dX7_write_35 (by decide) ?_
      refine lv_isub hx hb dX7_write_36 ?_
      refine lv_topi (fun x3 ex => ?_)
      replace hf := bnd_at hf ex; clear ex
      refine lv_istore (lv' := [(4, .int x3), (0, .ref h0), (1, .int p1), (2, .long p2)]) hx hb dX7_write_37 hl (by decide) rfl (fun ls hl => ?_)
      have L_39 : ∀ (n : Nat) (y4 : Int32) (w0 : Ob) (H : Heap) (locs : List Loc) (ls : Array Slot), va_P D vwC (fl [oX7 ty h0 a0 w0]) H → va_D A (fl [oX7 ty h0 a0 w0]) → va_S A s.heap H locs → lv_has ls 5 [(0, .ref h0), (2, .long p2), (4, .int y4)] → fuel2 (b_X7_write_39 p1 p2) n y4 w0 = some (o0, o1) → W p l e rm_X7_write s m ([.ref h0, .int p1, .long p2] : List Value).toArray below meth c H locs 0 0 (MQ below (qI D o0 (fl [oX7 ty h0 a0 o1]) A) ([.ref h0, .int p1, .long p2] : List Value).toArray s 0 0 A) (F0 m 39 ls []) := by
        intro n
        induction n with
        | zero => intro y4 w0 H locs ls hP hD hS hl hf; cases hf
        | succ n ih_39 =>
          intro y4 w0 H locs ls hP hD hS hl hf
          replace hf : b_X7_write_39 p1 p2 (fuel2 (b_X7_write_39 p1 p2) n) y4 w0 = some (o0, o1) := hf
          generalize fuel2 (b_X7_write_39 p1 p2) n = r_39 at ih_39 hf
          unfold b_X7_write_39 at hf
          refine lv_iload hx hb dX7_write_39 (lv_at hl 2 rfl) ?_
          refine lv_if_lt (tgt := 81) hx hb dX7_write_41 (by decide) (fun hc => ?_) (fun hc => ?_)
          · replace hf := ite_t hf hc
            refine lv_aload_n hx hb dX7_write_81 rfl (lv_at hl 0 rfl) ?_
            refine va_get (D := D) (ci := 7) (C := RX7) (T := TX7) (N := 40) hx hb F.2.2.2.2 in_X7_write_X7 F.2.2.2.1 hK.1 hP 0 rfl rfl 2 (Nat.le_of_ble_eq_true rfl) (F.2.2.2.2 (.fieldLink RX7 84 "LouderRoomModel" "textSize" "I") (List.mem_of_getElem? (i := 3) rfl)) (fun _ h9 => h9) rfl dX7_write_82 ?_
            obtain hf := hf
            obtain ⟨e0, e1⟩ := tup2 hf
            rw [e1] at hP hD
            exact CX_i F hr hlk hP hD hS e0 dX7_write_85
          · replace hf := ite_f hf hc
            refine lv_aload_n hx hb dX7_write_44 rfl (lv_at hl 0 rfl) ?_
            refine va_get (D := D) (ci := 7) (C := RX7) (T := TX7) (N := 40) hx hb F.2.2.2.2 in_X7_write_X7 F.2.2.2.1 hK.1 hP 0 rfl rfl 1 (Nat.le_of_ble_eq_true rfl) (F.2.2.2.2 (.fieldLink RX7 7 "LouderRoomModel" "text" "[I") (List.mem_of_getElem? (i := 4) rfl)) (fun _ h9 => h9) rfl dX7_write_45 ?_
            refine lv_aload_n hx hb dX7_write_48 rfl (lv_at hl 0 rfl) ?_
            refine va_get (D := D) (ci := 7) (C := RX7) (T := TX7) (N := 40) hx hb F.2.2.2.2 in_X7_write_X7 F.2.2.2.1 hK.1 hP 0 rfl rfl 2 (Nat.le_of_ble_eq_true rfl) (F.2.2.2.2 (.fieldLink RX7 84 "LouderRoomModel" "textSize" "I") (List.mem_of_getElem? (i := 3) rfl)) (fun _ h9 => h9) rfl dX7_write_49 ?_
            refine lv_lload_n hx hb dX7_write_52 rfl (lv_at hl 1 rfl) ?_
            refine lv_bipush (v := (8 : Int32)) hx hb dX7_write_53 (by decide) ?_
            refine lv_iload hx hb dX7_write_55 (lv_at hl 2 rfl) ?_
            refine lv_imul hx hb dX7_write_57 ?_
            refine lv_lshr hx hb dX7_write_58 rfl ?_
            refine lv_l2i hx hb dX7_write_59 rfl ?_
            refine lv_sipush (v := (255 : Int32)) hx hb dX7_write_60 (by decide) ?_
            refine lv_iand hx hb dX7_write_63 ?_
            obtain ⟨hi, hf⟩ := grd hf
            refine pt_iast (w1 := fl [oX7 ty h0 a0 (sA w0 1 (upd (w0.2 1) (w0.1 2).toNatClampNeg ((p2 >>> (((8 : Int32) * y4).toInt64 &&& 63)).toInt32 &&& (255 : Int32))))]) F hK.1 hP hD hS 1 0 rfl rfl (inb_in hi) rfl dX7_write_64 (fun H locs hP hD hS => ?_)
            obtain ⟨g4, ex⟩ : ∃ y : Ob, y = (sA w0 1 (upd (w0.2 1) (w0.1 2).toNatClampNeg ((p2 >>> (((8 : Int32) * y4).toInt64 &&& 63)).toInt32 &&& (255 : Int32)))) := ⟨_, rfl⟩
            replace hf := bnd_at hf ex; rw [← ex] at hP hD; clear ex
            refine lv_aload_n hx hb dX7_write_65 rfl (lv_at hl 0 rfl) ?_
            refine lv_dup hx hb dX7_write_66 rfl ?_
            refine va_get (D := D) (ci := 7) (C := RX7) (T := TX7) (N := 40) hx hb F.2.2.2.2 in_X7_write_X7 F.2.2.2.1 hK.1 hP 0 rfl rfl 2 (Nat.le_of_ble_eq_true rfl) (F.2.2.2.2 (.fieldLink RX7 84 "LouderRoomModel" "textSize" "I") (List.mem_of_getElem? (i := 3) rfl)) (fun _ h9 => h9) rfl dX7_write_67 ?_
            refine lv_iconst (v := (1 : Int32)) hx hb dX7_write_70 (by decide) ?_
            refine lv_iadd hx hb dX7_write_71 ?_
            refine pt_put (D := D) (ci := 7) (fty := .int) (C := RX7) (T := TX7) (N := 40) (w1 := fl [oX7 ty h0 a0 (sI g4 2 ((g4.1 2) + (1 : Int32)))]) F in_X7_write_X7 tyX7 tyX7_ok nmX7 hK.1 hP hD hS 0 rfl rfl 2 (Nat.le_of_ble_eq_true rfl) (F.2.2.2.2 (.fieldLink RX7 84 "LouderRoomModel" "textSize" "I") (List.mem_of_getElem? (i := 3) rfl)) (fun _ h9 => h9) rfl (by decide +kernel) rfl rfl (Nat.le_of_ble_eq_true rfl) rfl dX7_write_72 (fun H locs hP hD hS => ?_)
            obtain ⟨g5, ex⟩ : ∃ y : Ob, y = (sI g4 2 ((g4.1 2) + (1 : Int32))) := ⟨_, rfl⟩
            replace hf := bnd_at hf ex; rw [← ex] at hP hD; clear ex
            obtain ⟨x6, ex⟩ : ∃ y : Int32, y = (y4 + (-1 : Int32)) := ⟨_, rfl⟩
            replace hf := bnd_at hf ex
            refine lv_iinc (v := x6) (lv' := [(4, .int x6), (0, .ref h0), (2, .long p2)]) hx hb dX7_write_75 hl (k := 2) rfl (by rw [ex]; rfl) (by decide) rfl (fun ls hl => ?_)
            clear ex
            refine lv_goto (tgt := 39) hx hb dX7_write_78 (by decide) ?_
            exact ih_39 x6 g5 _ _ _ hP hD hS (lv_sub hl [1, 2, 0] rfl) hf
      exact L_39 FU x3 g1 _ _ _ hP hD hS (lv_sub hl [1, 3, 0] rfl) hf
    · replace hf := ite_f hf hc
      refine lv_bipush (v := (-4 : Int32)) hx hb dX7_write_31 (by decide) ?_
      obtain hf := hf
      obtain ⟨e0, e1⟩ := tup2 hf
      rw [e1] at hP hD
      exact CX_i F hr hlk hP hD hS e0 dX7_write_33
  · replace hf := ite_t hf hc
    refine lv_bipush (v := (-2 : Int32)) hx hb dX7_write_17 (by decide) ?_
    obtain hf := hf
    obtain ⟨e0, e1⟩ := tup2 hf
    rw [e1] at hP hD
    exact CX_i F hr hlk hP hD hS e0 dX7_write_19
def f_X7_wipe (z0 : Ob) : Option (Int32 × Ob) := bnd (sI z0 0 (0 : Int32)) (fun g1 => bnd (g1.1 2) (fun x2 => bnd (sI g1 2 (0 : Int32)) (fun g3 => some (x2, g3))))
abbrev rm_X7_wipe : Room := { frames := 0, cells := 0, slots := 0, locals := 0 }
theorem hd_X7_wipe : yX7_wipe.cls ≠ "java/lang/invoke/MethodHandle" ∧ yX7_wipe.cls ≠ "java/lang/invoke/VarHandle" ∧ (parseMethodDescriptor yX7_wipe.desc).map (fun d => d.parameters.length) = some 0 := by decide +kernel
theorem in_X7_wipe_X7 : ∀ w ∈ wsX70, w ∈ wsX7_wipe := fun w h => List.mem_cons_of_mem _ (List.mem_append_right _ h)
set_option maxHeartbeats 4000000 in
set_option maxRecDepth 100000 in
theorem c_X7_wipe (l : Launch) (D : va_G) (ty : TY) (h0 : Nat) (a0 : Nat → Nat) (z0 : Ob) (o0 : Int32) (o1 : Ob) (hf : f_X7_wipe z0 = some (o0, o1)) (sz : Nat) : CX l yX7_wipe wsX7_wipe rm_X7_wipe ([.ref h0] : List Value) D ty (fl [oX7 ty h0 a0 z0]) sz (qI D o0 (fl [oX7 ty h0 a0 o1])) 0 0 := by
  refine CX_of (cc := cX7_wipe) (maxL := 2) (ret := (some .int)) (C := RX7) (by decide) rfl rfl (Nat.le_of_ble_eq_true rfl) ?_
  intro p e s m below meth c A ls F hr hlk _ hK hP hD hS hA hl
  have hx := F.1
  have hb := F.2.1
  replace hl : lv_has ls 2 [(0, .ref h0)] := hl
  unfold f_X7_wipe at hf
  refine lv_aload_n hx hb dX7_wipe_0 rfl (lv_at hl 0 rfl) ?_
  refine lv_iconst (v := (0 : Int32)) hx hb dX7_wipe_1 (by decide) ?_
  refine pt_put (D := D) (ci := 7) (fty := .int) (C := RX7) (T := TX7) (N := 40) (w1 := fl [oX7 ty h0 a0 (sI z0 0 (0 : Int32))]) F in_X7_wipe_X7 tyX7 tyX7_ok nmX7 hK.1 hP hD hS 0 rfl rfl 0 (Nat.le_of_ble_eq_true rfl) (F.2.2.2.2 (.fieldLink RX7 71 "LouderRoomModel" "thrown" "I") (List.mem_of_getElem? (i := 1) rfl)) (fun _ h9 => h9) rfl (by decide +kernel) rfl rfl (Nat.le_of_ble_eq_true rfl) rfl dX7_wipe_2 (fun H locs hP hD hS => ?_)
  obtain ⟨g1, ex⟩ : ∃ y : Ob, y = (sI z0 0 (0 : Int32)) := ⟨_, rfl⟩
  replace hf := bnd_at hf ex; rw [← ex] at hP hD; clear ex
  refine lv_aload_n hx hb dX7_wipe_5 rfl (lv_at hl 0 rfl) ?_
  refine va_get (D := D) (ci := 7) (C := RX7) (T := TX7) (N := 40) hx hb F.2.2.2.2 in_X7_wipe_X7 F.2.2.2.1 hK.1 hP 0 rfl rfl 2 (Nat.le_of_ble_eq_true rfl) (F.2.2.2.2 (.fieldLink RX7 84 "LouderRoomModel" "textSize" "I") (List.mem_of_getElem? (i := 2) rfl)) (fun _ h9 => h9) rfl dX7_wipe_6 ?_
  refine lv_topi (fun x2 ex => ?_)
  replace hf := bnd_at hf ex; clear ex
  refine lv_istore_n (lv' := [(1, .int x2), (0, .ref h0)]) hx hb dX7_wipe_9 rfl hl (by decide) rfl (fun ls hl => ?_)
  refine lv_aload_n hx hb dX7_wipe_10 rfl (lv_at hl 1 rfl) ?_
  refine lv_iconst (v := (0 : Int32)) hx hb dX7_wipe_11 (by decide) ?_
  refine pt_put (D := D) (ci := 7) (fty := .int) (C := RX7) (T := TX7) (N := 40) (w1 := fl [oX7 ty h0 a0 (sI g1 2 (0 : Int32))]) F in_X7_wipe_X7 tyX7 tyX7_ok nmX7 hK.1 hP hD hS 0 rfl rfl 2 (Nat.le_of_ble_eq_true rfl) (F.2.2.2.2 (.fieldLink RX7 84 "LouderRoomModel" "textSize" "I") (List.mem_of_getElem? (i := 2) rfl)) (fun _ h9 => h9) rfl (by decide +kernel) rfl rfl (Nat.le_of_ble_eq_true rfl) rfl dX7_wipe_12 (fun H locs hP hD hS => ?_)
  obtain ⟨g3, ex⟩ : ∃ y : Ob, y = (sI g1 2 (0 : Int32)) := ⟨_, rfl⟩
  replace hf := bnd_at hf ex; rw [← ex] at hP hD; clear ex
  refine lv_iload_n hx hb dX7_wipe_15 rfl (lv_at hl 0 rfl) ?_
  obtain hf := hf
  obtain ⟨e0, e1⟩ := tup2 hf
  rw [e1] at hP hD
  exact CX_i F hr hlk hP hD hS e0 dX7_wipe_16
def f_X7_figure (z0 : Ob) (p1 : Int32) (p2 : Int32) : Option (Int32 × Ob) := (if (z0.1 3) = (z0.1 2) then some ((-9 : Int32), z0) else (if inb (z0.1 3) 80 = true then (f_X7_in ((z0.2 1 (z0.1 3).toNatClampNeg) - (48 : Int32)).toInt64 p1.toInt64 p2.toInt64).bind (fun v1 => (if v1 = 0 then some ((-9 : Int32), z0) else bnd (sI z0 3 ((z0.1 3) + (1 : Int32))) (fun g2 => (if inb ((g2.1 3) - (1 : Int32)) 80 = true then some (((g2.2 1 ((g2.1 3) - (1 : Int32)).toNatClampNeg) - (48 : Int32)), g2) else none)))) else none))
abbrev rm_X7_figure : Room := { frames := 1, cells := 0, slots := 0, locals := 25 }
theorem hd_X7_figure : yX7_figure.cls ≠ "java/lang/invoke/MethodHandle" ∧ yX7_figure.cls ≠ "java/lang/invoke/VarHandle" ∧ (parseMethodDescriptor yX7_figure.desc).map (fun d => d.parameters.length) = some 2 := by decide +kernel
theorem in_X7_figure_X7 : ∀ w ∈ wsX70, w ∈ wsX7_figure := fun w h => List.mem_cons_of_mem _ (List.mem_append_right _ h)
set_option maxHeartbeats 4000000 in
set_option maxRecDepth 100000 in
theorem c_X7_figure (l : Launch) (D : va_G) (ty : TY) (h0 : Nat) (a0 : Nat → Nat) (z0 : Ob) (p1 : Int32) (p2 : Int32) (o0 : Int32) (o1 : Ob) (hf : f_X7_figure z0 p1 p2 = some (o0, o1)) (sz : Nat) : CX l yX7_figure wsX7_figure rm_X7_figure ([.ref h0, .int p1, .int p2] : List Value) D ty (fl [oX7 ty h0 a0 z0]) sz (qI D o0 (fl [oX7 ty h0 a0 o1])) 0 0 := by
  refine CX_of (cc := cX7_figure) (maxL := 3) (ret := (some .int)) (C := RX7) (by decide) rfl rfl (Nat.le_of_ble_eq_true rfl) ?_
  intro p e s m below meth c A ls F hr hlk _ hK hP hD hS hA hl
  have hx := F.1
  have hb := F.2.1
  replace hl : lv_has ls 3 [(0, .ref h0), (1, .int p1), (2, .int p2)] := hl
  unfold f_X7_figure at hf
  refine lv_aload_n hx hb dX7_figure_0 rfl (lv_at hl 0 rfl) ?_
  refine va_get (D := D) (ci := 7) (C := RX7) (T := TX7) (N := 40) hx hb F.2.2.2.2 in_X7_figure_X7 F.2.2.2.1 hK.1 hP 0 rfl rfl 3 (Nat.le_of_ble_eq_true rfl) (F.2.2.2.2 (.fieldLink RX7 87 "LouderRoomModel" "place" "I") (List.mem_of_getElem? (i := 1) rfl)) (fun _ h9 => h9) rfl dX7_figure_1 ?_
  refine lv_aload_n hx hb dX7_figure_4 rfl (lv_at hl 0 rfl) ?_
  refine va_get (D := D) (ci := 7) (C := RX7) (T := TX7) (N := 40) hx hb F.2.2.2.2 in_X7_figure_X7 F.2.2.2.1 hK.1 hP 0 rfl rfl 2 (Nat.le_of_ble_eq_true rfl) (F.2.2.2.2 (.fieldLink RX7 84 "LouderRoomModel" "textSize" "I") (List.mem_of_getElem? (i := 2) rfl)) (fun _ h9 => h9) rfl dX7_figure_5 ?_
  refine lv_icmp_eq (tgt := 34) hx hb dX7_figure_8 (by decide) (fun hc => ?_) (fun hc => ?_)
  · replace hf := ite_t hf hc
    refine lv_bipush (v := (-9 : Int32)) hx hb dX7_figure_34 (by decide) ?_
    obtain hf := hf
    obtain ⟨e0, e1⟩ := tup2 hf
    rw [e1] at hP hD
    exact CX_i F hr hlk hP hD hS e0 dX7_figure_36
  · replace hf := ite_f hf hc
    refine lv_aload_n hx hb dX7_figure_11 rfl (lv_at hl 0 rfl) ?_
    refine va_get (D := D) (ci := 7) (C := RX7) (T := TX7) (N := 40) hx hb F.2.2.2.2 in_X7_figure_X7 F.2.2.2.1 hK.1 hP 0 rfl rfl 1 (Nat.le_of_ble_eq_true rfl) (F.2.2.2.2 (.fieldLink RX7 7 "LouderRoomModel" "text" "[I") (List.mem_of_getElem? (i := 3) rfl)) (fun _ h9 => h9) rfl dX7_figure_12 ?_
    refine lv_aload_n hx hb dX7_figure_15 rfl (lv_at hl 0 rfl) ?_
    refine va_get (D := D) (ci := 7) (C := RX7) (T := TX7) (N := 40) hx hb F.2.2.2.2 in_X7_figure_X7 F.2.2.2.1 hK.1 hP 0 rfl rfl 3 (Nat.le_of_ble_eq_true rfl) (F.2.2.2.2 (.fieldLink RX7 87 "LouderRoomModel" "place" "I") (List.mem_of_getElem? (i := 1) rfl)) (fun _ h9 => h9) rfl dX7_figure_16 ?_
    obtain ⟨hi, hf⟩ := grd hf
    refine va_iald hx hb hK.1 hP 1 0 rfl rfl (inb_in hi) dX7_figure_19 ?_
    refine lv_bipush (v := (48 : Int32)) hx hb dX7_figure_20 (by decide) ?_
    refine lv_isub hx hb dX7_figure_22 ?_
    refine lv_i2l hx hb dX7_figure_23 rfl ?_
    refine lv_iload_n hx hb dX7_figure_24 rfl (lv_at hl 1 rfl) ?_
    refine lv_i2l hx hb dX7_figure_25 rfl ?_
    refine lv_iload_n hx hb dX7_figure_26 rfl (lv_at hl 2 rfl) ?_
    refine lv_i2l hx hb dX7_figure_27 rfl ?_
    obtain ⟨v1, hv, hf⟩ := obd hf
    have hp1 : List.Perm [oX7 ty h0 a0 z0] ([] ++ [oX7 ty h0 a0 z0]) := (List.Perm.refl _)
    refine ci_call (out := v1) (os := [oX7 ty h0 a0 z0]) (oc := []) (oc' := []) (or_ := [oX7 ty h0 a0 z0]) (os' := [oX7 ty h0 a0 z0]) (va_runS (As := [.long ((z0.2 1 (z0.1 3).toNatClampNeg) - (48 : Int32)).toInt64, .long p1.toInt64, .long p2.toInt64]) (rest := []) F (c_X7_in l D ty _ _ _ _ hv _) (va_cwS 3 F.2.2.2.2 gX7_figure_X7_in rfl rfl rfl hd_X7_in ⟨Nat.le_of_ble_eq_true rfl, Nat.le_of_ble_eq_true rfl⟩) (pre_s hK hP hD hp1) rfl rfl hl.1 rfl (lv_room (Nat.le_of_ble_eq_true rfl)) dX7_figure_28 ⟨Nat.zero_le _, Nat.zero_le _⟩) hp1 (List.Perm.refl _) hP hD hS hA (fun H locs hP hD hS => ?_)
    clear hp1 hv
    refine lv_if_ne (tgt := 37) hx hb dX7_figure_31 (by decide) (fun hc => ?_) (fun hc => ?_)
    · replace hf := ite_f hf hc
      refine lv_aload_n hx hb dX7_figure_37 rfl (lv_at hl 0 rfl) ?_
      refine lv_dup hx hb dX7_figure_38 rfl ?_
      refine va_get (D := D) (ci := 7) (C := RX7) (T := TX7) (N := 40) hx hb F.2.2.2.2 in_X7_figure_X7 F.2.2.2.1 hK.1 hP 0 rfl rfl 3 (Nat.le_of_ble_eq_true rfl) (F.2.2.2.2 (.fieldLink RX7 87 "LouderRoomModel" "place" "I") (List.mem_of_getElem? (i := 1) rfl)) (fun _ h9 => h9) rfl dX7_figure_39 ?_
      refine lv_iconst (v := (1 : Int32)) hx hb dX7_figure_42 (by decide) ?_
      refine lv_iadd hx hb dX7_figure_43 ?_
      refine pt_put (D := D) (ci := 7) (fty := .int) (C := RX7) (T := TX7) (N := 40) (w1 := fl [oX7 ty h0 a0 (sI z0 3 ((z0.1 3) + (1 : Int32)))]) F in_X7_figure_X7 tyX7 tyX7_ok nmX7 hK.1 hP hD hS 0 rfl rfl 3 (Nat.le_of_ble_eq_true rfl) (F.2.2.2.2 (.fieldLink RX7 87 "LouderRoomModel" "place" "I") (List.mem_of_getElem? (i := 1) rfl)) (fun _ h9 => h9) rfl (by decide +kernel) rfl rfl (Nat.le_of_ble_eq_true rfl) rfl dX7_figure_44 (fun H locs hP hD hS => ?_)
      obtain ⟨g2, ex⟩ : ∃ y : Ob, y = (sI z0 3 ((z0.1 3) + (1 : Int32))) := ⟨_, rfl⟩
      replace hf := bnd_at hf ex; rw [← ex] at hP hD; clear ex
      refine lv_aload_n hx hb dX7_figure_47 rfl (lv_at hl 0 rfl) ?_
      refine va_get (D := D) (ci := 7) (C := RX7) (T := TX7) (N := 40) hx hb F.2.2.2.2 in_X7_figure_X7 F.2.2.2.1 hK.1 hP 0 rfl rfl 1 (Nat.le_of_ble_eq_true rfl) (F.2.2.2.2 (.fieldLink RX7 7 "LouderRoomModel" "text" "[I") (List.mem_of_getElem? (i := 3) rfl)) (fun _ h9 => h9) rfl dX7_figure_48 ?_
      refine lv_aload_n hx hb dX7_figure_51 rfl (lv_at hl 0 rfl) ?_
      refine va_get (D := D) (ci := 7) (C := RX7) (T := TX7) (N := 40) hx hb F.2.2.2.2 in_X7_figure_X7 F.2.2.2.1 hK.1 hP 0 rfl rfl 3 (Nat.le_of_ble_eq_true rfl) (F.2.2.2.2 (.fieldLink RX7 87 "LouderRoomModel" "place" "I") (List.mem_of_getElem? (i := 1) rfl)) (fun _ h9 => h9) rfl dX7_figure_52 ?_
      refine lv_iconst (v := (1 : Int32)) hx hb dX7_figure_55 (by decide) ?_
      refine lv_isub hx hb dX7_figure_56 ?_
      obtain ⟨hi, hf⟩ := grd hf
      refine va_iald hx hb hK.1 hP 1 0 rfl rfl (inb_in hi) dX7_figure_57 ?_
      refine lv_bipush (v := (48 : Int32)) hx hb dX7_figure_58 (by decide) ?_
      refine lv_isub hx hb dX7_figure_60 ?_
      obtain hf := hf
      obtain ⟨e0, e1⟩ := tup2 hf
      rw [e1] at hP hD
      exact CX_i F hr hlk hP hD hS e0 dX7_figure_61
    · replace hf := ite_t hf hc
      refine lv_bipush (v := (-9 : Int32)) hx hb dX7_figure_34 (by decide) ?_
      obtain hf := hf
      obtain ⟨e0, e1⟩ := tup2 hf
      rw [e1] at hP hD
      exact CX_i F hr hlk hP hD hS e0 dX7_figure_36
def j_X7_isTold_35 (z0 : Ob) (p1 : Int32) (r_4 : Int32 → Int32 → Option (Int32)) (y3 : Int32) (t0 : Int32) : Option (Int32) := bnd (y3 + (1 : Int32)) (fun x1 => r_4 t0 x1)
def j_X7_isTold_30 (z0 : Ob) (p1 : Int32) (r_4 : Int32 → Int32 → Option (Int32)) (y3 : Int32) : Option (Int32) := j_X7_isTold_35 z0 p1 r_4 y3 (1 : Int32)
def b_X7_isTold_4 (z0 : Ob) (p1 : Int32) (r_4 : Int32 → Int32 → Option (Int32)) (y2 : Int32) (y3 : Int32) : Option (Int32) := (if (z0.1 16) ≤ y3 then (if isb y2 = true then some y2 else none) else (if y2 = 0 then (if inb (((5 : Int32) * y3) + (1 : Int32)) 40 = true then (if (z0.2 20 (((5 : Int32) * y3) + (1 : Int32)).toNatClampNeg) = p1 then j_X7_isTold_30 z0 p1 r_4 y3 else j_X7_isTold_35 z0 p1 r_4 y3 (0 : Int32)) else none) else j_X7_isTold_30 z0 p1 r_4 y3))
def f_X7_isTold (z0 : Ob) (p1 : Int32) : Option (Int32) := fuel2 (b_X7_isTold_4 z0 p1) FU (0 : Int32) (0 : Int32)
abbrev rm_X7_isTold : Room := { frames := 0, cells := 0, slots := 0, locals := 0 }
theorem hd_X7_isTold : yX7_isTold.cls ≠ "java/lang/invoke/MethodHandle" ∧ yX7_isTold.cls ≠ "java/lang/invoke/VarHandle" ∧ (parseMethodDescriptor yX7_isTold.desc).map (fun d => d.parameters.length) = some 1 := by decide +kernel
theorem in_X7_isTold_X7 : ∀ w ∈ wsX70, w ∈ wsX7_isTold := fun w h => List.mem_cons_of_mem _ (List.mem_append_right _ h)
set_option maxHeartbeats 4000000 in
set_option maxRecDepth 100000 in
theorem c_X7_isTold (l : Launch) (D : va_G) (ty : TY) (h0 : Nat) (a0 : Nat → Nat) (z0 : Ob) (p1 : Int32) (o0 : Int32) (hf : f_X7_isTold z0 p1 = some o0) (sz : Nat) : CX l yX7_isTold wsX7_isTold rm_X7_isTold ([.ref h0, .int p1] : List Value) D ty (fl [oX7 ty h0 a0 z0]) sz (qI D o0 (fl [oX7 ty h0 a0 z0])) 0 0 := by
  refine CX_of (cc := cX7_isTold) (maxL := 4) (ret := (some .boolean)) (C := RX7) (by decide) rfl rfl (Nat.le_of_ble_eq_true rfl) ?_
  intro p e s m below meth c A ls F hr hlk _ hK hP hD hS hA hl
  have hx := F.1
  have hb := F.2.1
  replace hl : lv_has ls 4 [(0, .ref h0), (1, .int p1)] := hl
  unfold f_X7_isTold at hf
  refine lv_iconst (v := (0 : Int32)) hx hb dX7_isTold_0 (by decide) ?_
  refine lv_istore_n (lv' := [(2, .int (0 : Int32)), (0, .ref h0), (1, .int p1)]) hx hb dX7_isTold_1 rfl hl (by decide) rfl (fun ls hl => ?_)
  refine lv_iconst (v := (0 : Int32)) hx hb dX7_isTold_2 (by decide) ?_
  refine lv_istore_n (lv' := [(3, .int (0 : Int32)), (2, .int (0 : Int32)), (0, .ref h0), (1, .int p1)]) hx hb dX7_isTold_3 rfl hl (by decide) rfl (fun ls hl => ?_)
  have L_4 : ∀ (n : Nat) (y2 : Int32) (y3 : Int32) (H : Heap) (locs : List Loc) (ls : Array Slot), va_P D vwC (fl [oX7 ty h0 a0 z0]) H → va_D A (fl [oX7 ty h0 a0 z0]) → va_S A s.heap H locs → lv_has ls 4 [(0, .ref h0), (1, .int p1), (2, .int y2), (3, .int y3)] → fuel2 (b_X7_isTold_4 z0 p1) n y2 y3 = some o0 → W p l e rm_X7_isTold s m ([.ref h0, .int p1] : List Value).toArray below meth c H locs 0 0 (MQ below (qI D o0 (fl [oX7 ty h0 a0 z0]) A) ([.ref h0, .int p1] : List Value).toArray s 0 0 A) (F0 m 4 ls []) := by
    intro n
    induction n with
    | zero => intro y2 y3 H locs ls hP hD hS hl hf; cases hf
    | succ n ih_4 =>
      intro y2 y3 H locs ls hP hD hS hl hf
      replace hf : b_X7_isTold_4 z0 p1 (fuel2 (b_X7_isTold_4 z0 p1) n) y2 y3 = some o0 := hf
      generalize fuel2 (b_X7_isTold_4 z0 p1) n = r_4 at ih_4 hf
      unfold b_X7_isTold_4 at hf
      have J_35 : ∀ (y3 : Int32) (t0 : Int32) (H : Heap) (locs : List Loc) (ls : Array Slot), va_P D vwC (fl [oX7 ty h0 a0 z0]) H → va_D A (fl [oX7 ty h0 a0 z0]) → va_S A s.heap H locs → lv_has ls 4 [(0, .ref h0), (1, .int p1), (3, .int y3)] → j_X7_isTold_35 z0 p1 r_4 y3 t0 = some o0 → W p l e rm_X7_isTold s m ([.ref h0, .int p1] : List Value).toArray below meth c H locs 0 0 (MQ below (qI D o0 (fl [oX7 ty h0 a0 z0]) A) ([.ref h0, .int p1] : List Value).toArray s 0 0 A) (F0 m 35 ls [.int t0]) := by
        intro y3 t0 H locs ls hP hD hS hl hf
        unfold j_X7_isTold_35 at hf
        refine lv_istore_n (lv' := [(2, .int t0), (0, .ref h0), (1, .int p1), (3, .int y3)]) hx hb dX7_isTold_35 rfl hl (by decide) rfl (fun ls hl => ?_)
        obtain ⟨x1, ex⟩ : ∃ y : Int32, y = (y3 + (1 : Int32)) := ⟨_, rfl⟩
        replace hf := bnd_at hf ex
        refine lv_iinc (v := x1) (lv' := [(3, .int x1), (2, .int t0), (0, .ref h0), (1, .int p1)]) hx hb dX7_isTold_36 hl (k := 3) rfl (by rw [ex]; rfl) (by decide) rfl (fun ls hl => ?_)
        clear ex
        refine lv_goto (tgt := 4) hx hb dX7_isTold_39 (by decide) ?_
        exact ih_4 t0 x1 _ _ _ hP hD hS (lv_sub hl [2, 3, 1, 0] rfl) hf
      have J_30 : ∀ (y3 : Int32) (H : Heap) (locs : List Loc) (ls : Array Slot), va_P D vwC (fl [oX7 ty h0 a0 z0]) H → va_D A (fl [oX7 ty h0 a0 z0]) → va_S A s.heap H locs → lv_has ls 4 [(0, .ref h0), (1, .int p1), (3, .int y3)] → j_X7_isTold_30 z0 p1 r_4 y3 = some o0 → W p l e rm_X7_isTold s m ([.ref h0, .int p1] : List Value).toArray below meth c H locs 0 0 (MQ below (qI D o0 (fl [oX7 ty h0 a0 z0]) A) ([.ref h0, .int p1] : List Value).toArray s 0 0 A) (F0 m 30 ls []) := by
        intro y3 H locs ls hP hD hS hl hf
        unfold j_X7_isTold_30 at hf
        refine lv_iconst (v := (1 : Int32)) hx hb dX7_isTold_30 (by decide) ?_
        refine lv_goto (tgt := 35) hx hb dX7_isTold_31 (by decide) ?_
        exact J_35 y3 (1 : Int32) _ _ _ hP hD hS (lv_sub hl [0, 1, 2] rfl) hf
      refine lv_iload_n hx hb dX7_isTold_4 rfl (lv_at hl 3 rfl) ?_
      refine lv_aload_n hx hb dX7_isTold_5 rfl (lv_at hl 0 rfl) ?_
      refine va_get (D := D) (ci := 7) (C := RX7) (T := TX7) (N := 40) hx hb F.2.2.2.2 in_X7_isTold_X7 F.2.2.2.1 hK.1 hP 0 rfl rfl 16 (Nat.le_of_ble_eq_true rfl) (F.2.2.2.2 (.fieldLink RX7 90 "LouderRoomModel" "readRings" "I") (List.mem_of_getElem? (i := 1) rfl)) (fun _ h9 => h9) rfl dX7_isTold_6 ?_
      refine lv_icmp_ge (tgt := 42) hx hb dX7_isTold_9 (by decide) (fun hc => ?_) (fun hc => ?_)
      · replace hf := ite_t hf hc
        refine lv_iload_n hx hb dX7_isTold_42 rfl (lv_at hl 2 rfl) ?_
        obtain ⟨hz, hf⟩ := grd hf
        obtain hf := hf
        have e0 := Option.some.inj hf
        exact CX_z F hr hlk hP hD hS (isb_n hz) e0 dX7_isTold_43
      · replace hf := ite_f hf hc
        refine lv_iload_n hx hb dX7_isTold_12 rfl (lv_at hl 2 rfl) ?_
        refine lv_if_ne (tgt := 30) hx hb dX7_isTold_13 (by decide) (fun hc => ?_) (fun hc => ?_)
        · replace hf := ite_f hf hc
          exact J_30 y3 _ _ _ hP hD hS (lv_sub hl [0, 1, 3] rfl) hf
        · replace hf := ite_t hf hc
          refine lv_aload_n hx hb dX7_isTold_16 rfl (lv_at hl 0 rfl) ?_
          refine va_get (D := D) (ci := 7) (C := RX7) (T := TX7) (N := 40) hx hb F.2.2.2.2 in_X7_isTold_X7 F.2.2.2.1 hK.1 hP 0 rfl rfl 20 (Nat.le_of_ble_eq_true rfl) (F.2.2.2.2 (.fieldLink RX7 34 "LouderRoomModel" "readRing" "[I") (List.mem_of_getElem? (i := 2) rfl)) (fun _ h9 => h9) rfl dX7_isTold_17 ?_
          refine lv_iconst (v := (5 : Int32)) hx hb dX7_isTold_20 (by decide) ?_
          refine lv_iload_n hx hb dX7_isTold_21 rfl (lv_at hl 3 rfl) ?_
          refine lv_imul hx hb dX7_isTold_22 ?_
          refine lv_iconst (v := (1 : Int32)) hx hb dX7_isTold_23 (by decide) ?_
          refine lv_iadd hx hb dX7_isTold_24 ?_
          obtain ⟨hi, hf⟩ := grd hf
          refine va_iald hx hb hK.1 hP 9 0 rfl rfl (inb_in hi) dX7_isTold_25 ?_
          refine lv_iload_n hx hb dX7_isTold_26 rfl (lv_at hl 1 rfl) ?_
          refine lv_icmp_ne (tgt := 34) hx hb dX7_isTold_27 (by decide) (fun hc => ?_) (fun hc => ?_)
          · replace hf := ite_f hf hc
            refine lv_iconst (v := (0 : Int32)) hx hb dX7_isTold_34 (by decide) ?_
            exact J_35 y3 (0 : Int32) _ _ _ hP hD hS (lv_sub hl [0, 1, 3] rfl) hf
          · replace hf := ite_t hf hc
            exact J_30 y3 _ _ _ hP hD hS (lv_sub hl [0, 1, 3] rfl) hf
  exact L_4 FU (0 : Int32) (0 : Int32) _ _ _ hP hD hS (lv_sub hl [2, 3, 1, 0] rfl) hf
def j_X7_readRing_140 (y1 : Int32) (y2 : Int32) (y3 : Int32) (y4 : Int32) (y5 : Int32) (t0 : Int32) (w0 : Ob) : Option (Int32 × Ob) := (if t0 = (-9 : Int32) then some ((0 : Int32), w0) else bnd ((5 : Int32) * (w0.1 16)) (fun x1 => (if inb x1 40 = true then bnd (sA w0 20 (upd (w0.2 20) x1.toNatClampNeg y1)) (fun g2 => (if inb (x1 + (1 : Int32)) 40 = true then bnd (sA g2 20 (upd (g2.2 20) (x1 + (1 : Int32)).toNatClampNeg (((10 : Int32) * y3) + y2))) (fun g3 => (if inb (x1 + (2 : Int32)) 40 = true then bnd (sA g3 20 (upd (g3.2 20) (x1 + (2 : Int32)).toNatClampNeg y4)) (fun g4 => (if inb (x1 + (3 : Int32)) 40 = true then bnd (sA g4 20 (upd (g4.2 20) (x1 + (3 : Int32)).toNatClampNeg y5)) (fun g5 => (if inb (x1 + (4 : Int32)) 40 = true then bnd (sA g5 20 (upd (g5.2 20) (x1 + (4 : Int32)).toNatClampNeg t0)) (fun g6 => bnd (sI g6 16 ((g6.1 16) + (1 : Int32))) (fun g7 => some ((1 : Int32), g7))) else none)) else none)) else none)) else none)) else none)))
def j_X7_readRing_119 (y1 : Int32) (y2 : Int32) (y3 : Int32) (y4 : Int32) (t0 : Int32) (w0 : Ob) : Option (Int32 × Ob) := (if t0 = (-9 : Int32) then j_X7_readRing_140 y1 y2 y3 y4 t0 (-9 : Int32) w0 else bd2 (f_X7_figure w0 (0 : Int32) (9 : Int32)) (fun v8 g9 => j_X7_readRing_140 y1 y2 y3 y4 t0 v8 g9))
def j_X7_readRing_98 (y1 : Int32) (y2 : Int32) (y3 : Int32) (t0 : Int32) (w0 : Ob) : Option (Int32 × Ob) := (if t0 = (-9 : Int32) then j_X7_readRing_119 y1 y2 y3 t0 (-9 : Int32) w0 else bd2 (f_X7_figure w0 (1 : Int32) (9 : Int32)) (fun v10 g11 => j_X7_readRing_119 y1 y2 y3 t0 v10 g11))
def j_X7_readRing_79 (y1 : Int32) (y2 : Int32) (t0 : Int32) (w0 : Ob) : Option (Int32 × Ob) := (if t0 = (-9 : Int32) then j_X7_readRing_98 y1 y2 t0 (-9 : Int32) w0 else bd2 (f_X7_figure w0 (1 : Int32) (9 : Int32)) (fun v12 g13 => j_X7_readRing_98 y1 y2 t0 v12 g13))
def j_X7_readRing_67 (y1 : Int32) (y2 : Int32) (w0 : Ob) : Option (Int32 × Ob) := j_X7_readRing_79 y1 y2 (-9 : Int32) w0
def j_X7_readRing_72 (y1 : Int32) (y2 : Int32) (w0 : Ob) : Option (Int32 × Ob) := bd2 (f_X7_figure w0 (0 : Int32) (9 : Int32)) (fun v14 g15 => j_X7_readRing_79 y1 y2 v14 g15)
def j_X7_readRing_25 (y1 : Int32) (t0 : Int32) (w0 : Ob) : Option (Int32 × Ob) := (if t0 = (-9 : Int32) then j_X7_readRing_67 y1 t0 w0 else (if (w0.1 2) ≤ (w0.1 3) then j_X7_readRing_72 y1 t0 w0 else (if inb (w0.1 3) 80 = true then (f_X7_isTold w0 (((10 : Int32) * ((w0.2 1 (w0.1 3).toNatClampNeg) - (48 : Int32))) + t0)).bind (fun v16 => (if v16 = 0 then j_X7_readRing_72 y1 t0 w0 else j_X7_readRing_67 y1 t0 w0)) else none)))
def f_X7_readRing (z0 : Ob) : Option (Int32 × Ob) := bd2 (f_X7_figure z0 (0 : Int32) (4 : Int32)) (fun v17 g18 => (if v17 = (-9 : Int32) then j_X7_readRing_25 v17 (-9 : Int32) g18 else bd2 (f_X7_figure g18 (0 : Int32) (9 : Int32)) (fun v19 g20 => j_X7_readRing_25 v17 v19 g20)))
abbrev rm_X7_readRing : Room := { frames := 2, cells := 0, slots := 0, locals := 47 }
theorem hd_X7_readRing : yX7_readRing.cls ≠ "java/lang/invoke/MethodHandle" ∧ yX7_readRing.cls ≠ "java/lang/invoke/VarHandle" ∧ (parseMethodDescriptor yX7_readRing.desc).map (fun d => d.parameters.length) = some 0 := by decide +kernel
theorem in_X7_readRing_X7 : ∀ w ∈ wsX70, w ∈ wsX7_readRing := fun w h => List.mem_cons_of_mem _ (List.mem_append_right _ h)
set_option maxHeartbeats 4000000 in
set_option maxRecDepth 100000 in
theorem c_X7_readRing (l : Launch) (D : va_G) (ty : TY) (h0 : Nat) (a0 : Nat → Nat) (z0 : Ob) (o0 : Int32) (o1 : Ob) (hf : f_X7_readRing z0 = some (o0, o1)) (sz : Nat) : CX l yX7_readRing wsX7_readRing rm_X7_readRing ([.ref h0] : List Value) D ty (fl [oX7 ty h0 a0 z0]) sz (qI D o0 (fl [oX7 ty h0 a0 o1])) 0 0 := by
  refine CX_of (cc := cX7_readRing) (maxL := 8) (ret := (some .boolean)) (C := RX7) (by decide) rfl rfl (Nat.le_of_ble_eq_true rfl) ?_
  intro p e s m below meth c A ls F hr hlk _ hK hP hD hS hA hl
  have hx := F.1
  have hb := F.2.1
  replace hl : lv_has ls 8 [(0, .ref h0)] := hl
  unfold f_X7_readRing at hf
  have J_140 : ∀ (y1 : Int32) (y2 : Int32) (y3 : Int32) (y4 : Int32) (y5 : Int32) (t0 : Int32) (w0 : Ob) (H : Heap) (locs : List Loc) (ls : Array Slot), va_P D vwC (fl [oX7 ty h0 a0 w0]) H → va_D A (fl [oX7 ty h0 a0 w0]) → va_S A s.heap H locs → lv_has ls 8 [(0, .ref h0), (1, .int y1), (2, .int y2), (3, .int y3), (4, .int y4), (5, .int y5)] → j_X7_readRing_140 y1 y2 y3 y4 y5 t0 w0 = some (o0, o1) → W p l e rm_X7_readRing s m ([.ref h0] : List Value).toArray below meth c H locs 0 0 (MQ below (qI D o0 (fl [oX7 ty h0 a0 o1]) A) ([.ref h0] : List Value).toArray s 0 0 A) (F0 m 140 ls [.int t0]) := by
    intro y1 y2 y3 y4 y5 t0 w0 H locs ls hP hD hS hl hf
    unfold j_X7_readRing_140 at hf
    refine lv_istore (lv' := [(6, .int t0), (0, .ref h0), (1, .int y1), (2, .int y2), (3, .int y3), (4, .int y4), (5, .int y5)]) hx hb dX7_readRing_140 hl (by decide) rfl (fun ls hl => ?_)
    refine lv_iload hx hb dX7_readRing_142 (lv_at hl 0 rfl) ?_
    refine lv_bipush (v := (-9 : Int32)) hx hb dX7_readRing_144 (by decide) ?_
    refine lv_icmp_ne (tgt := 151) hx hb dX7_readRing_146 (by decide) (fun hc => ?_) (fun hc => ?_)
    · replace hf := ite_f hf hc
      refine lv_iconst (v := (5 : Int32)) hx hb dX7_readRing_151 (by decide) ?_
      refine lv_aload_n hx hb dX7_readRing_152 rfl (lv_at hl 1 rfl) ?_
      refine va_get (D := D) (ci := 7) (C := RX7) (T := TX7) (N := 40) hx hb F.2.2.2.2 in_X7_readRing_X7 F.2.2.2.1 hK.1 hP 0 rfl rfl 16 (Nat.le_of_ble_eq_true rfl) (F.2.2.2.2 (.fieldLink RX7 90 "LouderRoomModel" "readRings" "I") (List.mem_of_getElem? (i := 4) rfl)) (fun _ h9 => h9) rfl dX7_readRing_153 ?_
      refine lv_imul hx hb dX7_readRing_156 ?_
      refine lv_topi (fun x1 ex => ?_)
      replace hf := bnd_at hf ex; clear ex
      refine lv_istore (lv' := [(7, .int x1), (6, .int t0), (0, .ref h0), (1, .int y1), (2, .int y2), (3, .int y3), (4, .int y4), (5, .int y5)]) hx hb dX7_readRing_157 hl (by decide) rfl (fun ls hl => ?_)
      refine lv_aload_n hx hb dX7_readRing_159 rfl (lv_at hl 2 rfl) ?_
      refine va_get (D := D) (ci := 7) (C := RX7) (T := TX7) (N := 40) hx hb F.2.2.2.2 in_X7_readRing_X7 F.2.2.2.1 hK.1 hP 0 rfl rfl 20 (Nat.le_of_ble_eq_true rfl) (F.2.2.2.2 (.fieldLink RX7 34 "LouderRoomModel" "readRing" "[I") (List.mem_of_getElem? (i := 5) rfl)) (fun _ h9 => h9) rfl dX7_readRing_160 ?_
      refine lv_iload hx hb dX7_readRing_163 (lv_at hl 0 rfl) ?_
      refine lv_iload_n hx hb dX7_readRing_165 rfl (lv_at hl 3 rfl) ?_
      obtain ⟨hi, hf⟩ := grd hf
      refine pt_iast (w1 := fl [oX7 ty h0 a0 (sA w0 20 (upd (w0.2 20) x1.toNatClampNeg y1))]) F hK.1 hP hD hS 9 0 rfl rfl (inb_in hi) rfl dX7_readRing_166 (fun H locs hP hD hS => ?_)
      obtain ⟨g2, ex⟩ : ∃ y : Ob, y = (sA w0 20 (upd (w0.2 20) x1.toNatClampNeg y1)) := ⟨_, rfl⟩
      replace hf := bnd_at hf ex; rw [← ex] at hP hD; clear ex
      refine lv_aload_n hx hb dX7_readRing_167 rfl (lv_at hl 2 rfl) ?_
      refine va_get (D := D) (ci := 7) (C := RX7) (T := TX7) (N := 40) hx hb F.2.2.2.2 in_X7_readRing_X7 F.2.2.2.1 hK.1 hP 0 rfl rfl 20 (Nat.le_of_ble_eq_true rfl) (F.2.2.2.2 (.fieldLink RX7 34 "LouderRoomModel" "readRing" "[I") (List.mem_of_getElem? (i := 5) rfl)) (fun _ h9 => h9) rfl dX7_readRing_168 ?_
      refine lv_iload hx hb dX7_readRing_171 (lv_at hl 0 rfl) ?_
      refine lv_iconst (v := (1 : Int32)) hx hb dX7_readRing_173 (by decide) ?_
      refine lv_iadd hx hb dX7_readRing_174 ?_
      refine lv_bipush (v := (10 : Int32)) hx hb dX7_readRing_175 (by decide) ?_
      refine lv_iload_n hx hb dX7_readRing_177 rfl (lv_at hl 5 rfl) ?_
      refine lv_imul hx hb dX7_readRing_178 ?_
      refine lv_iload_n hx hb dX7_readRing_179 rfl (lv_at hl 4 rfl) ?_
      refine lv_iadd hx hb dX7_readRing_180 ?_
      obtain ⟨hi, hf⟩ := grd hf
      refine pt_iast (w1 := fl [oX7 ty h0 a0 (sA g2 20 (upd (g2.2 20) (x1 + (1 : Int32)).toNatClampNeg (((10 : Int32) * y3) + y2)))]) F hK.1 hP hD hS 9 0 rfl rfl (inb_in hi) rfl dX7_readRing_181 (fun H locs hP hD hS => ?_)
      obtain ⟨g3, ex⟩ : ∃ y : Ob, y = (sA g2 20 (upd (g2.2 20) (x1 + (1 : Int32)).toNatClampNeg (((10 : Int32) * y3) + y2))) := ⟨_, rfl⟩
      replace hf := bnd_at hf ex; rw [← ex] at hP hD; clear ex
      refine lv_aload_n hx hb dX7_readRing_182 rfl (lv_at hl 2 rfl) ?_
      refine va_get (D := D) (ci := 7) (C := RX7) (T := TX7) (N := 40) hx hb F.2.2.2.2 in_X7_readRing_X7 F.2.2.2.1 hK.1 hP 0 rfl rfl 20 (Nat.le_of_ble_eq_true rfl) (F.2.2.2.2 (.fieldLink RX7 34 "LouderRoomModel" "readRing" "[I") (List.mem_of_getElem? (i := 5) rfl)) (fun _ h9 => h9) rfl dX7_readRing_183 ?_
      refine lv_iload hx hb dX7_readRing_186 (lv_at hl 0 rfl) ?_
      refine lv_iconst (v := (2 : Int32)) hx hb dX7_readRing_188 (by decide) ?_
      refine lv_iadd hx hb dX7_readRing_189 ?_
      refine lv_iload hx hb dX7_readRing_190 (lv_at hl 6 rfl) ?_
      obtain ⟨hi, hf⟩ := grd hf
      refine pt_iast (w1 := fl [oX7 ty h0 a0 (sA g3 20 (upd (g3.2 20) (x1 + (2 : Int32)).toNatClampNeg y4))]) F hK.1 hP hD hS 9 0 rfl rfl (inb_in hi) rfl dX7_readRing_192 (fun H locs hP hD hS => ?_)
      obtain ⟨g4, ex⟩ : ∃ y : Ob, y = (sA g3 20 (upd (g3.2 20) (x1 + (2 : Int32)).toNatClampNeg y4)) := ⟨_, rfl⟩
      replace hf := bnd_at hf ex; rw [← ex] at hP hD; clear ex
      refine lv_aload_n hx hb dX7_readRing_193 rfl (lv_at hl 2 rfl) ?_
      refine va_get (D := D) (ci := 7) (C := RX7) (T := TX7) (N := 40) hx hb F.2.2.2.2 in_X7_readRing_X7 F.2.2.2.1 hK.1 hP 0 rfl rfl 20 (Nat.le_of_ble_eq_true rfl) (F.2.2.2.2 (.fieldLink RX7 34 "LouderRoomModel" "readRing" "[I") (List.mem_of_getElem? (i := 5) rfl)) (fun _ h9 => h9) rfl dX7_readRing_194 ?_
      refine lv_iload hx hb dX7_readRing_197 (lv_at hl 0 rfl) ?_
      refine lv_iconst (v := (3 : Int32)) hx hb dX7_readRing_199 (by decide) ?_
      refine lv_iadd hx hb dX7_readRing_200 ?_
      refine lv_iload hx hb dX7_readRing_201 (lv_at hl 7 rfl) ?_
      obtain ⟨hi, hf⟩ := grd hf
      refine pt_iast (w1 := fl [oX7 ty h0 a0 (sA g4 20 (upd (g4.2 20) (x1 + (3 : Int32)).toNatClampNeg y5))]) F hK.1 hP hD hS 9 0 rfl rfl (inb_in hi) rfl dX7_readRing_203 (fun H locs hP hD hS => ?_)
      obtain ⟨g5, ex⟩ : ∃ y : Ob, y = (sA g4 20 (upd (g4.2 20) (x1 + (3 : Int32)).toNatClampNeg y5)) := ⟨_, rfl⟩
      replace hf := bnd_at hf ex; rw [← ex] at hP hD; clear ex
      refine lv_aload_n hx hb dX7_readRing_204 rfl (lv_at hl 2 rfl) ?_
      refine va_get (D := D) (ci := 7) (C := RX7) (T := TX7) (N := 40) hx hb F.2.2.2.2 in_X7_readRing_X7 F.2.2.2.1 hK.1 hP 0 rfl rfl 20 (Nat.le_of_ble_eq_true rfl) (F.2.2.2.2 (.fieldLink RX7 34 "LouderRoomModel" "readRing" "[I") (List.mem_of_getElem? (i := 5) rfl)) (fun _ h9 => h9) rfl dX7_readRing_205 ?_
      refine lv_iload hx hb dX7_readRing_208 (lv_at hl 0 rfl) ?_
      refine lv_iconst (v := (4 : Int32)) hx hb dX7_readRing_210 (by decide) ?_
      refine lv_iadd hx hb dX7_readRing_211 ?_
      refine lv_iload hx hb dX7_readRing_212 (lv_at hl 1 rfl) ?_
      obtain ⟨hi, hf⟩ := grd hf
      refine pt_iast (w1 := fl [oX7 ty h0 a0 (sA g5 20 (upd (g5.2 20) (x1 + (4 : Int32)).toNatClampNeg t0))]) F hK.1 hP hD hS 9 0 rfl rfl (inb_in hi) rfl dX7_readRing_214 (fun H locs hP hD hS => ?_)
      obtain ⟨g6, ex⟩ : ∃ y : Ob, y = (sA g5 20 (upd (g5.2 20) (x1 + (4 : Int32)).toNatClampNeg t0)) := ⟨_, rfl⟩
      replace hf := bnd_at hf ex; rw [← ex] at hP hD; clear ex
      refine lv_aload_n hx hb dX7_readRing_215 rfl (lv_at hl 2 rfl) ?_
      refine lv_dup hx hb dX7_readRing_216 rfl ?_
      refine va_get (D := D) (ci := 7) (C := RX7) (T := TX7) (N := 40) hx hb F.2.2.2.2 in_X7_readRing_X7 F.2.2.2.1 hK.1 hP 0 rfl rfl 16 (Nat.le_of_ble_eq_true rfl) (F.2.2.2.2 (.fieldLink RX7 90 "LouderRoomModel" "readRings" "I") (List.mem_of_getElem? (i := 4) rfl)) (fun _ h9 => h9) rfl dX7_readRing_217 ?_
      refine lv_iconst (v := (1 : Int32)) hx hb dX7_readRing_220 (by decide) ?_
      refine lv_iadd hx hb dX7_readRing_221 ?_
      refine pt_put (D := D) (ci := 7) (fty := .int) (C := RX7) (T := TX7) (N := 40) (w1 := fl [oX7 ty h0 a0 (sI g6 16 ((g6.1 16) + (1 : Int32)))]) F in_X7_readRing_X7 tyX7 tyX7_ok nmX7 hK.1 hP hD hS 0 rfl rfl 16 (Nat.le_of_ble_eq_true rfl) (F.2.2.2.2 (.fieldLink RX7 90 "LouderRoomModel" "readRings" "I") (List.mem_of_getElem? (i := 4) rfl)) (fun _ h9 => h9) rfl (by decide +kernel) rfl rfl (Nat.le_of_ble_eq_true rfl) rfl dX7_readRing_222 (fun H locs hP hD hS => ?_)
      obtain ⟨g7, ex⟩ : ∃ y : Ob, y = (sI g6 16 ((g6.1 16) + (1 : Int32))) := ⟨_, rfl⟩
      replace hf := bnd_at hf ex; rw [← ex] at hP hD; clear ex
      refine lv_iconst (v := (1 : Int32)) hx hb dX7_readRing_225 (by decide) ?_
      obtain hf := hf
      obtain ⟨e0, e1⟩ := tup2 hf
      rw [e1] at hP hD
      exact CX_z F hr hlk hP hD hS narrow_b1 e0 dX7_readRing_226
    · replace hf := ite_t hf hc
      refine lv_iconst (v := (0 : Int32)) hx hb dX7_readRing_149 (by decide) ?_
      obtain hf := hf
      obtain ⟨e0, e1⟩ := tup2 hf
      rw [e1] at hP hD
      exact CX_z F hr hlk hP hD hS narrow_b0 e0 dX7_readRing_150
  have J_119 : ∀ (y1 : Int32) (y2 : Int32) (y3 : Int32) (y4 : Int32) (t0 : Int32) (w0 : Ob) (H : Heap) (locs : List Loc) (ls : Array Slot), va_P D vwC (fl [oX7 ty h0 a0 w0]) H → va_D A (fl [oX7 ty h0 a0 w0]) → va_S A s.heap H locs → lv_has ls 8 [(0, .ref h0), (1, .int y1), (2, .int y2), (3, .int y3), (4, .int y4)] → j_X7_readRing_119 y1 y2 y3 y4 t0 w0 = some (o0, o1) → W p l e rm_X7_readRing s m ([.ref h0] : List Value).toArray below meth c H locs 0 0 (MQ below (qI D o0 (fl [oX7 ty h0 a0 o1]) A) ([.ref h0] : List Value).toArray s 0 0 A) (F0 m 119 ls [.int t0]) := by
    intro y1 y2 y3 y4 t0 w0 H locs ls hP hD hS hl hf
    unfold j_X7_readRing_119 at hf
    refine lv_istore (lv' := [(5, .int t0), (0, .ref h0), (1, .int y1), (2, .int y2), (3, .int y3), (4, .int y4)]) hx hb dX7_readRing_119 hl (by decide) rfl (fun ls hl => ?_)
    refine lv_iload hx hb dX7_readRing_121 (lv_at hl 0 rfl) ?_
    refine lv_bipush (v := (-9 : Int32)) hx hb dX7_readRing_123 (by decide) ?_
    refine lv_icmp_ne (tgt := 133) hx hb dX7_readRing_125 (by decide) (fun hc => ?_) (fun hc => ?_)
    · replace hf := ite_f hf hc
      refine lv_aload_n hx hb dX7_readRing_133 rfl (lv_at hl 1 rfl) ?_
      refine lv_iconst (v := (0 : Int32)) hx hb dX7_readRing_134 (by decide) ?_
      refine lv_bipush (v := (9 : Int32)) hx hb dX7_readRing_135 (by decide) ?_
      obtain ⟨v8, g9, hv, hf⟩ := obd2 hf
      have hp1 : List.Perm [oX7 ty h0 a0 w0] ([oX7 ty h0 a0 w0] ++ []) := (List.Perm.refl _)
      refine ci_call (out := v8) (os := [oX7 ty h0 a0 w0]) (oc := [oX7 ty h0 a0 w0]) (oc' := [oX7 ty h0 a0 g9]) (or_ := []) (os' := [oX7 ty h0 a0 g9]) (va_runV (As := [.int (0 : Int32), .int (9 : Int32)]) (rest := []) F (c_X7_figure l D ty h0 a0 _ _ _ _ _ hv _) (cwV 2 F.2.2.2.2 gX7_readRing_X7_figure rfl rfl rfl ⟨rfl, hd_X7_figure⟩ ⟨Nat.le_of_ble_eq_true rfl, Nat.le_of_ble_eq_true rfl⟩) (pre_v hK hP hD hp1 rfl rfl rfl) rfl rfl hl.1 rfl (lv_room (Nat.le_of_ble_eq_true rfl)) dX7_readRing_137 ⟨Nat.zero_le _, Nat.zero_le _⟩) hp1 (List.Perm.refl _) hP hD hS hA (fun H locs hP hD hS => ?_)
      clear hp1 hv
      exact J_140 y1 y2 y3 y4 t0 v8 g9 _ _ _ hP hD hS (lv_sub hl [1, 2, 3, 4, 5, 0] rfl) hf
    · replace hf := ite_t hf hc
      refine lv_bipush (v := (-9 : Int32)) hx hb dX7_readRing_128 (by decide) ?_
      refine lv_goto (tgt := 140) hx hb dX7_readRing_130 (by decide) ?_
      exact J_140 y1 y2 y3 y4 t0 (-9 : Int32) w0 _ _ _ hP hD hS (lv_sub hl [1, 2, 3, 4, 5, 0] rfl) hf
  have J_98 : ∀ (y1 : Int32) (y2 : Int32) (y3 : Int32) (t0 : Int32) (w0 : Ob) (H : Heap) (locs : List Loc) (ls : Array Slot), va_P D vwC (fl [oX7 ty h0 a0 w0]) H → va_D A (fl [oX7 ty h0 a0 w0]) → va_S A s.heap H locs → lv_has ls 8 [(0, .ref h0), (1, .int y1), (2, .int y2), (3, .int y3)] → j_X7_readRing_98 y1 y2 y3 t0 w0 = some (o0, o1) → W p l e rm_X7_readRing s m ([.ref h0] : List Value).toArray below meth c H locs 0 0 (MQ below (qI D o0 (fl [oX7 ty h0 a0 o1]) A) ([.ref h0] : List Value).toArray s 0 0 A) (F0 m 98 ls [.int t0]) := by
    intro y1 y2 y3 t0 w0 H locs ls hP hD hS hl hf
    unfold j_X7_readRing_98 at hf
    refine lv_istore (lv' := [(4, .int t0), (0, .ref h0), (1, .int y1), (2, .int y2), (3, .int y3)]) hx hb dX7_readRing_98 hl (by decide) rfl (fun ls hl => ?_)
    refine lv_iload hx hb dX7_readRing_100 (lv_at hl 0 rfl) ?_
    refine lv_bipush (v := (-9 : Int32)) hx hb dX7_readRing_102 (by decide) ?_
    refine lv_icmp_ne (tgt := 112) hx hb dX7_readRing_104 (by decide) (fun hc => ?_) (fun hc => ?_)
    · replace hf := ite_f hf hc
      refine lv_aload_n hx hb dX7_readRing_112 rfl (lv_at hl 1 rfl) ?_
      refine lv_iconst (v := (1 : Int32)) hx hb dX7_readRing_113 (by decide) ?_
      refine lv_bipush (v := (9 : Int32)) hx hb dX7_readRing_114 (by decide) ?_
      obtain ⟨v10, g11, hv, hf⟩ := obd2 hf
      have hp1 : List.Perm [oX7 ty h0 a0 w0] ([oX7 ty h0 a0 w0] ++ []) := (List.Perm.refl _)
      refine ci_call (out := v10) (os := [oX7 ty h0 a0 w0]) (oc := [oX7 ty h0 a0 w0]) (oc' := [oX7 ty h0 a0 g11]) (or_ := []) (os' := [oX7 ty h0 a0 g11]) (va_runV (As := [.int (1 : Int32), .int (9 : Int32)]) (rest := []) F (c_X7_figure l D ty h0 a0 _ _ _ _ _ hv _) (cwV 2 F.2.2.2.2 gX7_readRing_X7_figure rfl rfl rfl ⟨rfl, hd_X7_figure⟩ ⟨Nat.le_of_ble_eq_true rfl, Nat.le_of_ble_eq_true rfl⟩) (pre_v hK hP hD hp1 rfl rfl rfl) rfl rfl hl.1 rfl (lv_room (Nat.le_of_ble_eq_true rfl)) dX7_readRing_116 ⟨Nat.zero_le _, Nat.zero_le _⟩) hp1 (List.Perm.refl _) hP hD hS hA (fun H locs hP hD hS => ?_)
      clear hp1 hv
      exact J_119 y1 y2 y3 t0 v10 g11 _ _ _ hP hD hS (lv_sub hl [1, 2, 3, 4, 0] rfl) hf
    · replace hf := ite_t hf hc
      refine lv_bipush (v := (-9 : Int32)) hx hb dX7_readRing_107 (by decide) ?_
      refine lv_goto (tgt := 119) hx hb dX7_readRing_109 (by decide) ?_
      exact J_119 y1 y2 y3 t0 (-9 : Int32) w0 _ _ _ hP hD hS (lv_sub hl [1, 2, 3, 4, 0] rfl) hf
  have J_79 : ∀ (y1 : Int32) (y2 : Int32) (t0 : Int32) (w0 : Ob) (H : Heap) (locs : List Loc) (ls : Array Slot), va_P D vwC (fl [oX7 ty h0 a0 w0]) H → va_D A (fl [oX7 ty h0 a0 w0]) → va_S A s.heap H locs → lv_has ls 8 [(0, .ref h0), (1, .int y1), (2, .int y2)] → j_X7_readRing_79 y1 y2 t0 w0 = some (o0, o1) → W p l e rm_X7_readRing s m ([.ref h0] : List Value).toArray below meth c H locs 0 0 (MQ below (qI D o0 (fl [oX7 ty h0 a0 o1]) A) ([.ref h0] : List Value).toArray s 0 0 A) (F0 m 79 ls [.int t0]) := by
    intro y1 y2 t0 w0 H locs ls hP hD hS hl hf
    unfold j_X7_readRing_79 at hf
    refine lv_istore_n (lv' := [(3, .int t0), (0, .ref h0), (1, .int y1), (2, .int y2)]) hx hb dX7_readRing_79 rfl hl (by decide) rfl (fun ls hl => ?_)
    refine lv_iload_n hx hb dX7_readRing_80 rfl (lv_at hl 0 rfl) ?_
    refine lv_bipush (v := (-9 : Int32)) hx hb dX7_readRing_81 (by decide) ?_
    refine lv_icmp_ne (tgt := 91) hx hb dX7_readRing_83 (by decide) (fun hc => ?_) (fun hc => ?_)
    · replace hf := ite_f hf hc
      refine lv_aload_n hx hb dX7_readRing_91 rfl (lv_at hl 1 rfl) ?_
      refine lv_iconst (v := (1 : Int32)) hx hb dX7_readRing_92 (by decide) ?_
      refine lv_bipush (v := (9 : Int32)) hx hb dX7_readRing_93 (by decide) ?_
      obtain ⟨v12, g13, hv, hf⟩ := obd2 hf
      have hp1 : List.Perm [oX7 ty h0 a0 w0] ([oX7 ty h0 a0 w0] ++ []) := (List.Perm.refl _)
      refine ci_call (out := v12) (os := [oX7 ty h0 a0 w0]) (oc := [oX7 ty h0 a0 w0]) (oc' := [oX7 ty h0 a0 g13]) (or_ := []) (os' := [oX7 ty h0 a0 g13]) (va_runV (As := [.int (1 : Int32), .int (9 : Int32)]) (rest := []) F (c_X7_figure l D ty h0 a0 _ _ _ _ _ hv _) (cwV 2 F.2.2.2.2 gX7_readRing_X7_figure rfl rfl rfl ⟨rfl, hd_X7_figure⟩ ⟨Nat.le_of_ble_eq_true rfl, Nat.le_of_ble_eq_true rfl⟩) (pre_v hK hP hD hp1 rfl rfl rfl) rfl rfl hl.1 rfl (lv_room (Nat.le_of_ble_eq_true rfl)) dX7_readRing_95 ⟨Nat.zero_le _, Nat.zero_le _⟩) hp1 (List.Perm.refl _) hP hD hS hA (fun H locs hP hD hS => ?_)
      clear hp1 hv
      exact J_98 y1 y2 t0 v12 g13 _ _ _ hP hD hS (lv_sub hl [1, 2, 3, 0] rfl) hf
    · replace hf := ite_t hf hc
      refine lv_bipush (v := (-9 : Int32)) hx hb dX7_readRing_86 (by decide) ?_
      refine lv_goto (tgt := 98) hx hb dX7_readRing_88 (by decide) ?_
      exact J_98 y1 y2 t0 (-9 : Int32) w0 _ _ _ hP hD hS (lv_sub hl [1, 2, 3, 0] rfl) hf
  have J_67 : ∀ (y1 : Int32) (y2 : Int32) (w0 : Ob) (H : Heap) (locs : List Loc) (ls : Array Slot), va_P D vwC (fl [oX7 ty h0 a0 w0]) H → va_D A (fl [oX7 ty h0 a0 w0]) → va_S A s.heap H locs → lv_has ls 8 [(0, .ref h0), (1, .int y1), (2, .int y2)] → j_X7_readRing_67 y1 y2 w0 = some (o0, o1) → W p l e rm_X7_readRing s m ([.ref h0] : List Value).toArray below meth c H locs 0 0 (MQ below (qI D o0 (fl [oX7 ty h0 a0 o1]) A) ([.ref h0] : List Value).toArray s 0 0 A) (F0 m 67 ls []) := by
    intro y1 y2 w0 H locs ls hP hD hS hl hf
    unfold j_X7_readRing_67 at hf
    refine lv_bipush (v := (-9 : Int32)) hx hb dX7_readRing_67 (by decide) ?_
    refine lv_goto (tgt := 79) hx hb dX7_readRing_69 (by decide) ?_
    exact J_79 y1 y2 (-9 : Int32) w0 _ _ _ hP hD hS (lv_sub hl [0, 1, 2] rfl) hf
  have J_72 : ∀ (y1 : Int32) (y2 : Int32) (w0 : Ob) (H : Heap) (locs : List Loc) (ls : Array Slot), va_P D vwC (fl [oX7 ty h0 a0 w0]) H → va_D A (fl [oX7 ty h0 a0 w0]) → va_S A s.heap H locs → lv_has ls 8 [(0, .ref h0), (1, .int y1), (2, .int y2)] → j_X7_readRing_72 y1 y2 w0 = some (o0, o1) → W p l e rm_X7_readRing s m ([.ref h0] : List Value).toArray below meth c H locs 0 0 (MQ below (qI D o0 (fl [oX7 ty h0 a0 o1]) A) ([.ref h0] : List Value).toArray s 0 0 A) (F0 m 72 ls []) := by
    intro y1 y2 w0 H locs ls hP hD hS hl hf
    unfold j_X7_readRing_72 at hf
    refine lv_aload_n hx hb dX7_readRing_72 rfl (lv_at hl 0 rfl) ?_
    refine lv_iconst (v := (0 : Int32)) hx hb dX7_readRing_73 (by decide) ?_
    refine lv_bipush (v := (9 : Int32)) hx hb dX7_readRing_74 (by decide) ?_
    obtain ⟨v14, g15, hv, hf⟩ := obd2 hf
    have hp1 : List.Perm [oX7 ty h0 a0 w0] ([oX7 ty h0 a0 w0] ++ []) := (List.Perm.refl _)
    refine ci_call (out := v14) (os := [oX7 ty h0 a0 w0]) (oc := [oX7 ty h0 a0 w0]) (oc' := [oX7 ty h0 a0 g15]) (or_ := []) (os' := [oX7 ty h0 a0 g15]) (va_runV (As := [.int (0 : Int32), .int (9 : Int32)]) (rest := []) F (c_X7_figure l D ty h0 a0 _ _ _ _ _ hv _) (cwV 2 F.2.2.2.2 gX7_readRing_X7_figure rfl rfl rfl ⟨rfl, hd_X7_figure⟩ ⟨Nat.le_of_ble_eq_true rfl, Nat.le_of_ble_eq_true rfl⟩) (pre_v hK hP hD hp1 rfl rfl rfl) rfl rfl hl.1 rfl (lv_room (Nat.le_of_ble_eq_true rfl)) dX7_readRing_76 ⟨Nat.zero_le _, Nat.zero_le _⟩) hp1 (List.Perm.refl _) hP hD hS hA (fun H locs hP hD hS => ?_)
    clear hp1 hv
    exact J_79 y1 y2 v14 g15 _ _ _ hP hD hS (lv_sub hl [0, 1, 2] rfl) hf
  have J_25 : ∀ (y1 : Int32) (t0 : Int32) (w0 : Ob) (H : Heap) (locs : List Loc) (ls : Array Slot), va_P D vwC (fl [oX7 ty h0 a0 w0]) H → va_D A (fl [oX7 ty h0 a0 w0]) → va_S A s.heap H locs → lv_has ls 8 [(0, .ref h0), (1, .int y1)] → j_X7_readRing_25 y1 t0 w0 = some (o0, o1) → W p l e rm_X7_readRing s m ([.ref h0] : List Value).toArray below meth c H locs 0 0 (MQ below (qI D o0 (fl [oX7 ty h0 a0 o1]) A) ([.ref h0] : List Value).toArray s 0 0 A) (F0 m 25 ls [.int t0]) := by
    intro y1 t0 w0 H locs ls hP hD hS hl hf
    unfold j_X7_readRing_25 at hf
    refine lv_istore_n (lv' := [(2, .int t0), (0, .ref h0), (1, .int y1)]) hx hb dX7_readRing_25 rfl hl (by decide) rfl (fun ls hl => ?_)
    refine lv_iload_n hx hb dX7_readRing_26 rfl (lv_at hl 0 rfl) ?_
    refine lv_bipush (v := (-9 : Int32)) hx hb dX7_readRing_27 (by decide) ?_
    refine lv_icmp_eq (tgt := 67) hx hb dX7_readRing_29 (by decide) (fun hc => ?_) (fun hc => ?_)
    · replace hf := ite_t hf hc
      exact J_67 y1 t0 w0 _ _ _ hP hD hS (lv_sub hl [1, 2, 0] rfl) hf
    · replace hf := ite_f hf hc
      refine lv_aload_n hx hb dX7_readRing_32 rfl (lv_at hl 1 rfl) ?_
      refine va_get (D := D) (ci := 7) (C := RX7) (T := TX7) (N := 40) hx hb F.2.2.2.2 in_X7_readRing_X7 F.2.2.2.1 hK.1 hP 0 rfl rfl 3 (Nat.le_of_ble_eq_true rfl) (F.2.2.2.2 (.fieldLink RX7 87 "LouderRoomModel" "place" "I") (List.mem_of_getElem? (i := 1) rfl)) (fun _ h9 => h9) rfl dX7_readRing_33 ?_
      refine lv_aload_n hx hb dX7_readRing_36 rfl (lv_at hl 1 rfl) ?_
      refine va_get (D := D) (ci := 7) (C := RX7) (T := TX7) (N := 40) hx hb F.2.2.2.2 in_X7_readRing_X7 F.2.2.2.1 hK.1 hP 0 rfl rfl 2 (Nat.le_of_ble_eq_true rfl) (F.2.2.2.2 (.fieldLink RX7 84 "LouderRoomModel" "textSize" "I") (List.mem_of_getElem? (i := 2) rfl)) (fun _ h9 => h9) rfl dX7_readRing_37 ?_
      refine lv_icmp_ge (tgt := 72) hx hb dX7_readRing_40 (by decide) (fun hc => ?_) (fun hc => ?_)
      · replace hf := ite_t hf hc
        exact J_72 y1 t0 w0 _ _ _ hP hD hS (lv_sub hl [1, 2, 0] rfl) hf
      · replace hf := ite_f hf hc
        refine lv_aload_n hx hb dX7_readRing_43 rfl (lv_at hl 1 rfl) ?_
        refine lv_bipush (v := (10 : Int32)) hx hb dX7_readRing_44 (by decide) ?_
        refine lv_aload_n hx hb dX7_readRing_46 rfl (lv_at hl 1 rfl) ?_
        refine va_get (D := D) (ci := 7) (C := RX7) (T := TX7) (N := 40) hx hb F.2.2.2.2 in_X7_readRing_X7 F.2.2.2.1 hK.1 hP 0 rfl rfl 1 (Nat.le_of_ble_eq_true rfl) (F.2.2.2.2 (.fieldLink RX7 7 "LouderRoomModel" "text" "[I") (List.mem_of_getElem? (i := 3) rfl)) (fun _ h9 => h9) rfl dX7_readRing_47 ?_
        refine lv_aload_n hx hb dX7_readRing_50 rfl (lv_at hl 1 rfl) ?_
        refine va_get (D := D) (ci := 7) (C := RX7) (T := TX7) (N := 40) hx hb F.2.2.2.2 in_X7_readRing_X7 F.2.2.2.1 hK.1 hP 0 rfl rfl 3 (Nat.le_of_ble_eq_true rfl) (F.2.2.2.2 (.fieldLink RX7 87 "LouderRoomModel" "place" "I") (List.mem_of_getElem? (i := 1) rfl)) (fun _ h9 => h9) rfl dX7_readRing_51 ?_
        obtain ⟨hi, hf⟩ := grd hf
        refine va_iald hx hb hK.1 hP 1 0 rfl rfl (inb_in hi) dX7_readRing_54 ?_
        refine lv_bipush (v := (48 : Int32)) hx hb dX7_readRing_55 (by decide) ?_
        refine lv_isub hx hb dX7_readRing_57 ?_
        refine lv_imul hx hb dX7_readRing_58 ?_
        refine lv_iload_n hx hb dX7_readRing_59 rfl (lv_at hl 0 rfl) ?_
        refine lv_iadd hx hb dX7_readRing_60 ?_
        obtain ⟨v16, hv, hf⟩ := obd hf
        have hp1 : List.Perm [oX7 ty h0 a0 w0] ([oX7 ty h0 a0 w0] ++ []) := (List.Perm.refl _)
        refine ci_call (out := v16) (os := [oX7 ty h0 a0 w0]) (oc := [oX7 ty h0 a0 w0]) (oc' := [oX7 ty h0 a0 w0]) (or_ := []) (os' := [oX7 ty h0 a0 w0]) (va_runV (As := [.int (((10 : Int32) * ((w0.2 1 (w0.1 3).toNatClampNeg) - (48 : Int32))) + t0)]) (rest := []) F (c_X7_isTold l D ty h0 a0 _ _ _ hv _) (cwV 1 F.2.2.2.2 gX7_readRing_X7_isTold rfl rfl rfl ⟨rfl, hd_X7_isTold⟩ ⟨Nat.le_of_ble_eq_true rfl, Nat.le_of_ble_eq_true rfl⟩) (pre_v hK hP hD hp1 rfl rfl rfl) rfl rfl hl.1 rfl (lv_room (Nat.le_of_ble_eq_true rfl)) dX7_readRing_61 ⟨Nat.zero_le _, Nat.zero_le _⟩) hp1 (List.Perm.refl _) hP hD hS hA (fun H locs hP hD hS => ?_)
        clear hp1 hv
        refine lv_if_eq (tgt := 72) hx hb dX7_readRing_64 (by decide) (fun hc => ?_) (fun hc => ?_)
        · replace hf := ite_t hf hc
          exact J_72 y1 t0 w0 _ _ _ hP hD hS (lv_sub hl [1, 2, 0] rfl) hf
        · replace hf := ite_f hf hc
          exact J_67 y1 t0 w0 _ _ _ hP hD hS (lv_sub hl [1, 2, 0] rfl) hf
  refine lv_aload_n hx hb dX7_readRing_0 rfl (lv_at hl 0 rfl) ?_
  refine lv_iconst (v := (0 : Int32)) hx hb dX7_readRing_1 (by decide) ?_
  refine lv_iconst (v := (4 : Int32)) hx hb dX7_readRing_2 (by decide) ?_
  obtain ⟨v17, g18, hv, hf⟩ := obd2 hf
  have hp1 : List.Perm [oX7 ty h0 a0 z0] ([oX7 ty h0 a0 z0] ++ []) := (List.Perm.refl _)
  refine ci_call (out := v17) (os := [oX7 ty h0 a0 z0]) (oc := [oX7 ty h0 a0 z0]) (oc' := [oX7 ty h0 a0 g18]) (or_ := []) (os' := [oX7 ty h0 a0 g18]) (va_runV (As := [.int (0 : Int32), .int (4 : Int32)]) (rest := []) F (c_X7_figure l D ty h0 a0 _ _ _ _ _ hv _) (cwV 2 F.2.2.2.2 gX7_readRing_X7_figure rfl rfl rfl ⟨rfl, hd_X7_figure⟩ ⟨Nat.le_of_ble_eq_true rfl, Nat.le_of_ble_eq_true rfl⟩) (pre_v hK hP hD hp1 rfl rfl rfl) rfl rfl hl.1 rfl (lv_room (Nat.le_of_ble_eq_true rfl)) dX7_readRing_3 ⟨Nat.zero_le _, Nat.zero_le _⟩) hp1 (List.Perm.refl _) hP hD hS hA (fun H locs hP hD hS => ?_)
  clear hp1 hv
  refine lv_istore_n (lv' := [(1, .int v17), (0, .ref h0)]) hx hb dX7_readRing_6 rfl hl (by decide) rfl (fun ls hl => ?_)
  refine lv_iload_n hx hb dX7_readRing_7 rfl (lv_at hl 0 rfl) ?_
  refine lv_bipush (v := (-9 : Int32)) hx hb dX7_readRing_8 (by decide) ?_
  refine lv_icmp_ne (tgt := 18) hx hb dX7_readRing_10 (by decide) (fun hc => ?_) (fun hc => ?_)
  · replace hf := ite_f hf hc
    refine lv_aload_n hx hb dX7_readRing_18 rfl (lv_at hl 1 rfl) ?_
    refine lv_iconst (v := (0 : Int32)) hx hb dX7_readRing_19 (by decide) ?_
    refine lv_bipush (v := (9 : Int32)) hx hb dX7_readRing_20 (by decide) ?_
    obtain ⟨v19, g20, hv, hf⟩ := obd2 hf
    have hp1 : List.Perm [oX7 ty h0 a0 g18] ([oX7 ty h0 a0 g18] ++ []) := (List.Perm.refl _)
    refine ci_call (out := v19) (os := [oX7 ty h0 a0 g18]) (oc := [oX7 ty h0 a0 g18]) (oc' := [oX7 ty h0 a0 g20]) (or_ := []) (os' := [oX7 ty h0 a0 g20]) (va_runV (As := [.int (0 : Int32), .int (9 : Int32)]) (rest := []) F (c_X7_figure l D ty h0 a0 _ _ _ _ _ hv _) (cwV 2 F.2.2.2.2 gX7_readRing_X7_figure rfl rfl rfl ⟨rfl, hd_X7_figure⟩ ⟨Nat.le_of_ble_eq_true rfl, Nat.le_of_ble_eq_true rfl⟩) (pre_v hK hP hD hp1 rfl rfl rfl) rfl rfl hl.1 rfl (lv_room (Nat.le_of_ble_eq_true rfl)) dX7_readRing_22 ⟨Nat.zero_le _, Nat.zero_le _⟩) hp1 (List.Perm.refl _) hP hD hS hA (fun H locs hP hD hS => ?_)
    clear hp1 hv
    exact J_25 v17 v19 g20 _ _ _ hP hD hS (lv_sub hl [1, 0] rfl) hf
  · replace hf := ite_t hf hc
    refine lv_bipush (v := (-9 : Int32)) hx hb dX7_readRing_13 (by decide) ?_
    refine lv_goto (tgt := 25) hx hb dX7_readRing_15 (by decide) ?_
    exact J_25 v17 (-9 : Int32) g18 _ _ _ hP hD hS (lv_sub hl [1, 0] rfl) hf
def j_X7_readStuff_26 (y1 : Int32) (t0 : Int32) (w0 : Ob) : Option (Int32 × Ob) := (if t0 = (-9 : Int32) then some ((0 : Int32), w0) else (if inb ((2 : Int32) * (w0.1 17)) 10 = true then bnd (sA w0 21 (upd (w0.2 21) ((2 : Int32) * (w0.1 17)).toNatClampNeg y1)) (fun g1 => (if inb (((2 : Int32) * (g1.1 17)) + (1 : Int32)) 10 = true then bnd (sA g1 21 (upd (g1.2 21) (((2 : Int32) * (g1.1 17)) + (1 : Int32)).toNatClampNeg t0)) (fun g2 => bnd (sI g2 17 ((g2.1 17) + (1 : Int32))) (fun g3 => some ((1 : Int32), g3))) else none)) else none))
def f_X7_readStuff (z0 : Ob) : Option (Int32 × Ob) := bd2 (f_X7_figure z0 (0 : Int32) (9 : Int32)) (fun v4 g5 => (if v4 = (-9 : Int32) then j_X7_readStuff_26 v4 (-9 : Int32) g5 else bd2 (f_X7_figure g5 (1 : Int32) (9 : Int32)) (fun v6 g7 => j_X7_readStuff_26 v4 v6 g7)))
abbrev rm_X7_readStuff : Room := { frames := 2, cells := 0, slots := 0, locals := 47 }
theorem hd_X7_readStuff : yX7_readStuff.cls ≠ "java/lang/invoke/MethodHandle" ∧ yX7_readStuff.cls ≠ "java/lang/invoke/VarHandle" ∧ (parseMethodDescriptor yX7_readStuff.desc).map (fun d => d.parameters.length) = some 0 := by decide +kernel
theorem in_X7_readStuff_X7 : ∀ w ∈ wsX70, w ∈ wsX7_readStuff := fun w h => List.mem_cons_of_mem _ (List.mem_append_right _ h)
set_option maxHeartbeats 4000000 in
set_option maxRecDepth 100000 in
theorem c_X7_readStuff (l : Launch) (D : va_G) (ty : TY) (h0 : Nat) (a0 : Nat → Nat) (z0 : Ob) (o0 : Int32) (o1 : Ob) (hf : f_X7_readStuff z0 = some (o0, o1)) (sz : Nat) : CX l yX7_readStuff wsX7_readStuff rm_X7_readStuff ([.ref h0] : List Value) D ty (fl [oX7 ty h0 a0 z0]) sz (qI D o0 (fl [oX7 ty h0 a0 o1])) 0 0 := by
  refine CX_of (cc := cX7_readStuff) (maxL := 3) (ret := (some .boolean)) (C := RX7) (by decide) rfl rfl (Nat.le_of_ble_eq_true rfl) ?_
  intro p e s m below meth c A ls F hr hlk _ hK hP hD hS hA hl
  have hx := F.1
  have hb := F.2.1
  replace hl : lv_has ls 3 [(0, .ref h0)] := hl
  unfold f_X7_readStuff at hf
  have J_26 : ∀ (y1 : Int32) (t0 : Int32) (w0 : Ob) (H : Heap) (locs : List Loc) (ls : Array Slot), va_P D vwC (fl [oX7 ty h0 a0 w0]) H → va_D A (fl [oX7 ty h0 a0 w0]) → va_S A s.heap H locs → lv_has ls 3 [(0, .ref h0), (1, .int y1)] → j_X7_readStuff_26 y1 t0 w0 = some (o0, o1) → W p l e rm_X7_readStuff s m ([.ref h0] : List Value).toArray below meth c H locs 0 0 (MQ below (qI D o0 (fl [oX7 ty h0 a0 o1]) A) ([.ref h0] : List Value).toArray s 0 0 A) (F0 m 26 ls [.int t0]) := by
    intro y1 t0 w0 H locs ls hP hD hS hl hf
    unfold j_X7_readStuff_26 at hf
    refine lv_istore_n (lv' := [(2, .int t0), (0, .ref h0), (1, .int y1)]) hx hb dX7_readStuff_26 rfl hl (by decide) rfl (fun ls hl => ?_)
    refine lv_iload_n hx hb dX7_readStuff_27 rfl (lv_at hl 0 rfl) ?_
    refine lv_bipush (v := (-9 : Int32)) hx hb dX7_readStuff_28 (by decide) ?_
    refine lv_icmp_ne (tgt := 35) hx hb dX7_readStuff_30 (by decide) (fun hc => ?_) (fun hc => ?_)
    · replace hf := ite_f hf hc
      refine lv_aload_n hx hb dX7_readStuff_35 rfl (lv_at hl 1 rfl) ?_
      refine va_get (D := D) (ci := 7) (C := RX7) (T := TX7) (N := 40) hx hb F.2.2.2.2 in_X7_readStuff_X7 F.2.2.2.1 hK.1 hP 0 rfl rfl 21 (Nat.le_of_ble_eq_true rfl) (F.2.2.2.2 (.fieldLink RX7 37 "LouderRoomModel" "readStuff" "[I") (List.mem_of_getElem? (i := 1) rfl)) (fun _ h9 => h9) rfl dX7_readStuff_36 ?_
      refine lv_iconst (v := (2 : Int32)) hx hb dX7_readStuff_39 (by decide) ?_
      refine lv_aload_n hx hb dX7_readStuff_40 rfl (lv_at hl 1 rfl) ?_
      refine va_get (D := D) (ci := 7) (C := RX7) (T := TX7) (N := 40) hx hb F.2.2.2.2 in_X7_readStuff_X7 F.2.2.2.1 hK.1 hP 0 rfl rfl 17 (Nat.le_of_ble_eq_true rfl) (F.2.2.2.2 (.fieldLink RX7 101 "LouderRoomModel" "readStuffs" "I") (List.mem_of_getElem? (i := 2) rfl)) (fun _ h9 => h9) rfl dX7_readStuff_41 ?_
      refine lv_imul hx hb dX7_readStuff_44 ?_
      refine lv_iload_n hx hb dX7_readStuff_45 rfl (lv_at hl 2 rfl) ?_
      obtain ⟨hi, hf⟩ := grd hf
      refine pt_iast (w1 := fl [oX7 ty h0 a0 (sA w0 21 (upd (w0.2 21) ((2 : Int32) * (w0.1 17)).toNatClampNeg y1))]) F hK.1 hP hD hS 10 0 rfl rfl (inb_in hi) rfl dX7_readStuff_46 (fun H locs hP hD hS => ?_)
      obtain ⟨g1, ex⟩ : ∃ y : Ob, y = (sA w0 21 (upd (w0.2 21) ((2 : Int32) * (w0.1 17)).toNatClampNeg y1)) := ⟨_, rfl⟩
      replace hf := bnd_at hf ex; rw [← ex] at hP hD; clear ex
      refine lv_aload_n hx hb dX7_readStuff_47 rfl (lv_at hl 1 rfl) ?_
      refine va_get (D := D) (ci := 7) (C := RX7) (T := TX7) (N := 40) hx hb F.2.2.2.2 in_X7_readStuff_X7 F.2.2.2.1 hK.1 hP 0 rfl rfl 21 (Nat.le_of_ble_eq_true rfl) (F.2.2.2.2 (.fieldLink RX7 37 "LouderRoomModel" "readStuff" "[I") (List.mem_of_getElem? (i := 1) rfl)) (fun _ h9 => h9) rfl dX7_readStuff_48 ?_
      refine lv_iconst (v := (2 : Int32)) hx hb dX7_readStuff_51 (by decide) ?_
      refine lv_aload_n hx hb dX7_readStuff_52 rfl (lv_at hl 1 rfl) ?_
      refine va_get (D := D) (ci := 7) (C := RX7) (T := TX7) (N := 40) hx hb F.2.2.2.2 in_X7_readStuff_X7 F.2.2.2.1 hK.1 hP 0 rfl rfl 17 (Nat.le_of_ble_eq_true rfl) (F.2.2.2.2 (.fieldLink RX7 101 "LouderRoomModel" "readStuffs" "I") (List.mem_of_getElem? (i := 2) rfl)) (fun _ h9 => h9) rfl dX7_readStuff_53 ?_
      refine lv_imul hx hb dX7_readStuff_56 ?_
      refine lv_iconst (v := (1 : Int32)) hx hb dX7_readStuff_57 (by decide) ?_
      refine lv_iadd hx hb dX7_readStuff_58 ?_
      refine lv_iload_n hx hb dX7_readStuff_59 rfl (lv_at hl 0 rfl) ?_
      obtain ⟨hi, hf⟩ := grd hf
      refine pt_iast (w1 := fl [oX7 ty h0 a0 (sA g1 21 (upd (g1.2 21) (((2 : Int32) * (g1.1 17)) + (1 : Int32)).toNatClampNeg t0))]) F hK.1 hP hD hS 10 0 rfl rfl (inb_in hi) rfl dX7_readStuff_60 (fun H locs hP hD hS => ?_)
      obtain ⟨g2, ex⟩ : ∃ y : Ob, y = (sA g1 21 (upd (g1.2 21) (((2 : Int32) * (g1.1 17)) + (1 : Int32)).toNatClampNeg t0)) := ⟨_, rfl⟩
      replace hf := bnd_at hf ex; rw [← ex] at hP hD; clear ex
      refine lv_aload_n hx hb dX7_readStuff_61 rfl (lv_at hl 1 rfl) ?_
      refine lv_dup hx hb dX7_readStuff_62 rfl ?_
      refine va_get (D := D) (ci := 7) (C := RX7) (T := TX7) (N := 40) hx hb F.2.2.2.2 in_X7_readStuff_X7 F.2.2.2.1 hK.1 hP 0 rfl rfl 17 (Nat.le_of_ble_eq_true rfl) (F.2.2.2.2 (.fieldLink RX7 101 "LouderRoomModel" "readStuffs" "I") (List.mem_of_getElem? (i := 2) rfl)) (fun _ h9 => h9) rfl dX7_readStuff_63 ?_
      refine lv_iconst (v := (1 : Int32)) hx hb dX7_readStuff_66 (by decide) ?_
      refine lv_iadd hx hb dX7_readStuff_67 ?_
      refine pt_put (D := D) (ci := 7) (fty := .int) (C := RX7) (T := TX7) (N := 40) (w1 := fl [oX7 ty h0 a0 (sI g2 17 ((g2.1 17) + (1 : Int32)))]) F in_X7_readStuff_X7 tyX7 tyX7_ok nmX7 hK.1 hP hD hS 0 rfl rfl 17 (Nat.le_of_ble_eq_true rfl) (F.2.2.2.2 (.fieldLink RX7 101 "LouderRoomModel" "readStuffs" "I") (List.mem_of_getElem? (i := 2) rfl)) (fun _ h9 => h9) rfl (by decide +kernel) rfl rfl (Nat.le_of_ble_eq_true rfl) rfl dX7_readStuff_68 (fun H locs hP hD hS => ?_)
      obtain ⟨g3, ex⟩ : ∃ y : Ob, y = (sI g2 17 ((g2.1 17) + (1 : Int32))) := ⟨_, rfl⟩
      replace hf := bnd_at hf ex; rw [← ex] at hP hD; clear ex
      refine lv_iconst (v := (1 : Int32)) hx hb dX7_readStuff_71 (by decide) ?_
      obtain hf := hf
      obtain ⟨e0, e1⟩ := tup2 hf
      rw [e1] at hP hD
      exact CX_z F hr hlk hP hD hS narrow_b1 e0 dX7_readStuff_72
    · replace hf := ite_t hf hc
      refine lv_iconst (v := (0 : Int32)) hx hb dX7_readStuff_33 (by decide) ?_
      obtain hf := hf
      obtain ⟨e0, e1⟩ := tup2 hf
      rw [e1] at hP hD
      exact CX_z F hr hlk hP hD hS narrow_b0 e0 dX7_readStuff_34
  refine lv_aload_n hx hb dX7_readStuff_0 rfl (lv_at hl 0 rfl) ?_
  refine lv_iconst (v := (0 : Int32)) hx hb dX7_readStuff_1 (by decide) ?_
  refine lv_bipush (v := (9 : Int32)) hx hb dX7_readStuff_2 (by decide) ?_
  obtain ⟨v4, g5, hv, hf⟩ := obd2 hf
  have hp1 : List.Perm [oX7 ty h0 a0 z0] ([oX7 ty h0 a0 z0] ++ []) := (List.Perm.refl _)
  refine ci_call (out := v4) (os := [oX7 ty h0 a0 z0]) (oc := [oX7 ty h0 a0 z0]) (oc' := [oX7 ty h0 a0 g5]) (or_ := []) (os' := [oX7 ty h0 a0 g5]) (va_runV (As := [.int (0 : Int32), .int (9 : Int32)]) (rest := []) F (c_X7_figure l D ty h0 a0 _ _ _ _ _ hv _) (cwV 2 F.2.2.2.2 gX7_readStuff_X7_figure rfl rfl rfl ⟨rfl, hd_X7_figure⟩ ⟨Nat.le_of_ble_eq_true rfl, Nat.le_of_ble_eq_true rfl⟩) (pre_v hK hP hD hp1 rfl rfl rfl) rfl rfl hl.1 rfl (lv_room (Nat.le_of_ble_eq_true rfl)) dX7_readStuff_4 ⟨Nat.zero_le _, Nat.zero_le _⟩) hp1 (List.Perm.refl _) hP hD hS hA (fun H locs hP hD hS => ?_)
  clear hp1 hv
  refine lv_istore_n (lv' := [(1, .int v4), (0, .ref h0)]) hx hb dX7_readStuff_7 rfl hl (by decide) rfl (fun ls hl => ?_)
  refine lv_iload_n hx hb dX7_readStuff_8 rfl (lv_at hl 0 rfl) ?_
  refine lv_bipush (v := (-9 : Int32)) hx hb dX7_readStuff_9 (by decide) ?_
  refine lv_icmp_ne (tgt := 19) hx hb dX7_readStuff_11 (by decide) (fun hc => ?_) (fun hc => ?_)
  · replace hf := ite_f hf hc
    refine lv_aload_n hx hb dX7_readStuff_19 rfl (lv_at hl 1 rfl) ?_
    refine lv_iconst (v := (1 : Int32)) hx hb dX7_readStuff_20 (by decide) ?_
    refine lv_bipush (v := (9 : Int32)) hx hb dX7_readStuff_21 (by decide) ?_
    obtain ⟨v6, g7, hv, hf⟩ := obd2 hf
    have hp1 : List.Perm [oX7 ty h0 a0 g5] ([oX7 ty h0 a0 g5] ++ []) := (List.Perm.refl _)
    refine ci_call (out := v6) (os := [oX7 ty h0 a0 g5]) (oc := [oX7 ty h0 a0 g5]) (oc' := [oX7 ty h0 a0 g7]) (or_ := []) (os' := [oX7 ty h0 a0 g7]) (va_runV (As := [.int (1 : Int32), .int (9 : Int32)]) (rest := []) F (c_X7_figure l D ty h0 a0 _ _ _ _ _ hv _) (cwV 2 F.2.2.2.2 gX7_readStuff_X7_figure rfl rfl rfl ⟨rfl, hd_X7_figure⟩ ⟨Nat.le_of_ble_eq_true rfl, Nat.le_of_ble_eq_true rfl⟩) (pre_v hK hP hD hp1 rfl rfl rfl) rfl rfl hl.1 rfl (lv_room (Nat.le_of_ble_eq_true rfl)) dX7_readStuff_23 ⟨Nat.zero_le _, Nat.zero_le _⟩) hp1 (List.Perm.refl _) hP hD hS hA (fun H locs hP hD hS => ?_)
    clear hp1 hv
    exact J_26 v4 v6 g7 _ _ _ hP hD hS (lv_sub hl [1, 0] rfl) hf
  · replace hf := ite_t hf hc
    refine lv_bipush (v := (-9 : Int32)) hx hb dX7_readStuff_14 (by decide) ?_
    refine lv_goto (tgt := 26) hx hb dX7_readStuff_16 (by decide) ?_
    exact J_26 v4 (-9 : Int32) g5 _ _ _ hP hD hS (lv_sub hl [1, 0] rfl) hf
def j_X7_readPart_40 (y1 : Int32) (w0 : Ob) : Option (Int32 × Ob) := (if y1 = (83 : Int32) then (if (5 : Int32) ≤ (w0.1 17) then some ((0 : Int32), w0) else bnd (sI w0 3 ((w0.1 3) + (1 : Int32))) (fun g1 => bd2 (f_X7_readStuff g1) (fun v2 g3 => (if isb v2 = true then some (v2, g3) else none)))) else some ((0 : Int32), w0))
def f_X7_readPart (z0 : Ob) : Option (Int32 × Ob) := (if inb (z0.1 3) 80 = true then bnd (z0.2 1 (z0.1 3).toNatClampNeg) (fun x4 => (if x4 = (71 : Int32) then (if (8 : Int32) ≤ (z0.1 16) then j_X7_readPart_40 x4 z0 else bnd (sI z0 3 ((z0.1 3) + (1 : Int32))) (fun g5 => bd2 (f_X7_readRing g5) (fun v6 g7 => (if isb v6 = true then some (v6, g7) else none)))) else j_X7_readPart_40 x4 z0)) else none)
abbrev rm_X7_readPart : Room := { frames := 3, cells := 0, slots := 0, locals := 74 }
theorem hd_X7_readPart : yX7_readPart.cls ≠ "java/lang/invoke/MethodHandle" ∧ yX7_readPart.cls ≠ "java/lang/invoke/VarHandle" ∧ (parseMethodDescriptor yX7_readPart.desc).map (fun d => d.parameters.length) = some 0 := by decide +kernel
theorem in_X7_readPart_X7 : ∀ w ∈ wsX70, w ∈ wsX7_readPart := fun w h => List.mem_cons_of_mem _ (List.mem_append_right _ h)
set_option maxHeartbeats 4000000 in
set_option maxRecDepth 100000 in
theorem c_X7_readPart (l : Launch) (D : va_G) (ty : TY) (h0 : Nat) (a0 : Nat → Nat) (z0 : Ob) (o0 : Int32) (o1 : Ob) (hf : f_X7_readPart z0 = some (o0, o1)) (sz : Nat) : CX l yX7_readPart wsX7_readPart rm_X7_readPart ([.ref h0] : List Value) D ty (fl [oX7 ty h0 a0 z0]) sz (qI D o0 (fl [oX7 ty h0 a0 o1])) 0 0 := by
  refine CX_of (cc := cX7_readPart) (maxL := 2) (ret := (some .boolean)) (C := RX7) (by decide) rfl rfl (Nat.le_of_ble_eq_true rfl) ?_
  intro p e s m below meth c A ls F hr hlk _ hK hP hD hS hA hl
  have hx := F.1
  have hb := F.2.1
  replace hl : lv_has ls 2 [(0, .ref h0)] := hl
  unfold f_X7_readPart at hf
  have J_40 : ∀ (y1 : Int32) (w0 : Ob) (H : Heap) (locs : List Loc) (ls : Array Slot), va_P D vwC (fl [oX7 ty h0 a0 w0]) H → va_D A (fl [oX7 ty h0 a0 w0]) → va_S A s.heap H locs → lv_has ls 2 [(0, .ref h0), (1, .int y1)] → j_X7_readPart_40 y1 w0 = some (o0, o1) → W p l e rm_X7_readPart s m ([.ref h0] : List Value).toArray below meth c H locs 0 0 (MQ below (qI D o0 (fl [oX7 ty h0 a0 o1]) A) ([.ref h0] : List Value).toArray s 0 0 A) (F0 m 40 ls []) := by
    intro y1 w0 H locs ls hP hD hS hl hf
    unfold j_X7_readPart_40 at hf
    refine lv_iload_n hx hb dX7_readPart_40 rfl (lv_at hl 1 rfl) ?_
    refine lv_bipush (v := (83 : Int32)) hx hb dX7_readPart_41 (by decide) ?_
    refine lv_icmp_ne (tgt := 69) hx hb dX7_readPart_43 (by decide) (fun hc => ?_) (fun hc => ?_)
    · replace hf := ite_f hf hc
      refine lv_iconst (v := (0 : Int32)) hx hb dX7_readPart_69 (by decide) ?_
      obtain hf := hf
      obtain ⟨e0, e1⟩ := tup2 hf
      rw [e1] at hP hD
      exact CX_z F hr hlk hP hD hS narrow_b0 e0 dX7_readPart_70
    · replace hf := ite_t hf hc
      refine lv_aload_n hx hb dX7_readPart_46 rfl (lv_at hl 0 rfl) ?_
      refine va_get (D := D) (ci := 7) (C := RX7) (T := TX7) (N := 40) hx hb F.2.2.2.2 in_X7_readPart_X7 F.2.2.2.1 hK.1 hP 0 rfl rfl 17 (Nat.le_of_ble_eq_true rfl) (F.2.2.2.2 (.fieldLink RX7 101 "LouderRoomModel" "readStuffs" "I") (List.mem_of_getElem? (i := 4) rfl)) (fun _ h9 => h9) rfl dX7_readPart_47 ?_
      refine lv_iconst (v := (5 : Int32)) hx hb dX7_readPart_50 (by decide) ?_
      refine lv_icmp_ge (tgt := 69) hx hb dX7_readPart_51 (by decide) (fun hc => ?_) (fun hc => ?_)
      · replace hf := ite_t hf hc
        refine lv_iconst (v := (0 : Int32)) hx hb dX7_readPart_69 (by decide) ?_
        obtain hf := hf
        obtain ⟨e0, e1⟩ := tup2 hf
        rw [e1] at hP hD
        exact CX_z F hr hlk hP hD hS narrow_b0 e0 dX7_readPart_70
      · replace hf := ite_f hf hc
        refine lv_aload_n hx hb dX7_readPart_54 rfl (lv_at hl 0 rfl) ?_
        refine lv_dup hx hb dX7_readPart_55 rfl ?_
        refine va_get (D := D) (ci := 7) (C := RX7) (T := TX7) (N := 40) hx hb F.2.2.2.2 in_X7_readPart_X7 F.2.2.2.1 hK.1 hP 0 rfl rfl 3 (Nat.le_of_ble_eq_true rfl) (F.2.2.2.2 (.fieldLink RX7 87 "LouderRoomModel" "place" "I") (List.mem_of_getElem? (i := 2) rfl)) (fun _ h9 => h9) rfl dX7_readPart_56 ?_
        refine lv_iconst (v := (1 : Int32)) hx hb dX7_readPart_59 (by decide) ?_
        refine lv_iadd hx hb dX7_readPart_60 ?_
        refine pt_put (D := D) (ci := 7) (fty := .int) (C := RX7) (T := TX7) (N := 40) (w1 := fl [oX7 ty h0 a0 (sI w0 3 ((w0.1 3) + (1 : Int32)))]) F in_X7_readPart_X7 tyX7 tyX7_ok nmX7 hK.1 hP hD hS 0 rfl rfl 3 (Nat.le_of_ble_eq_true rfl) (F.2.2.2.2 (.fieldLink RX7 87 "LouderRoomModel" "place" "I") (List.mem_of_getElem? (i := 2) rfl)) (fun _ h9 => h9) rfl (by decide +kernel) rfl rfl (Nat.le_of_ble_eq_true rfl) rfl dX7_readPart_61 (fun H locs hP hD hS => ?_)
        obtain ⟨g1, ex⟩ : ∃ y : Ob, y = (sI w0 3 ((w0.1 3) + (1 : Int32))) := ⟨_, rfl⟩
        replace hf := bnd_at hf ex; rw [← ex] at hP hD; clear ex
        refine lv_aload_n hx hb dX7_readPart_64 rfl (lv_at hl 0 rfl) ?_
        obtain ⟨v2, g3, hv, hf⟩ := obd2 hf
        have hp1 : List.Perm [oX7 ty h0 a0 g1] ([oX7 ty h0 a0 g1] ++ []) := (List.Perm.refl _)
        refine ci_call (out := v2) (os := [oX7 ty h0 a0 g1]) (oc := [oX7 ty h0 a0 g1]) (oc' := [oX7 ty h0 a0 g3]) (or_ := []) (os' := [oX7 ty h0 a0 g3]) (va_runV (As := []) (rest := []) F (c_X7_readStuff l D ty h0 a0 _ _ _ hv _) (cwV 0 F.2.2.2.2 gX7_readPart_X7_readStuff rfl rfl rfl ⟨rfl, hd_X7_readStuff⟩ ⟨Nat.le_of_ble_eq_true rfl, Nat.le_of_ble_eq_true rfl⟩) (pre_v hK hP hD hp1 rfl rfl rfl) rfl rfl hl.1 rfl (lv_room (Nat.le_of_ble_eq_true rfl)) dX7_readPart_65 ⟨Nat.zero_le _, Nat.zero_le _⟩) hp1 (List.Perm.refl _) hP hD hS hA (fun H locs hP hD hS => ?_)
        clear hp1 hv
        obtain ⟨hz, hf⟩ := grd hf
        obtain hf := hf
        obtain ⟨e0, e1⟩ := tup2 hf
        rw [e1] at hP hD
        exact CX_z F hr hlk hP hD hS (isb_n hz) e0 dX7_readPart_68
  refine lv_aload_n hx hb dX7_readPart_0 rfl (lv_at hl 0 rfl) ?_
  refine va_get (D := D) (ci := 7) (C := RX7) (T := TX7) (N := 40) hx hb F.2.2.2.2 in_X7_readPart_X7 F.2.2.2.1 hK.1 hP 0 rfl rfl 1 (Nat.le_of_ble_eq_true rfl) (F.2.2.2.2 (.fieldLink RX7 7 "LouderRoomModel" "text" "[I") (List.mem_of_getElem? (i := 1) rfl)) (fun _ h9 => h9) rfl dX7_readPart_1 ?_
  refine lv_aload_n hx hb dX7_readPart_4 rfl (lv_at hl 0 rfl) ?_
  refine va_get (D := D) (ci := 7) (C := RX7) (T := TX7) (N := 40) hx hb F.2.2.2.2 in_X7_readPart_X7 F.2.2.2.1 hK.1 hP 0 rfl rfl 3 (Nat.le_of_ble_eq_true rfl) (F.2.2.2.2 (.fieldLink RX7 87 "LouderRoomModel" "place" "I") (List.mem_of_getElem? (i := 2) rfl)) (fun _ h9 => h9) rfl dX7_readPart_5 ?_
  obtain ⟨hi, hf⟩ := grd hf
  refine va_iald hx hb hK.1 hP 1 0 rfl rfl (inb_in hi) dX7_readPart_8 ?_
  refine lv_topi (fun x4 ex => ?_)
  replace hf := bnd_at hf ex; clear ex
  refine lv_istore_n (lv' := [(1, .int x4), (0, .ref h0)]) hx hb dX7_readPart_9 rfl hl (by decide) rfl (fun ls hl => ?_)
  refine lv_iload_n hx hb dX7_readPart_10 rfl (lv_at hl 0 rfl) ?_
  refine lv_bipush (v := (71 : Int32)) hx hb dX7_readPart_11 (by decide) ?_
  refine lv_icmp_ne (tgt := 40) hx hb dX7_readPart_13 (by decide) (fun hc => ?_) (fun hc => ?_)
  · replace hf := ite_f hf hc
    exact J_40 x4 z0 _ _ _ hP hD hS (lv_sub hl [1, 0] rfl) hf
  · replace hf := ite_t hf hc
    refine lv_aload_n hx hb dX7_readPart_16 rfl (lv_at hl 1 rfl) ?_
    refine va_get (D := D) (ci := 7) (C := RX7) (T := TX7) (N := 40) hx hb F.2.2.2.2 in_X7_readPart_X7 F.2.2.2.1 hK.1 hP 0 rfl rfl 16 (Nat.le_of_ble_eq_true rfl) (F.2.2.2.2 (.fieldLink RX7 90 "LouderRoomModel" "readRings" "I") (List.mem_of_getElem? (i := 3) rfl)) (fun _ h9 => h9) rfl dX7_readPart_17 ?_
    refine lv_bipush (v := (8 : Int32)) hx hb dX7_readPart_20 (by decide) ?_
    refine lv_icmp_ge (tgt := 40) hx hb dX7_readPart_22 (by decide) (fun hc => ?_) (fun hc => ?_)
    · replace hf := ite_t hf hc
      exact J_40 x4 z0 _ _ _ hP hD hS (lv_sub hl [1, 0] rfl) hf
    · replace hf := ite_f hf hc
      refine lv_aload_n hx hb dX7_readPart_25 rfl (lv_at hl 1 rfl) ?_
      refine lv_dup hx hb dX7_readPart_26 rfl ?_
      refine va_get (D := D) (ci := 7) (C := RX7) (T := TX7) (N := 40) hx hb F.2.2.2.2 in_X7_readPart_X7 F.2.2.2.1 hK.1 hP 0 rfl rfl 3 (Nat.le_of_ble_eq_true rfl) (F.2.2.2.2 (.fieldLink RX7 87 "LouderRoomModel" "place" "I") (List.mem_of_getElem? (i := 2) rfl)) (fun _ h9 => h9) rfl dX7_readPart_27 ?_
      refine lv_iconst (v := (1 : Int32)) hx hb dX7_readPart_30 (by decide) ?_
      refine lv_iadd hx hb dX7_readPart_31 ?_
      refine pt_put (D := D) (ci := 7) (fty := .int) (C := RX7) (T := TX7) (N := 40) (w1 := fl [oX7 ty h0 a0 (sI z0 3 ((z0.1 3) + (1 : Int32)))]) F in_X7_readPart_X7 tyX7 tyX7_ok nmX7 hK.1 hP hD hS 0 rfl rfl 3 (Nat.le_of_ble_eq_true rfl) (F.2.2.2.2 (.fieldLink RX7 87 "LouderRoomModel" "place" "I") (List.mem_of_getElem? (i := 2) rfl)) (fun _ h9 => h9) rfl (by decide +kernel) rfl rfl (Nat.le_of_ble_eq_true rfl) rfl dX7_readPart_32 (fun H locs hP hD hS => ?_)
      obtain ⟨g5, ex⟩ : ∃ y : Ob, y = (sI z0 3 ((z0.1 3) + (1 : Int32))) := ⟨_, rfl⟩
      replace hf := bnd_at hf ex; rw [← ex] at hP hD; clear ex
      refine lv_aload_n hx hb dX7_readPart_35 rfl (lv_at hl 1 rfl) ?_
      obtain ⟨v6, g7, hv, hf⟩ := obd2 hf
      have hp1 : List.Perm [oX7 ty h0 a0 g5] ([oX7 ty h0 a0 g5] ++ []) := (List.Perm.refl _)
      refine ci_call (out := v6) (os := [oX7 ty h0 a0 g5]) (oc := [oX7 ty h0 a0 g5]) (oc' := [oX7 ty h0 a0 g7]) (or_ := []) (os' := [oX7 ty h0 a0 g7]) (va_runV (As := []) (rest := []) F (c_X7_readRing l D ty h0 a0 _ _ _ hv _) (cwV 0 F.2.2.2.2 gX7_readPart_X7_readRing rfl rfl rfl ⟨rfl, hd_X7_readRing⟩ ⟨Nat.le_of_ble_eq_true rfl, Nat.le_of_ble_eq_true rfl⟩) (pre_v hK hP hD hp1 rfl rfl rfl) rfl rfl hl.1 rfl (lv_room (Nat.le_of_ble_eq_true rfl)) dX7_readPart_36 ⟨Nat.zero_le _, Nat.zero_le _⟩) hp1 (List.Perm.refl _) hP hD hS hA (fun H locs hP hD hS => ?_)
      clear hp1 hv
      obtain ⟨hz, hf⟩ := grd hf
      obtain hf := hf
      obtain ⟨e0, e1⟩ := tup2 hf
      rw [e1] at hP hD
      exact CX_z F hr hlk hP hD hS (isb_n hz) e0 dX7_readPart_39
def b_X7_readRoom_90 (r_90 : Ob → Option (Int32 × Ob)) (w0 : Ob) : Option (Int32 × Ob) := (if (w0.1 2) ≤ (w0.1 3) then some ((-9 : Int32), w0) else bd2 (f_X7_readPart w0) (fun v2 g3 => (if v2 = 0 then some ((g3.1 3), g3) else r_90 g3)))
def j_X7_readRoom_73 (t0 : Int32) (w0 : Ob) : Option (Int32 × Ob) := bnd (sI w0 19 t0) (fun g1 => (if (g1.1 19) = (-9 : Int32) then some ((g1.1 3), g1) else fuel1 (b_X7_readRoom_90) FU g1))
def f_X7_readRoom (z0 : Ob) : Option (Int32 × Ob) := bnd (sI z0 3 (0 : Int32)) (fun g4 => bnd (sI g4 16 (0 : Int32)) (fun g5 => bnd (sI g5 17 (0 : Int32)) (fun g6 => (if (g6.1 2) = 0 then some ((0 : Int32), g6) else (if inb (0 : Int32) 80 = true then (if (g6.2 1 (0 : Int32).toNatClampNeg) = (82 : Int32) then bnd (sI g6 3 (1 : Int32)) (fun g7 => bd2 (f_X7_figure g7 (0 : Int32) (9 : Int32)) (fun v8 g9 => bnd (sI g9 18 v8) (fun g10 => (if (g10.1 18) = (-9 : Int32) then j_X7_readRoom_73 (-9 : Int32) g10 else bd2 (f_X7_figure g10 (0 : Int32) (9 : Int32)) (fun v11 g12 => j_X7_readRoom_73 v11 g12))))) else some ((0 : Int32), g6)) else none)))))
abbrev rm_X7_readRoom : Room := { frames := 4, cells := 0, slots := 0, locals := 95 }
theorem hd_X7_readRoom : yX7_readRoom.cls ≠ "java/lang/invoke/MethodHandle" ∧ yX7_readRoom.cls ≠ "java/lang/invoke/VarHandle" ∧ (parseMethodDescriptor yX7_readRoom.desc).map (fun d => d.parameters.length) = some 0 := by decide +kernel
theorem in_X7_readRoom_X7 : ∀ w ∈ wsX70, w ∈ wsX7_readRoom := fun w h => List.mem_cons_of_mem _ (List.mem_append_right _ h)
set_option maxHeartbeats 4000000 in
set_option maxRecDepth 100000 in
theorem c_X7_readRoom (l : Launch) (D : va_G) (ty : TY) (h0 : Nat) (a0 : Nat → Nat) (z0 : Ob) (o0 : Int32) (o1 : Ob) (hf : f_X7_readRoom z0 = some (o0, o1)) (sz : Nat) : CX l yX7_readRoom wsX7_readRoom rm_X7_readRoom ([.ref h0] : List Value) D ty (fl [oX7 ty h0 a0 z0]) sz (qI D o0 (fl [oX7 ty h0 a0 o1])) 0 0 := by
  refine CX_of (cc := cX7_readRoom) (maxL := 1) (ret := (some .int)) (C := RX7) (by decide) rfl rfl (Nat.le_of_ble_eq_true rfl) ?_
  intro p e s m below meth c A ls F hr hlk _ hK hP hD hS hA hl
  have hx := F.1
  have hb := F.2.1
  replace hl : lv_has ls 1 [(0, .ref h0)] := hl
  unfold f_X7_readRoom at hf
  have J_73 : ∀ (t0 : Int32) (w0 : Ob) (H : Heap) (locs : List Loc) (ls : Array Slot), va_P D vwC (fl [oX7 ty h0 a0 w0]) H → va_D A (fl [oX7 ty h0 a0 w0]) → va_S A s.heap H locs → lv_has ls 1 [(0, .ref h0)] → j_X7_readRoom_73 t0 w0 = some (o0, o1) → W p l e rm_X7_readRoom s m ([.ref h0] : List Value).toArray below meth c H locs 0 0 (MQ below (qI D o0 (fl [oX7 ty h0 a0 o1]) A) ([.ref h0] : List Value).toArray s 0 0 A) (F0 m 73 ls [.int t0, .ref h0]) := by
    intro t0 w0 H locs ls hP hD hS hl hf
    unfold j_X7_readRoom_73 at hf
    refine pt_put (D := D) (ci := 7) (fty := .int) (C := RX7) (T := TX7) (N := 40) (w1 := fl [oX7 ty h0 a0 (sI w0 19 t0)]) F in_X7_readRoom_X7 tyX7 tyX7_ok nmX7 hK.1 hP hD hS 0 rfl rfl 19 (Nat.le_of_ble_eq_true rfl) (F.2.2.2.2 (.fieldLink RX7 112 "LouderRoomModel" "readMusic" "I") (List.mem_of_getElem? (i := 7) rfl)) (fun _ h9 => h9) rfl (by decide +kernel) rfl rfl (Nat.le_of_ble_eq_true rfl) rfl dX7_readRoom_73 (fun H locs hP hD hS => ?_)
    obtain ⟨g1, ex⟩ : ∃ y : Ob, y = (sI w0 19 t0) := ⟨_, rfl⟩
    replace hf := bnd_at hf ex; rw [← ex] at hP hD; clear ex
    refine lv_aload_n hx hb dX7_readRoom_76 rfl (lv_at hl 0 rfl) ?_
    refine va_get (D := D) (ci := 7) (C := RX7) (T := TX7) (N := 40) hx hb F.2.2.2.2 in_X7_readRoom_X7 F.2.2.2.1 hK.1 hP 0 rfl rfl 19 (Nat.le_of_ble_eq_true rfl) (F.2.2.2.2 (.fieldLink RX7 112 "LouderRoomModel" "readMusic" "I") (List.mem_of_getElem? (i := 7) rfl)) (fun _ h9 => h9) rfl dX7_readRoom_77 ?_
    refine lv_bipush (v := (-9 : Int32)) hx hb dX7_readRoom_80 (by decide) ?_
    refine lv_icmp_ne (tgt := 90) hx hb dX7_readRoom_82 (by decide) (fun hc => ?_) (fun hc => ?_)
    · replace hf := ite_f hf hc
      have L_90 : ∀ (n : Nat) (w0 : Ob) (H : Heap) (locs : List Loc) (ls : Array Slot), va_P D vwC (fl [oX7 ty h0 a0 w0]) H → va_D A (fl [oX7 ty h0 a0 w0]) → va_S A s.heap H locs → lv_has ls 1 [(0, .ref h0)] → fuel1 (b_X7_readRoom_90) n w0 = some (o0, o1) → W p l e rm_X7_readRoom s m ([.ref h0] : List Value).toArray below meth c H locs 0 0 (MQ below (qI D o0 (fl [oX7 ty h0 a0 o1]) A) ([.ref h0] : List Value).toArray s 0 0 A) (F0 m 90 ls []) := by
        intro n
        induction n with
        | zero => intro w0 H locs ls hP hD hS hl hf; cases hf
        | succ n ih_90 =>
          intro w0 H locs ls hP hD hS hl hf
          replace hf : b_X7_readRoom_90 (fuel1 (b_X7_readRoom_90) n) w0 = some (o0, o1) := hf
          generalize fuel1 (b_X7_readRoom_90) n = r_90 at ih_90 hf
          unfold b_X7_readRoom_90 at hf
          refine lv_aload_n hx hb dX7_readRoom_90 rfl (lv_at hl 0 rfl) ?_
          refine va_get (D := D) (ci := 7) (C := RX7) (T := TX7) (N := 40) hx hb F.2.2.2.2 in_X7_readRoom_X7 F.2.2.2.1 hK.1 hP 0 rfl rfl 3 (Nat.le_of_ble_eq_true rfl) (F.2.2.2.2 (.fieldLink RX7 87 "LouderRoomModel" "place" "I") (List.mem_of_getElem? (i := 1) rfl)) (fun _ h9 => h9) rfl dX7_readRoom_91 ?_
          refine lv_aload_n hx hb dX7_readRoom_94 rfl (lv_at hl 0 rfl) ?_
          refine va_get (D := D) (ci := 7) (C := RX7) (T := TX7) (N := 40) hx hb F.2.2.2.2 in_X7_readRoom_X7 F.2.2.2.1 hK.1 hP 0 rfl rfl 2 (Nat.le_of_ble_eq_true rfl) (F.2.2.2.2 (.fieldLink RX7 84 "LouderRoomModel" "textSize" "I") (List.mem_of_getElem? (i := 4) rfl)) (fun _ h9 => h9) rfl dX7_readRoom_95 ?_
          refine lv_icmp_ge (tgt := 113) hx hb dX7_readRoom_98 (by decide) (fun hc => ?_) (fun hc => ?_)
          · replace hf := ite_t hf hc
            refine lv_bipush (v := (-9 : Int32)) hx hb dX7_readRoom_113 (by decide) ?_
            obtain hf := hf
            obtain ⟨e0, e1⟩ := tup2 hf
            rw [e1] at hP hD
            exact CX_i F hr hlk hP hD hS e0 dX7_readRoom_115
          · replace hf := ite_f hf hc
            refine lv_aload_n hx hb dX7_readRoom_101 rfl (lv_at hl 0 rfl) ?_
            obtain ⟨v2, g3, hv, hf⟩ := obd2 hf
            have hp1 : List.Perm [oX7 ty h0 a0 w0] ([oX7 ty h0 a0 w0] ++ []) := (List.Perm.refl _)
            refine ci_call (out := v2) (os := [oX7 ty h0 a0 w0]) (oc := [oX7 ty h0 a0 w0]) (oc' := [oX7 ty h0 a0 g3]) (or_ := []) (os' := [oX7 ty h0 a0 g3]) (va_runV (As := []) (rest := []) F (c_X7_readPart l D ty h0 a0 _ _ _ hv _) (cwV 0 F.2.2.2.2 gX7_readRoom_X7_readPart rfl rfl rfl ⟨rfl, hd_X7_readPart⟩ ⟨Nat.le_of_ble_eq_true rfl, Nat.le_of_ble_eq_true rfl⟩) (pre_v hK hP hD hp1 rfl rfl rfl) rfl rfl hl.1 rfl (lv_room (Nat.le_of_ble_eq_true rfl)) dX7_readRoom_102 ⟨Nat.zero_le _, Nat.zero_le _⟩) hp1 (List.Perm.refl _) hP hD hS hA (fun H locs hP hD hS => ?_)
            clear hp1 hv
            refine lv_if_ne (tgt := 90) hx hb dX7_readRoom_105 (by decide) (fun hc => ?_) (fun hc => ?_)
            · replace hf := ite_f hf hc
              exact ih_90 g3 _ _ _ hP hD hS (lv_sub hl [0] rfl) hf
            · replace hf := ite_t hf hc
              refine lv_aload_n hx hb dX7_readRoom_108 rfl (lv_at hl 0 rfl) ?_
              refine va_get (D := D) (ci := 7) (C := RX7) (T := TX7) (N := 40) hx hb F.2.2.2.2 in_X7_readRoom_X7 F.2.2.2.1 hK.1 hP 0 rfl rfl 3 (Nat.le_of_ble_eq_true rfl) (F.2.2.2.2 (.fieldLink RX7 87 "LouderRoomModel" "place" "I") (List.mem_of_getElem? (i := 1) rfl)) (fun _ h9 => h9) rfl dX7_readRoom_109 ?_
              obtain hf := hf
              obtain ⟨e0, e1⟩ := tup2 hf
              rw [e1] at hP hD
              exact CX_i F hr hlk hP hD hS e0 dX7_readRoom_112
      exact L_90 FU g1 _ _ _ hP hD hS (lv_sub hl [0] rfl) hf
    · replace hf := ite_t hf hc
      refine lv_aload_n hx hb dX7_readRoom_85 rfl (lv_at hl 0 rfl) ?_
      refine va_get (D := D) (ci := 7) (C := RX7) (T := TX7) (N := 40) hx hb F.2.2.2.2 in_X7_readRoom_X7 F.2.2.2.1 hK.1 hP 0 rfl rfl 3 (Nat.le_of_ble_eq_true rfl) (F.2.2.2.2 (.fieldLink RX7 87 "LouderRoomModel" "place" "I") (List.mem_of_getElem? (i := 1) rfl)) (fun _ h9 => h9) rfl dX7_readRoom_86 ?_
      obtain hf := hf
      obtain ⟨e0, e1⟩ := tup2 hf
      rw [e1] at hP hD
      exact CX_i F hr hlk hP hD hS e0 dX7_readRoom_89
  refine lv_aload_n hx hb dX7_readRoom_0 rfl (lv_at hl 0 rfl) ?_
  refine lv_iconst (v := (0 : Int32)) hx hb dX7_readRoom_1 (by decide) ?_
  refine pt_put (D := D) (ci := 7) (fty := .int) (C := RX7) (T := TX7) (N := 40) (w1 := fl [oX7 ty h0 a0 (sI z0 3 (0 : Int32))]) F in_X7_readRoom_X7 tyX7 tyX7_ok nmX7 hK.1 hP hD hS 0 rfl rfl 3 (Nat.le_of_ble_eq_true rfl) (F.2.2.2.2 (.fieldLink RX7 87 "LouderRoomModel" "place" "I") (List.mem_of_getElem? (i := 1) rfl)) (fun _ h9 => h9) rfl (by decide +kernel) rfl rfl (Nat.le_of_ble_eq_true rfl) rfl dX7_readRoom_2 (fun H locs hP hD hS => ?_)
  obtain ⟨g4, ex⟩ : ∃ y : Ob, y = (sI z0 3 (0 : Int32)) := ⟨_, rfl⟩
  replace hf := bnd_at hf ex; rw [← ex] at hP hD; clear ex
  refine lv_aload_n hx hb dX7_readRoom_5 rfl (lv_at hl 0 rfl) ?_
  refine lv_iconst (v := (0 : Int32)) hx hb dX7_readRoom_6 (by decide) ?_
  refine pt_put (D := D) (ci := 7) (fty := .int) (C := RX7) (T := TX7) (N := 40) (w1 := fl [oX7 ty h0 a0 (sI g4 16 (0 : Int32))]) F in_X7_readRoom_X7 tyX7 tyX7_ok nmX7 hK.1 hP hD hS 0 rfl rfl 16 (Nat.le_of_ble_eq_true rfl) (F.2.2.2.2 (.fieldLink RX7 90 "LouderRoomModel" "readRings" "I") (List.mem_of_getElem? (i := 2) rfl)) (fun _ h9 => h9) rfl (by decide +kernel) rfl rfl (Nat.le_of_ble_eq_true rfl) rfl dX7_readRoom_7 (fun H locs hP hD hS => ?_)
  obtain ⟨g5, ex⟩ : ∃ y : Ob, y = (sI g4 16 (0 : Int32)) := ⟨_, rfl⟩
  replace hf := bnd_at hf ex; rw [← ex] at hP hD; clear ex
  refine lv_aload_n hx hb dX7_readRoom_10 rfl (lv_at hl 0 rfl) ?_
  refine lv_iconst (v := (0 : Int32)) hx hb dX7_readRoom_11 (by decide) ?_
  refine pt_put (D := D) (ci := 7) (fty := .int) (C := RX7) (T := TX7) (N := 40) (w1 := fl [oX7 ty h0 a0 (sI g5 17 (0 : Int32))]) F in_X7_readRoom_X7 tyX7 tyX7_ok nmX7 hK.1 hP hD hS 0 rfl rfl 17 (Nat.le_of_ble_eq_true rfl) (F.2.2.2.2 (.fieldLink RX7 101 "LouderRoomModel" "readStuffs" "I") (List.mem_of_getElem? (i := 3) rfl)) (fun _ h9 => h9) rfl (by decide +kernel) rfl rfl (Nat.le_of_ble_eq_true rfl) rfl dX7_readRoom_12 (fun H locs hP hD hS => ?_)
  obtain ⟨g6, ex⟩ : ∃ y : Ob, y = (sI g5 17 (0 : Int32)) := ⟨_, rfl⟩
  replace hf := bnd_at hf ex; rw [← ex] at hP hD; clear ex
  refine lv_aload_n hx hb dX7_readRoom_15 rfl (lv_at hl 0 rfl) ?_
  refine va_get (D := D) (ci := 7) (C := RX7) (T := TX7) (N := 40) hx hb F.2.2.2.2 in_X7_readRoom_X7 F.2.2.2.1 hK.1 hP 0 rfl rfl 2 (Nat.le_of_ble_eq_true rfl) (F.2.2.2.2 (.fieldLink RX7 84 "LouderRoomModel" "textSize" "I") (List.mem_of_getElem? (i := 4) rfl)) (fun _ h9 => h9) rfl dX7_readRoom_16 ?_
  refine lv_if_eq (tgt := 33) hx hb dX7_readRoom_19 (by decide) (fun hc => ?_) (fun hc => ?_)
  · replace hf := ite_t hf hc
    refine lv_iconst (v := (0 : Int32)) hx hb dX7_readRoom_33 (by decide) ?_
    obtain hf := hf
    obtain ⟨e0, e1⟩ := tup2 hf
    rw [e1] at hP hD
    exact CX_i F hr hlk hP hD hS e0 dX7_readRoom_34
  · replace hf := ite_f hf hc
    refine lv_aload_n hx hb dX7_readRoom_22 rfl (lv_at hl 0 rfl) ?_
    refine va_get (D := D) (ci := 7) (C := RX7) (T := TX7) (N := 40) hx hb F.2.2.2.2 in_X7_readRoom_X7 F.2.2.2.1 hK.1 hP 0 rfl rfl 1 (Nat.le_of_ble_eq_true rfl) (F.2.2.2.2 (.fieldLink RX7 7 "LouderRoomModel" "text" "[I") (List.mem_of_getElem? (i := 5) rfl)) (fun _ h9 => h9) rfl dX7_readRoom_23 ?_
    refine lv_iconst (v := (0 : Int32)) hx hb dX7_readRoom_26 (by decide) ?_
    obtain ⟨hi, hf⟩ := grd hf
    refine va_iald hx hb hK.1 hP 1 0 rfl rfl (inb_in hi) dX7_readRoom_27 ?_
    refine lv_bipush (v := (82 : Int32)) hx hb dX7_readRoom_28 (by decide) ?_
    refine lv_icmp_eq (tgt := 35) hx hb dX7_readRoom_30 (by decide) (fun hc => ?_) (fun hc => ?_)
    · replace hf := ite_t hf hc
      refine lv_aload_n hx hb dX7_readRoom_35 rfl (lv_at hl 0 rfl) ?_
      refine lv_iconst (v := (1 : Int32)) hx hb dX7_readRoom_36 (by decide) ?_
      refine pt_put (D := D) (ci := 7) (fty := .int) (C := RX7) (T := TX7) (N := 40) (w1 := fl [oX7 ty h0 a0 (sI g6 3 (1 : Int32))]) F in_X7_readRoom_X7 tyX7 tyX7_ok nmX7 hK.1 hP hD hS 0 rfl rfl 3 (Nat.le_of_ble_eq_true rfl) (F.2.2.2.2 (.fieldLink RX7 87 "LouderRoomModel" "place" "I") (List.mem_of_getElem? (i := 1) rfl)) (fun _ h9 => h9) rfl (by decide +kernel) rfl rfl (Nat.le_of_ble_eq_true rfl) rfl dX7_readRoom_37 (fun H locs hP hD hS => ?_)
      obtain ⟨g7, ex⟩ : ∃ y : Ob, y = (sI g6 3 (1 : Int32)) := ⟨_, rfl⟩
      replace hf := bnd_at hf ex; rw [← ex] at hP hD; clear ex
      refine lv_aload_n hx hb dX7_readRoom_40 rfl (lv_at hl 0 rfl) ?_
      refine lv_aload_n hx hb dX7_readRoom_41 rfl (lv_at hl 0 rfl) ?_
      refine lv_iconst (v := (0 : Int32)) hx hb dX7_readRoom_42 (by decide) ?_
      refine lv_bipush (v := (9 : Int32)) hx hb dX7_readRoom_43 (by decide) ?_
      obtain ⟨v8, g9, hv, hf⟩ := obd2 hf
      have hp1 : List.Perm [oX7 ty h0 a0 g7] ([oX7 ty h0 a0 g7] ++ []) := (List.Perm.refl _)
      refine ci_call (out := v8) (os := [oX7 ty h0 a0 g7]) (oc := [oX7 ty h0 a0 g7]) (oc' := [oX7 ty h0 a0 g9]) (or_ := []) (os' := [oX7 ty h0 a0 g9]) (va_runV (As := [.int (0 : Int32), .int (9 : Int32)]) (rest := [.ref h0]) F (c_X7_figure l D ty h0 a0 _ _ _ _ _ hv _) (cwV 2 F.2.2.2.2 gX7_readRoom_X7_figure rfl rfl rfl ⟨rfl, hd_X7_figure⟩ ⟨Nat.le_of_ble_eq_true rfl, Nat.le_of_ble_eq_true rfl⟩) (pre_v hK hP hD hp1 rfl rfl rfl) rfl rfl hl.1 rfl (lv_room (Nat.le_of_ble_eq_true rfl)) dX7_readRoom_45 ⟨Nat.zero_le _, Nat.zero_le _⟩) hp1 (List.Perm.refl _) hP hD hS hA (fun H locs hP hD hS => ?_)
      clear hp1 hv
      refine pt_put (D := D) (ci := 7) (fty := .int) (C := RX7) (T := TX7) (N := 40) (w1 := fl [oX7 ty h0 a0 (sI g9 18 v8)]) F in_X7_readRoom_X7 tyX7 tyX7_ok nmX7 hK.1 hP hD hS 0 rfl rfl 18 (Nat.le_of_ble_eq_true rfl) (F.2.2.2.2 (.fieldLink RX7 109 "LouderRoomModel" "readEats" "I") (List.mem_of_getElem? (i := 6) rfl)) (fun _ h9 => h9) rfl (by decide +kernel) rfl rfl (Nat.le_of_ble_eq_true rfl) rfl dX7_readRoom_48 (fun H locs hP hD hS => ?_)
      obtain ⟨g10, ex⟩ : ∃ y : Ob, y = (sI g9 18 v8) := ⟨_, rfl⟩
      replace hf := bnd_at hf ex; rw [← ex] at hP hD; clear ex
      refine lv_aload_n hx hb dX7_readRoom_51 rfl (lv_at hl 0 rfl) ?_
      refine lv_aload_n hx hb dX7_readRoom_52 rfl (lv_at hl 0 rfl) ?_
      refine va_get (D := D) (ci := 7) (C := RX7) (T := TX7) (N := 40) hx hb F.2.2.2.2 in_X7_readRoom_X7 F.2.2.2.1 hK.1 hP 0 rfl rfl 18 (Nat.le_of_ble_eq_true rfl) (F.2.2.2.2 (.fieldLink RX7 109 "LouderRoomModel" "readEats" "I") (List.mem_of_getElem? (i := 6) rfl)) (fun _ h9 => h9) rfl dX7_readRoom_53 ?_
      refine lv_bipush (v := (-9 : Int32)) hx hb dX7_readRoom_56 (by decide) ?_
      refine lv_icmp_ne (tgt := 66) hx hb dX7_readRoom_58 (by decide) (fun hc => ?_) (fun hc => ?_)
      · replace hf := ite_f hf hc
        refine lv_aload_n hx hb dX7_readRoom_66 rfl (lv_at hl 0 rfl) ?_
        refine lv_iconst (v := (0 : Int32)) hx hb dX7_readRoom_67 (by decide) ?_
        refine lv_bipush (v := (9 : Int32)) hx hb dX7_readRoom_68 (by decide) ?_
        obtain ⟨v11, g12, hv, hf⟩ := obd2 hf
        have hp1 : List.Perm [oX7 ty h0 a0 g10] ([oX7 ty h0 a0 g10] ++ []) := (List.Perm.refl _)
        refine ci_call (out := v11) (os := [oX7 ty h0 a0 g10]) (oc := [oX7 ty h0 a0 g10]) (oc' := [oX7 ty h0 a0 g12]) (or_ := []) (os' := [oX7 ty h0 a0 g12]) (va_runV (As := [.int (0 : Int32), .int (9 : Int32)]) (rest := [.ref h0]) F (c_X7_figure l D ty h0 a0 _ _ _ _ _ hv _) (cwV 2 F.2.2.2.2 gX7_readRoom_X7_figure rfl rfl rfl ⟨rfl, hd_X7_figure⟩ ⟨Nat.le_of_ble_eq_true rfl, Nat.le_of_ble_eq_true rfl⟩) (pre_v hK hP hD hp1 rfl rfl rfl) rfl rfl hl.1 rfl (lv_room (Nat.le_of_ble_eq_true rfl)) dX7_readRoom_70 ⟨Nat.zero_le _, Nat.zero_le _⟩) hp1 (List.Perm.refl _) hP hD hS hA (fun H locs hP hD hS => ?_)
        clear hp1 hv
        exact J_73 v11 g12 _ _ _ hP hD hS (lv_sub hl [0] rfl) hf
      · replace hf := ite_t hf hc
        refine lv_bipush (v := (-9 : Int32)) hx hb dX7_readRoom_61 (by decide) ?_
        refine lv_goto (tgt := 73) hx hb dX7_readRoom_63 (by decide) ?_
        exact J_73 (-9 : Int32) g10 _ _ _ hP hD hS (lv_sub hl [0] rfl) hf
    · replace hf := ite_f hf hc
      refine lv_iconst (v := (0 : Int32)) hx hb dX7_readRoom_33 (by decide) ?_
      obtain hf := hf
      obtain ⟨e0, e1⟩ := tup2 hf
      rw [e1] at hP hD
      exact CX_i F hr hlk hP hD hS e0 dX7_readRoom_34
def f_X7_fault (z0 : Ob) : Option (Int32 × Ob) := bnd (sI z0 0 (0 : Int32)) (fun g1 => bd2 (f_X7_readRoom g1) (fun v2 g3 => some (v2, g3)))
abbrev rm_X7_fault : Room := { frames := 5, cells := 0, slots := 0, locals := 115 }
theorem hd_X7_fault : yX7_fault.cls ≠ "java/lang/invoke/MethodHandle" ∧ yX7_fault.cls ≠ "java/lang/invoke/VarHandle" ∧ (parseMethodDescriptor yX7_fault.desc).map (fun d => d.parameters.length) = some 0 := by decide +kernel
theorem in_X7_fault_X7 : ∀ w ∈ wsX70, w ∈ wsX7_fault := fun w h => List.mem_cons_of_mem _ (List.mem_append_right _ h)
set_option maxHeartbeats 4000000 in
set_option maxRecDepth 100000 in
theorem c_X7_fault (l : Launch) (D : va_G) (ty : TY) (h0 : Nat) (a0 : Nat → Nat) (z0 : Ob) (o0 : Int32) (o1 : Ob) (hf : f_X7_fault z0 = some (o0, o1)) (sz : Nat) : CX l yX7_fault wsX7_fault rm_X7_fault ([.ref h0] : List Value) D ty (fl [oX7 ty h0 a0 z0]) sz (qI D o0 (fl [oX7 ty h0 a0 o1])) 0 0 := by
  refine CX_of (cc := cX7_fault) (maxL := 1) (ret := (some .int)) (C := RX7) (by decide) rfl rfl (Nat.le_of_ble_eq_true rfl) ?_
  intro p e s m below meth c A ls F hr hlk _ hK hP hD hS hA hl
  have hx := F.1
  have hb := F.2.1
  replace hl : lv_has ls 1 [(0, .ref h0)] := hl
  unfold f_X7_fault at hf
  refine lv_aload_n hx hb dX7_fault_0 rfl (lv_at hl 0 rfl) ?_
  refine lv_iconst (v := (0 : Int32)) hx hb dX7_fault_1 (by decide) ?_
  refine pt_put (D := D) (ci := 7) (fty := .int) (C := RX7) (T := TX7) (N := 40) (w1 := fl [oX7 ty h0 a0 (sI z0 0 (0 : Int32))]) F in_X7_fault_X7 tyX7 tyX7_ok nmX7 hK.1 hP hD hS 0 rfl rfl 0 (Nat.le_of_ble_eq_true rfl) (F.2.2.2.2 (.fieldLink RX7 71 "LouderRoomModel" "thrown" "I") (List.mem_of_getElem? (i := 1) rfl)) (fun _ h9 => h9) rfl (by decide +kernel) rfl rfl (Nat.le_of_ble_eq_true rfl) rfl dX7_fault_2 (fun H locs hP hD hS => ?_)
  obtain ⟨g1, ex⟩ : ∃ y : Ob, y = (sI z0 0 (0 : Int32)) := ⟨_, rfl⟩
  replace hf := bnd_at hf ex; rw [← ex] at hP hD; clear ex
  refine lv_aload_n hx hb dX7_fault_5 rfl (lv_at hl 0 rfl) ?_
  obtain ⟨v2, g3, hv, hf⟩ := obd2 hf
  have hp1 : List.Perm [oX7 ty h0 a0 g1] ([oX7 ty h0 a0 g1] ++ []) := (List.Perm.refl _)
  refine ci_call (out := v2) (os := [oX7 ty h0 a0 g1]) (oc := [oX7 ty h0 a0 g1]) (oc' := [oX7 ty h0 a0 g3]) (or_ := []) (os' := [oX7 ty h0 a0 g3]) (va_runV (As := []) (rest := []) F (c_X7_readRoom l D ty h0 a0 _ _ _ hv _) (cwV 0 F.2.2.2.2 gX7_fault_X7_readRoom rfl rfl rfl ⟨rfl, hd_X7_readRoom⟩ ⟨Nat.le_of_ble_eq_true rfl, Nat.le_of_ble_eq_true rfl⟩) (pre_v hK hP hD hp1 rfl rfl rfl) rfl rfl hl.1 rfl (lv_room (Nat.le_of_ble_eq_true rfl)) dX7_fault_6 ⟨Nat.zero_le _, Nat.zero_le _⟩) hp1 (List.Perm.refl _) hP hD hS hA (fun H locs hP hD hS => ?_)
  clear hp1 hv
  obtain hf := hf
  obtain ⟨e0, e1⟩ := tup2 hf
  rw [e1] at hP hD
  exact CX_i F hr hlk hP hD hS e0 dX7_fault_9
def b_X7_room_150 (r_150 : Int32 → Ob → Option (Int32 × Ob)) (y1 : Int32) (w0 : Ob) : Option (Int32 × Ob) := (if (w0.1 13) ≤ y1 then bnd (sI w0 23 (0 : Int32)) (fun g9 => (if inb (0 : Int32) 2 = true then bnd (sA g9 25 (upd (g9.2 25) (0 : Int32).toNatClampNeg (vp_nar .boolean (0 : Int32)))) (fun g10 => (if inb (1 : Int32) 2 = true then bnd (sA g10 25 (upd (g10.2 25) (1 : Int32).toNatClampNeg (vp_nar .boolean (0 : Int32)))) (fun g11 => some ((g11.1 4), g11)) else none)) else none)) else (if inb ((2 : Int32) * y1) 10 = true then (if inb y1 5 = true then bnd (sA w0 14 (upd (w0.2 14) y1.toNatClampNeg (w0.2 21 ((2 : Int32) * y1).toNatClampNeg))) (fun g12 => (if inb (((2 : Int32) * y1) + (1 : Int32)) 10 = true then (if inb y1 5 = true then bnd (sA g12 15 (upd (g12.2 15) y1.toNatClampNeg (g12.2 21 (((2 : Int32) * y1) + (1 : Int32)).toNatClampNeg))) (fun g13 => bnd (y1 + (1 : Int32)) (fun x14 => r_150 x14 g13)) else none) else none)) else none) else none))
def b_X7_room_56 (r_56 : Int32 → Ob → Option (Int32 × Ob)) (y1 : Int32) (w0 : Ob) : Option (Int32 × Ob) := (if (w0.1 4) ≤ y1 then fuel2 (b_X7_room_150) FU (0 : Int32) w0 else (if inb ((5 : Int32) * y1) 40 = true then (if inb y1 8 = true then bnd (sA w0 5 (upd (w0.2 5) y1.toNatClampNeg (w0.2 20 ((5 : Int32) * y1).toNatClampNeg))) (fun g15 => (if inb (((5 : Int32) * y1) + (1 : Int32)) 40 = true then (if inb y1 8 = true then bnd (sA g15 6 (upd (g15.2 6) y1.toNatClampNeg (g15.2 20 (((5 : Int32) * y1) + (1 : Int32)).toNatClampNeg))) (fun g16 => (if inb (((5 : Int32) * y1) + (2 : Int32)) 40 = true then (if inb y1 8 = true then bnd (sA g16 7 (upd (g16.2 7) y1.toNatClampNeg (g16.2 20 (((5 : Int32) * y1) + (2 : Int32)).toNatClampNeg))) (fun g17 => (if inb (((5 : Int32) * y1) + (3 : Int32)) 40 = true then (if inb y1 8 = true then bnd (sA g17 8 (upd (g17.2 8) y1.toNatClampNeg (g17.2 20 (((5 : Int32) * y1) + (3 : Int32)).toNatClampNeg))) (fun g18 => (if inb (((5 : Int32) * y1) + (4 : Int32)) 40 = true then (if inb y1 8 = true then bnd (sA g18 9 (upd (g18.2 9) y1.toNatClampNeg (g18.2 20 (((5 : Int32) * y1) + (4 : Int32)).toNatClampNeg))) (fun g19 => bnd (y1 + (1 : Int32)) (fun x20 => r_56 x20 g19)) else none) else none)) else none) else none)) else none) else none)) else none) else none)) else none) else none))
def f_X7_room (z0 : Ob) : Option (Int32 × Ob) := bnd (sI z0 0 (0 : Int32)) (fun g1 => bd2 (f_X7_readRoom g1) (fun v2 g3 => (if v2 = (-9 : Int32) then bnd (sI g3 4 (g3.1 16)) (fun g4 => bnd (sI g4 13 (g4.1 17)) (fun g5 => bnd (sI g5 10 (g5.1 18)) (fun g6 => bnd (sI g6 11 (g6.1 19)) (fun g7 => bnd (sI g7 12 (0 : Int32)) (fun g8 => fuel2 (b_X7_room_56) FU (0 : Int32) g8))))) else some ((-3 : Int32), g3))))
abbrev rm_X7_room : Room := { frames := 5, cells := 0, slots := 0, locals := 115 }
theorem hd_X7_room : yX7_room.cls ≠ "java/lang/invoke/MethodHandle" ∧ yX7_room.cls ≠ "java/lang/invoke/VarHandle" ∧ (parseMethodDescriptor yX7_room.desc).map (fun d => d.parameters.length) = some 0 := by decide +kernel
theorem in_X7_room_X7 : ∀ w ∈ wsX70, w ∈ wsX7_room := fun w h => List.mem_cons_of_mem _ (List.mem_append_right _ h)
set_option maxHeartbeats 4000000 in
set_option maxRecDepth 100000 in
theorem c_X7_room (l : Launch) (D : va_G) (ty : TY) (h0 : Nat) (a0 : Nat → Nat) (z0 : Ob) (o0 : Int32) (o1 : Ob) (hf : f_X7_room z0 = some (o0, o1)) (sz : Nat) : CX l yX7_room wsX7_room rm_X7_room ([.ref h0] : List Value) D ty (fl [oX7 ty h0 a0 z0]) sz (qI D o0 (fl [oX7 ty h0 a0 o1])) 0 0 := by
  refine CX_of (cc := cX7_room) (maxL := 2) (ret := (some .int)) (C := RX7) (by decide) rfl rfl (Nat.le_of_ble_eq_true rfl) ?_
  intro p e s m below meth c A ls F hr hlk _ hK hP hD hS hA hl
  have hx := F.1
  have hb := F.2.1
  replace hl : lv_has ls 2 [(0, .ref h0)] := hl
  unfold f_X7_room at hf
  refine lv_aload_n hx hb dX7_room_0 rfl (lv_at hl 0 rfl) ?_
  refine lv_iconst (v := (0 : Int32)) hx hb dX7_room_1 (by decide) ?_
  refine pt_put (D := D) (ci := 7) (fty := .int) (C := RX7) (T := TX7) (N := 40) (w1 := fl [oX7 ty h0 a0 (sI z0 0 (0 : Int32))]) F in_X7_room_X7 tyX7 tyX7_ok nmX7 hK.1 hP hD hS 0 rfl rfl 0 (Nat.le_of_ble_eq_true rfl) (F.2.2.2.2 (.fieldLink RX7 71 "LouderRoomModel" "thrown" "I") (List.mem_of_getElem? (i := 1) rfl)) (fun _ h9 => h9) rfl (by decide +kernel) rfl rfl (Nat.le_of_ble_eq_true rfl) rfl dX7_room_2 (fun H locs hP hD hS => ?_)
  obtain ⟨g1, ex⟩ : ∃ y : Ob, y = (sI z0 0 (0 : Int32)) := ⟨_, rfl⟩
  replace hf := bnd_at hf ex; rw [← ex] at hP hD; clear ex
  refine lv_aload_n hx hb dX7_room_5 rfl (lv_at hl 0 rfl) ?_
  obtain ⟨v2, g3, hv, hf⟩ := obd2 hf
  have hp1 : List.Perm [oX7 ty h0 a0 g1] ([oX7 ty h0 a0 g1] ++ []) := (List.Perm.refl _)
  refine ci_call (out := v2) (os := [oX7 ty h0 a0 g1]) (oc := [oX7 ty h0 a0 g1]) (oc' := [oX7 ty h0 a0 g3]) (or_ := []) (os' := [oX7 ty h0 a0 g3]) (va_runV (As := []) (rest := []) F (c_X7_readRoom l D ty h0 a0 _ _ _ hv _) (cwV 0 F.2.2.2.2 gX7_room_X7_readRoom rfl rfl rfl ⟨rfl, hd_X7_readRoom⟩ ⟨Nat.le_of_ble_eq_true rfl, Nat.le_of_ble_eq_true rfl⟩) (pre_v hK hP hD hp1 rfl rfl rfl) rfl rfl hl.1 rfl (lv_room (Nat.le_of_ble_eq_true rfl)) dX7_room_6 ⟨Nat.zero_le _, Nat.zero_le _⟩) hp1 (List.Perm.refl _) hP hD hS hA (fun H locs hP hD hS => ?_)
  clear hp1 hv
  refine lv_bipush (v := (-9 : Int32)) hx hb dX7_room_9 (by decide) ?_
  refine lv_icmp_eq (tgt := 17) hx hb dX7_room_11 (by decide) (fun hc => ?_) (fun hc => ?_)
  · replace hf := ite_t hf hc
    refine lv_aload_n hx hb dX7_room_17 rfl (lv_at hl 0 rfl) ?_
    refine lv_aload_n hx hb dX7_room_18 rfl (lv_at hl 0 rfl) ?_
    refine va_get (D := D) (ci := 7) (C := RX7) (T := TX7) (N := 40) hx hb F.2.2.2.2 in_X7_room_X7 F.2.2.2.1 hK.1 hP 0 rfl rfl 16 (Nat.le_of_ble_eq_true rfl) (F.2.2.2.2 (.fieldLink RX7 90 "LouderRoomModel" "readRings" "I") (List.mem_of_getElem? (i := 2) rfl)) (fun _ h9 => h9) rfl dX7_room_19 ?_
    refine pt_put (D := D) (ci := 7) (fty := .int) (C := RX7) (T := TX7) (N := 40) (w1 := fl [oX7 ty h0 a0 (sI g3 4 (g3.1 16))]) F in_X7_room_X7 tyX7 tyX7_ok nmX7 hK.1 hP hD hS 0 rfl rfl 4 (Nat.le_of_ble_eq_true rfl) (F.2.2.2.2 (.fieldLink RX7 75 "LouderRoomModel" "rings" "I") (List.mem_of_getElem? (i := 3) rfl)) (fun _ h9 => h9) rfl (by decide +kernel) rfl rfl (Nat.le_of_ble_eq_true rfl) rfl dX7_room_22 (fun H locs hP hD hS => ?_)
    obtain ⟨g4, ex⟩ : ∃ y : Ob, y = (sI g3 4 (g3.1 16)) := ⟨_, rfl⟩
    replace hf := bnd_at hf ex; rw [← ex] at hP hD; clear ex
    refine lv_aload_n hx hb dX7_room_25 rfl (lv_at hl 0 rfl) ?_
    refine lv_aload_n hx hb dX7_room_26 rfl (lv_at hl 0 rfl) ?_
    refine va_get (D := D) (ci := 7) (C := RX7) (T := TX7) (N := 40) hx hb F.2.2.2.2 in_X7_room_X7 F.2.2.2.1 hK.1 hP 0 rfl rfl 17 (Nat.le_of_ble_eq_true rfl) (F.2.2.2.2 (.fieldLink RX7 101 "LouderRoomModel" "readStuffs" "I") (List.mem_of_getElem? (i := 4) rfl)) (fun _ h9 => h9) rfl dX7_room_27 ?_
    refine pt_put (D := D) (ci := 7) (fty := .int) (C := RX7) (T := TX7) (N := 40) (w1 := fl [oX7 ty h0 a0 (sI g4 13 (g4.1 17))]) F in_X7_room_X7 tyX7 tyX7_ok nmX7 hK.1 hP hD hS 0 rfl rfl 13 (Nat.le_of_ble_eq_true rfl) (F.2.2.2.2 (.fieldLink RX7 122 "LouderRoomModel" "stuffs" "I") (List.mem_of_getElem? (i := 5) rfl)) (fun _ h9 => h9) rfl (by decide +kernel) rfl rfl (Nat.le_of_ble_eq_true rfl) rfl dX7_room_30 (fun H locs hP hD hS => ?_)
    obtain ⟨g5, ex⟩ : ∃ y : Ob, y = (sI g4 13 (g4.1 17)) := ⟨_, rfl⟩
    replace hf := bnd_at hf ex; rw [← ex] at hP hD; clear ex
    refine lv_aload_n hx hb dX7_room_33 rfl (lv_at hl 0 rfl) ?_
    refine lv_aload_n hx hb dX7_room_34 rfl (lv_at hl 0 rfl) ?_
    refine va_get (D := D) (ci := 7) (C := RX7) (T := TX7) (N := 40) hx hb F.2.2.2.2 in_X7_room_X7 F.2.2.2.1 hK.1 hP 0 rfl rfl 18 (Nat.le_of_ble_eq_true rfl) (F.2.2.2.2 (.fieldLink RX7 109 "LouderRoomModel" "readEats" "I") (List.mem_of_getElem? (i := 6) rfl)) (fun _ h9 => h9) rfl dX7_room_35 ?_
    refine pt_put (D := D) (ci := 7) (fty := .int) (C := RX7) (T := TX7) (N := 40) (w1 := fl [oX7 ty h0 a0 (sI g5 10 (g5.1 18))]) F in_X7_room_X7 tyX7 tyX7_ok nmX7 hK.1 hP hD hS 0 rfl rfl 10 (Nat.le_of_ble_eq_true rfl) (F.2.2.2.2 (.fieldLink RX7 125 "LouderRoomModel" "eats" "I") (List.mem_of_getElem? (i := 7) rfl)) (fun _ h9 => h9) rfl (by decide +kernel) rfl rfl (Nat.le_of_ble_eq_true rfl) rfl dX7_room_38 (fun H locs hP hD hS => ?_)
    obtain ⟨g6, ex⟩ : ∃ y : Ob, y = (sI g5 10 (g5.1 18)) := ⟨_, rfl⟩
    replace hf := bnd_at hf ex; rw [← ex] at hP hD; clear ex
    refine lv_aload_n hx hb dX7_room_41 rfl (lv_at hl 0 rfl) ?_
    refine lv_aload_n hx hb dX7_room_42 rfl (lv_at hl 0 rfl) ?_
    refine va_get (D := D) (ci := 7) (C := RX7) (T := TX7) (N := 40) hx hb F.2.2.2.2 in_X7_room_X7 F.2.2.2.1 hK.1 hP 0 rfl rfl 19 (Nat.le_of_ble_eq_true rfl) (F.2.2.2.2 (.fieldLink RX7 112 "LouderRoomModel" "readMusic" "I") (List.mem_of_getElem? (i := 8) rfl)) (fun _ h9 => h9) rfl dX7_room_43 ?_
    refine pt_put (D := D) (ci := 7) (fty := .int) (C := RX7) (T := TX7) (N := 40) (w1 := fl [oX7 ty h0 a0 (sI g6 11 (g6.1 19))]) F in_X7_room_X7 tyX7 tyX7_ok nmX7 hK.1 hP hD hS 0 rfl rfl 11 (Nat.le_of_ble_eq_true rfl) (F.2.2.2.2 (.fieldLink RX7 128 "LouderRoomModel" "music" "I") (List.mem_of_getElem? (i := 9) rfl)) (fun _ h9 => h9) rfl (by decide +kernel) rfl rfl (Nat.le_of_ble_eq_true rfl) rfl dX7_room_46 (fun H locs hP hD hS => ?_)
    obtain ⟨g7, ex⟩ : ∃ y : Ob, y = (sI g6 11 (g6.1 19)) := ⟨_, rfl⟩
    replace hf := bnd_at hf ex; rw [← ex] at hP hD; clear ex
    refine lv_aload_n hx hb dX7_room_49 rfl (lv_at hl 0 rfl) ?_
    refine lv_iconst (v := (0 : Int32)) hx hb dX7_room_50 (by decide) ?_
    refine pt_put (D := D) (ci := 7) (fty := .boolean) (C := RX7) (T := TX7) (N := 40) (w1 := fl [oX7 ty h0 a0 (sI g7 12 (0 : Int32))]) F in_X7_room_X7 tyX7 tyX7_ok nmX7 hK.1 hP hD hS 0 rfl rfl 12 (Nat.le_of_ble_eq_true rfl) (F.2.2.2.2 (.fieldLink RX7 131 "LouderRoomModel" "follows" "Z") (List.mem_of_getElem? (i := 10) rfl)) (fun _ h9 => h9) rfl (by decide +kernel) (by decide +kernel) (by decide +kernel) (Nat.le_of_ble_eq_true rfl) rfl dX7_room_51 (fun H locs hP hD hS => ?_)
    obtain ⟨g8, ex⟩ : ∃ y : Ob, y = (sI g7 12 (0 : Int32)) := ⟨_, rfl⟩
    replace hf := bnd_at hf ex; rw [← ex] at hP hD; clear ex
    refine lv_iconst (v := (0 : Int32)) hx hb dX7_room_54 (by decide) ?_
    refine lv_istore_n (lv' := [(1, .int (0 : Int32)), (0, .ref h0)]) hx hb dX7_room_55 rfl hl (by decide) rfl (fun ls hl => ?_)
    have L_56 : ∀ (n : Nat) (y1 : Int32) (w0 : Ob) (H : Heap) (locs : List Loc) (ls : Array Slot), va_P D vwC (fl [oX7 ty h0 a0 w0]) H → va_D A (fl [oX7 ty h0 a0 w0]) → va_S A s.heap H locs → lv_has ls 2 [(0, .ref h0), (1, .int y1)] → fuel2 (b_X7_room_56) n y1 w0 = some (o0, o1) → W p l e rm_X7_room s m ([.ref h0] : List Value).toArray below meth c H locs 0 0 (MQ below (qI D o0 (fl [oX7 ty h0 a0 o1]) A) ([.ref h0] : List Value).toArray s 0 0 A) (F0 m 56 ls []) := by
      intro n
      induction n with
      | zero => intro y1 w0 H locs ls hP hD hS hl hf; cases hf
      | succ n ih_56 =>
        intro y1 w0 H locs ls hP hD hS hl hf
        replace hf : b_X7_room_56 (fuel2 (b_X7_room_56) n) y1 w0 = some (o0, o1) := hf
        generalize fuel2 (b_X7_room_56) n = r_56 at ih_56 hf
        unfold b_X7_room_56 at hf
        refine lv_iload_n hx hb dX7_room_56 rfl (lv_at hl 1 rfl) ?_
        refine lv_aload_n hx hb dX7_room_57 rfl (lv_at hl 0 rfl) ?_
        refine va_get (D := D) (ci := 7) (C := RX7) (T := TX7) (N := 40) hx hb F.2.2.2.2 in_X7_room_X7 F.2.2.2.1 hK.1 hP 0 rfl rfl 4 (Nat.le_of_ble_eq_true rfl) (F.2.2.2.2 (.fieldLink RX7 75 "LouderRoomModel" "rings" "I") (List.mem_of_getElem? (i := 3) rfl)) (fun _ h9 => h9) rfl dX7_room_58 ?_
        refine lv_icmp_ge (tgt := 148) hx hb dX7_room_61 (by decide) (fun hc => ?_) (fun hc => ?_)
        · replace hf := ite_t hf hc
          refine lv_iconst (v := (0 : Int32)) hx hb dX7_room_148 (by decide) ?_
          refine lv_istore_n (lv' := [(1, .int (0 : Int32)), (0, .ref h0)]) hx hb dX7_room_149 rfl hl (by decide) rfl (fun ls hl => ?_)
          have L_150 : ∀ (n : Nat) (y1 : Int32) (w0 : Ob) (H : Heap) (locs : List Loc) (ls : Array Slot), va_P D vwC (fl [oX7 ty h0 a0 w0]) H → va_D A (fl [oX7 ty h0 a0 w0]) → va_S A s.heap H locs → lv_has ls 2 [(0, .ref h0), (1, .int y1)] → fuel2 (b_X7_room_150) n y1 w0 = some (o0, o1) → W p l e rm_X7_room s m ([.ref h0] : List Value).toArray below meth c H locs 0 0 (MQ below (qI D o0 (fl [oX7 ty h0 a0 o1]) A) ([.ref h0] : List Value).toArray s 0 0 A) (F0 m 150 ls []) := by
            intro n
            induction n with
            | zero => intro y1 w0 H locs ls hP hD hS hl hf; cases hf
            | succ n ih_150 =>
              intro y1 w0 H locs ls hP hD hS hl hf
              replace hf : b_X7_room_150 (fuel2 (b_X7_room_150) n) y1 w0 = some (o0, o1) := hf
              generalize fuel2 (b_X7_room_150) n = r_150 at ih_150 hf
              unfold b_X7_room_150 at hf
              refine lv_iload_n hx hb dX7_room_150 rfl (lv_at hl 1 rfl) ?_
              refine lv_aload_n hx hb dX7_room_151 rfl (lv_at hl 0 rfl) ?_
              refine va_get (D := D) (ci := 7) (C := RX7) (T := TX7) (N := 40) hx hb F.2.2.2.2 in_X7_room_X7 F.2.2.2.1 hK.1 hP 0 rfl rfl 13 (Nat.le_of_ble_eq_true rfl) (F.2.2.2.2 (.fieldLink RX7 122 "LouderRoomModel" "stuffs" "I") (List.mem_of_getElem? (i := 5) rfl)) (fun _ h9 => h9) rfl dX7_room_152 ?_
              refine lv_icmp_ge (tgt := 194) hx hb dX7_room_155 (by decide) (fun hc => ?_) (fun hc => ?_)
              · replace hf := ite_t hf hc
                refine lv_aload_n hx hb dX7_room_194 rfl (lv_at hl 0 rfl) ?_
                refine lv_iconst (v := (0 : Int32)) hx hb dX7_room_195 (by decide) ?_
                refine pt_put (D := D) (ci := 7) (fty := .int) (C := RX7) (T := TX7) (N := 40) (w1 := fl [oX7 ty h0 a0 (sI w0 23 (0 : Int32))]) F in_X7_room_X7 tyX7 tyX7_ok nmX7 hK.1 hP hD hS 0 rfl rfl 23 (Nat.le_of_ble_eq_true rfl) (F.2.2.2.2 (.fieldLink RX7 135 "LouderRoomModel" "acts" "I") (List.mem_of_getElem? (i := 20) rfl)) (fun _ h9 => h9) rfl (by decide +kernel) rfl rfl (Nat.le_of_ble_eq_true rfl) rfl dX7_room_196 (fun H locs hP hD hS => ?_)
                obtain ⟨g9, ex⟩ : ∃ y : Ob, y = (sI w0 23 (0 : Int32)) := ⟨_, rfl⟩
                replace hf := bnd_at hf ex; rw [← ex] at hP hD; clear ex
                refine lv_aload_n hx hb dX7_room_199 rfl (lv_at hl 0 rfl) ?_
                refine va_get (D := D) (ci := 7) (C := RX7) (T := TX7) (N := 40) hx hb F.2.2.2.2 in_X7_room_X7 F.2.2.2.1 hK.1 hP 0 rfl rfl 25 (Nat.le_of_ble_eq_true rfl) (F.2.2.2.2 (.fieldLink RX7 46 "LouderRoomModel" "isKept" "[Z") (List.mem_of_getElem? (i := 21) rfl)) (fun _ h9 => h9) rfl dX7_room_200 ?_
                refine lv_iconst (v := (0 : Int32)) hx hb dX7_room_203 (by decide) ?_
                refine lv_iconst (v := (0 : Int32)) hx hb dX7_room_204 (by decide) ?_
                obtain ⟨hi, hf⟩ := grd hf
                refine pt_zast (w1 := fl [oX7 ty h0 a0 (sA g9 25 (upd (g9.2 25) (0 : Int32).toNatClampNeg (vp_nar .boolean (0 : Int32))))]) F hK.1 hP hD hS 13 2 rfl rfl (inb_in hi) rfl dX7_room_205 (fun H locs hP hD hS => ?_)
                obtain ⟨g10, ex⟩ : ∃ y : Ob, y = (sA g9 25 (upd (g9.2 25) (0 : Int32).toNatClampNeg (vp_nar .boolean (0 : Int32)))) := ⟨_, rfl⟩
                replace hf := bnd_at hf ex; rw [← ex] at hP hD; clear ex
                refine lv_aload_n hx hb dX7_room_206 rfl (lv_at hl 0 rfl) ?_
                refine va_get (D := D) (ci := 7) (C := RX7) (T := TX7) (N := 40) hx hb F.2.2.2.2 in_X7_room_X7 F.2.2.2.1 hK.1 hP 0 rfl rfl 25 (Nat.le_of_ble_eq_true rfl) (F.2.2.2.2 (.fieldLink RX7 46 "LouderRoomModel" "isKept" "[Z") (List.mem_of_getElem? (i := 21) rfl)) (fun _ h9 => h9) rfl dX7_room_207 ?_
                refine lv_iconst (v := (1 : Int32)) hx hb dX7_room_210 (by decide) ?_
                refine lv_iconst (v := (0 : Int32)) hx hb dX7_room_211 (by decide) ?_
                obtain ⟨hi, hf⟩ := grd hf
                refine pt_zast (w1 := fl [oX7 ty h0 a0 (sA g10 25 (upd (g10.2 25) (1 : Int32).toNatClampNeg (vp_nar .boolean (0 : Int32))))]) F hK.1 hP hD hS 13 2 rfl rfl (inb_in hi) rfl dX7_room_212 (fun H locs hP hD hS => ?_)
                obtain ⟨g11, ex⟩ : ∃ y : Ob, y = (sA g10 25 (upd (g10.2 25) (1 : Int32).toNatClampNeg (vp_nar .boolean (0 : Int32)))) := ⟨_, rfl⟩
                replace hf := bnd_at hf ex; rw [← ex] at hP hD; clear ex
                refine lv_aload_n hx hb dX7_room_213 rfl (lv_at hl 0 rfl) ?_
                refine va_get (D := D) (ci := 7) (C := RX7) (T := TX7) (N := 40) hx hb F.2.2.2.2 in_X7_room_X7 F.2.2.2.1 hK.1 hP 0 rfl rfl 4 (Nat.le_of_ble_eq_true rfl) (F.2.2.2.2 (.fieldLink RX7 75 "LouderRoomModel" "rings" "I") (List.mem_of_getElem? (i := 3) rfl)) (fun _ h9 => h9) rfl dX7_room_214 ?_
                obtain hf := hf
                obtain ⟨e0, e1⟩ := tup2 hf
                rw [e1] at hP hD
                exact CX_i F hr hlk hP hD hS e0 dX7_room_217
              · replace hf := ite_f hf hc
                refine lv_aload_n hx hb dX7_room_158 rfl (lv_at hl 0 rfl) ?_
                refine va_get (D := D) (ci := 7) (C := RX7) (T := TX7) (N := 40) hx hb F.2.2.2.2 in_X7_room_X7 F.2.2.2.1 hK.1 hP 0 rfl rfl 14 (Nat.le_of_ble_eq_true rfl) (F.2.2.2.2 (.fieldLink RX7 28 "LouderRoomModel" "cost" "[I") (List.mem_of_getElem? (i := 17) rfl)) (fun _ h9 => h9) rfl dX7_room_159 ?_
                refine lv_iload_n hx hb dX7_room_162 rfl (lv_at hl 1 rfl) ?_
                refine lv_aload_n hx hb dX7_room_163 rfl (lv_at hl 0 rfl) ?_
                refine va_get (D := D) (ci := 7) (C := RX7) (T := TX7) (N := 40) hx hb F.2.2.2.2 in_X7_room_X7 F.2.2.2.1 hK.1 hP 0 rfl rfl 21 (Nat.le_of_ble_eq_true rfl) (F.2.2.2.2 (.fieldLink RX7 37 "LouderRoomModel" "readStuff" "[I") (List.mem_of_getElem? (i := 18) rfl)) (fun _ h9 => h9) rfl dX7_room_164 ?_
                refine lv_iconst (v := (2 : Int32)) hx hb dX7_room_167 (by decide) ?_
                refine lv_iload_n hx hb dX7_room_168 rfl (lv_at hl 1 rfl) ?_
                refine lv_imul hx hb dX7_room_169 ?_
                obtain ⟨hi, hf⟩ := grd hf
                refine va_iald hx hb hK.1 hP 10 0 rfl rfl (inb_in hi) dX7_room_170 ?_
                obtain ⟨hi, hf⟩ := grd hf
                refine pt_iast (w1 := fl [oX7 ty h0 a0 (sA w0 14 (upd (w0.2 14) y1.toNatClampNeg (w0.2 21 ((2 : Int32) * y1).toNatClampNeg)))]) F hK.1 hP hD hS 7 0 rfl rfl (inb_in hi) rfl dX7_room_171 (fun H locs hP hD hS => ?_)
                obtain ⟨g12, ex⟩ : ∃ y : Ob, y = (sA w0 14 (upd (w0.2 14) y1.toNatClampNeg (w0.2 21 ((2 : Int32) * y1).toNatClampNeg))) := ⟨_, rfl⟩
                replace hf := bnd_at hf ex; rw [← ex] at hP hD; clear ex
                refine lv_aload_n hx hb dX7_room_172 rfl (lv_at hl 0 rfl) ?_
                refine va_get (D := D) (ci := 7) (C := RX7) (T := TX7) (N := 40) hx hb F.2.2.2.2 in_X7_room_X7 F.2.2.2.1 hK.1 hP 0 rfl rfl 15 (Nat.le_of_ble_eq_true rfl) (F.2.2.2.2 (.fieldLink RX7 31 "LouderRoomModel" "more" "[I") (List.mem_of_getElem? (i := 19) rfl)) (fun _ h9 => h9) rfl dX7_room_173 ?_
                refine lv_iload_n hx hb dX7_room_176 rfl (lv_at hl 1 rfl) ?_
                refine lv_aload_n hx hb dX7_room_177 rfl (lv_at hl 0 rfl) ?_
                refine va_get (D := D) (ci := 7) (C := RX7) (T := TX7) (N := 40) hx hb F.2.2.2.2 in_X7_room_X7 F.2.2.2.1 hK.1 hP 0 rfl rfl 21 (Nat.le_of_ble_eq_true rfl) (F.2.2.2.2 (.fieldLink RX7 37 "LouderRoomModel" "readStuff" "[I") (List.mem_of_getElem? (i := 18) rfl)) (fun _ h9 => h9) rfl dX7_room_178 ?_
                refine lv_iconst (v := (2 : Int32)) hx hb dX7_room_181 (by decide) ?_
                refine lv_iload_n hx hb dX7_room_182 rfl (lv_at hl 1 rfl) ?_
                refine lv_imul hx hb dX7_room_183 ?_
                refine lv_iconst (v := (1 : Int32)) hx hb dX7_room_184 (by decide) ?_
                refine lv_iadd hx hb dX7_room_185 ?_
                obtain ⟨hi, hf⟩ := grd hf
                refine va_iald hx hb hK.1 hP 10 0 rfl rfl (inb_in hi) dX7_room_186 ?_
                obtain ⟨hi, hf⟩ := grd hf
                refine pt_iast (w1 := fl [oX7 ty h0 a0 (sA g12 15 (upd (g12.2 15) y1.toNatClampNeg (g12.2 21 (((2 : Int32) * y1) + (1 : Int32)).toNatClampNeg)))]) F hK.1 hP hD hS 8 0 rfl rfl (inb_in hi) rfl dX7_room_187 (fun H locs hP hD hS => ?_)
                obtain ⟨g13, ex⟩ : ∃ y : Ob, y = (sA g12 15 (upd (g12.2 15) y1.toNatClampNeg (g12.2 21 (((2 : Int32) * y1) + (1 : Int32)).toNatClampNeg))) := ⟨_, rfl⟩
                replace hf := bnd_at hf ex; rw [← ex] at hP hD; clear ex
                obtain ⟨x14, ex⟩ : ∃ y : Int32, y = (y1 + (1 : Int32)) := ⟨_, rfl⟩
                replace hf := bnd_at hf ex
                refine lv_iinc (v := x14) (lv' := [(1, .int x14), (0, .ref h0)]) hx hb dX7_room_188 hl (k := 1) rfl (by rw [ex]; rfl) (by decide) rfl (fun ls hl => ?_)
                clear ex
                refine lv_goto (tgt := 150) hx hb dX7_room_191 (by decide) ?_
                exact ih_150 x14 g13 _ _ _ hP hD hS (lv_sub hl [1, 0] rfl) hf
          exact L_150 FU (0 : Int32) w0 _ _ _ hP hD hS (lv_sub hl [1, 0] rfl) hf
        · replace hf := ite_f hf hc
          refine lv_aload_n hx hb dX7_room_64 rfl (lv_at hl 0 rfl) ?_
          refine va_get (D := D) (ci := 7) (C := RX7) (T := TX7) (N := 40) hx hb F.2.2.2.2 in_X7_room_X7 F.2.2.2.1 hK.1 hP 0 rfl rfl 5 (Nat.le_of_ble_eq_true rfl) (F.2.2.2.2 (.fieldLink RX7 13 "LouderRoomModel" "kind" "[I") (List.mem_of_getElem? (i := 11) rfl)) (fun _ h9 => h9) rfl dX7_room_65 ?_
          refine lv_iload_n hx hb dX7_room_68 rfl (lv_at hl 1 rfl) ?_
          refine lv_aload_n hx hb dX7_room_69 rfl (lv_at hl 0 rfl) ?_
          refine va_get (D := D) (ci := 7) (C := RX7) (T := TX7) (N := 40) hx hb F.2.2.2.2 in_X7_room_X7 F.2.2.2.1 hK.1 hP 0 rfl rfl 20 (Nat.le_of_ble_eq_true rfl) (F.2.2.2.2 (.fieldLink RX7 34 "LouderRoomModel" "readRing" "[I") (List.mem_of_getElem? (i := 12) rfl)) (fun _ h9 => h9) rfl dX7_room_70 ?_
          refine lv_iconst (v := (5 : Int32)) hx hb dX7_room_73 (by decide) ?_
          refine lv_iload_n hx hb dX7_room_74 rfl (lv_at hl 1 rfl) ?_
          refine lv_imul hx hb dX7_room_75 ?_
          obtain ⟨hi, hf⟩ := grd hf
          refine va_iald hx hb hK.1 hP 9 0 rfl rfl (inb_in hi) dX7_room_76 ?_
          obtain ⟨hi, hf⟩ := grd hf
          refine pt_iast (w1 := fl [oX7 ty h0 a0 (sA w0 5 (upd (w0.2 5) y1.toNatClampNeg (w0.2 20 ((5 : Int32) * y1).toNatClampNeg)))]) F hK.1 hP hD hS 2 0 rfl rfl (inb_in hi) rfl dX7_room_77 (fun H locs hP hD hS => ?_)
          obtain ⟨g15, ex⟩ : ∃ y : Ob, y = (sA w0 5 (upd (w0.2 5) y1.toNatClampNeg (w0.2 20 ((5 : Int32) * y1).toNatClampNeg))) := ⟨_, rfl⟩
          replace hf := bnd_at hf ex; rw [← ex] at hP hD; clear ex
          refine lv_aload_n hx hb dX7_room_78 rfl (lv_at hl 0 rfl) ?_
          refine va_get (D := D) (ci := 7) (C := RX7) (T := TX7) (N := 40) hx hb F.2.2.2.2 in_X7_room_X7 F.2.2.2.1 hK.1 hP 0 rfl rfl 6 (Nat.le_of_ble_eq_true rfl) (F.2.2.2.2 (.fieldLink RX7 16 "LouderRoomModel" "cell" "[I") (List.mem_of_getElem? (i := 13) rfl)) (fun _ h9 => h9) rfl dX7_room_79 ?_
          refine lv_iload_n hx hb dX7_room_82 rfl (lv_at hl 1 rfl) ?_
          refine lv_aload_n hx hb dX7_room_83 rfl (lv_at hl 0 rfl) ?_
          refine va_get (D := D) (ci := 7) (C := RX7) (T := TX7) (N := 40) hx hb F.2.2.2.2 in_X7_room_X7 F.2.2.2.1 hK.1 hP 0 rfl rfl 20 (Nat.le_of_ble_eq_true rfl) (F.2.2.2.2 (.fieldLink RX7 34 "LouderRoomModel" "readRing" "[I") (List.mem_of_getElem? (i := 12) rfl)) (fun _ h9 => h9) rfl dX7_room_84 ?_
          refine lv_iconst (v := (5 : Int32)) hx hb dX7_room_87 (by decide) ?_
          refine lv_iload_n hx hb dX7_room_88 rfl (lv_at hl 1 rfl) ?_
          refine lv_imul hx hb dX7_room_89 ?_
          refine lv_iconst (v := (1 : Int32)) hx hb dX7_room_90 (by decide) ?_
          refine lv_iadd hx hb dX7_room_91 ?_
          obtain ⟨hi, hf⟩ := grd hf
          refine va_iald hx hb hK.1 hP 9 0 rfl rfl (inb_in hi) dX7_room_92 ?_
          obtain ⟨hi, hf⟩ := grd hf
          refine pt_iast (w1 := fl [oX7 ty h0 a0 (sA g15 6 (upd (g15.2 6) y1.toNatClampNeg (g15.2 20 (((5 : Int32) * y1) + (1 : Int32)).toNatClampNeg)))]) F hK.1 hP hD hS 3 0 rfl rfl (inb_in hi) rfl dX7_room_93 (fun H locs hP hD hS => ?_)
          obtain ⟨g16, ex⟩ : ∃ y : Ob, y = (sA g15 6 (upd (g15.2 6) y1.toNatClampNeg (g15.2 20 (((5 : Int32) * y1) + (1 : Int32)).toNatClampNeg))) := ⟨_, rfl⟩
          replace hf := bnd_at hf ex; rw [← ex] at hP hD; clear ex
          refine lv_aload_n hx hb dX7_room_94 rfl (lv_at hl 0 rfl) ?_
          refine va_get (D := D) (ci := 7) (C := RX7) (T := TX7) (N := 40) hx hb F.2.2.2.2 in_X7_room_X7 F.2.2.2.1 hK.1 hP 0 rfl rfl 7 (Nat.le_of_ble_eq_true rfl) (F.2.2.2.2 (.fieldLink RX7 19 "LouderRoomModel" "people" "[I") (List.mem_of_getElem? (i := 14) rfl)) (fun _ h9 => h9) rfl dX7_room_95 ?_
          refine lv_iload_n hx hb dX7_room_98 rfl (lv_at hl 1 rfl) ?_
          refine lv_aload_n hx hb dX7_room_99 rfl (lv_at hl 0 rfl) ?_
          refine va_get (D := D) (ci := 7) (C := RX7) (T := TX7) (N := 40) hx hb F.2.2.2.2 in_X7_room_X7 F.2.2.2.1 hK.1 hP 0 rfl rfl 20 (Nat.le_of_ble_eq_true rfl) (F.2.2.2.2 (.fieldLink RX7 34 "LouderRoomModel" "readRing" "[I") (List.mem_of_getElem? (i := 12) rfl)) (fun _ h9 => h9) rfl dX7_room_100 ?_
          refine lv_iconst (v := (5 : Int32)) hx hb dX7_room_103 (by decide) ?_
          refine lv_iload_n hx hb dX7_room_104 rfl (lv_at hl 1 rfl) ?_
          refine lv_imul hx hb dX7_room_105 ?_
          refine lv_iconst (v := (2 : Int32)) hx hb dX7_room_106 (by decide) ?_
          refine lv_iadd hx hb dX7_room_107 ?_
          obtain ⟨hi, hf⟩ := grd hf
          refine va_iald hx hb hK.1 hP 9 0 rfl rfl (inb_in hi) dX7_room_108 ?_
          obtain ⟨hi, hf⟩ := grd hf
          refine pt_iast (w1 := fl [oX7 ty h0 a0 (sA g16 7 (upd (g16.2 7) y1.toNatClampNeg (g16.2 20 (((5 : Int32) * y1) + (2 : Int32)).toNatClampNeg)))]) F hK.1 hP hD hS 4 0 rfl rfl (inb_in hi) rfl dX7_room_109 (fun H locs hP hD hS => ?_)
          obtain ⟨g17, ex⟩ : ∃ y : Ob, y = (sA g16 7 (upd (g16.2 7) y1.toNatClampNeg (g16.2 20 (((5 : Int32) * y1) + (2 : Int32)).toNatClampNeg))) := ⟨_, rfl⟩
          replace hf := bnd_at hf ex; rw [← ex] at hP hD; clear ex
          refine lv_aload_n hx hb dX7_room_110 rfl (lv_at hl 0 rfl) ?_
          refine va_get (D := D) (ci := 7) (C := RX7) (T := TX7) (N := 40) hx hb F.2.2.2.2 in_X7_room_X7 F.2.2.2.1 hK.1 hP 0 rfl rfl 8 (Nat.le_of_ble_eq_true rfl) (F.2.2.2.2 (.fieldLink RX7 22 "LouderRoomModel" "voice" "[I") (List.mem_of_getElem? (i := 15) rfl)) (fun _ h9 => h9) rfl dX7_room_111 ?_
          refine lv_iload_n hx hb dX7_room_114 rfl (lv_at hl 1 rfl) ?_
          refine lv_aload_n hx hb dX7_room_115 rfl (lv_at hl 0 rfl) ?_
          refine va_get (D := D) (ci := 7) (C := RX7) (T := TX7) (N := 40) hx hb F.2.2.2.2 in_X7_room_X7 F.2.2.2.1 hK.1 hP 0 rfl rfl 20 (Nat.le_of_ble_eq_true rfl) (F.2.2.2.2 (.fieldLink RX7 34 "LouderRoomModel" "readRing" "[I") (List.mem_of_getElem? (i := 12) rfl)) (fun _ h9 => h9) rfl dX7_room_116 ?_
          refine lv_iconst (v := (5 : Int32)) hx hb dX7_room_119 (by decide) ?_
          refine lv_iload_n hx hb dX7_room_120 rfl (lv_at hl 1 rfl) ?_
          refine lv_imul hx hb dX7_room_121 ?_
          refine lv_iconst (v := (3 : Int32)) hx hb dX7_room_122 (by decide) ?_
          refine lv_iadd hx hb dX7_room_123 ?_
          obtain ⟨hi, hf⟩ := grd hf
          refine va_iald hx hb hK.1 hP 9 0 rfl rfl (inb_in hi) dX7_room_124 ?_
          obtain ⟨hi, hf⟩ := grd hf
          refine pt_iast (w1 := fl [oX7 ty h0 a0 (sA g17 8 (upd (g17.2 8) y1.toNatClampNeg (g17.2 20 (((5 : Int32) * y1) + (3 : Int32)).toNatClampNeg)))]) F hK.1 hP hD hS 5 0 rfl rfl (inb_in hi) rfl dX7_room_125 (fun H locs hP hD hS => ?_)
          obtain ⟨g18, ex⟩ : ∃ y : Ob, y = (sA g17 8 (upd (g17.2 8) y1.toNatClampNeg (g17.2 20 (((5 : Int32) * y1) + (3 : Int32)).toNatClampNeg))) := ⟨_, rfl⟩
          replace hf := bnd_at hf ex; rw [← ex] at hP hD; clear ex
          refine lv_aload_n hx hb dX7_room_126 rfl (lv_at hl 0 rfl) ?_
          refine va_get (D := D) (ci := 7) (C := RX7) (T := TX7) (N := 40) hx hb F.2.2.2.2 in_X7_room_X7 F.2.2.2.1 hK.1 hP 0 rfl rfl 9 (Nat.le_of_ble_eq_true rfl) (F.2.2.2.2 (.fieldLink RX7 25 "LouderRoomModel" "age" "[I") (List.mem_of_getElem? (i := 16) rfl)) (fun _ h9 => h9) rfl dX7_room_127 ?_
          refine lv_iload_n hx hb dX7_room_130 rfl (lv_at hl 1 rfl) ?_
          refine lv_aload_n hx hb dX7_room_131 rfl (lv_at hl 0 rfl) ?_
          refine va_get (D := D) (ci := 7) (C := RX7) (T := TX7) (N := 40) hx hb F.2.2.2.2 in_X7_room_X7 F.2.2.2.1 hK.1 hP 0 rfl rfl 20 (Nat.le_of_ble_eq_true rfl) (F.2.2.2.2 (.fieldLink RX7 34 "LouderRoomModel" "readRing" "[I") (List.mem_of_getElem? (i := 12) rfl)) (fun _ h9 => h9) rfl dX7_room_132 ?_
          refine lv_iconst (v := (5 : Int32)) hx hb dX7_room_135 (by decide) ?_
          refine lv_iload_n hx hb dX7_room_136 rfl (lv_at hl 1 rfl) ?_
          refine lv_imul hx hb dX7_room_137 ?_
          refine lv_iconst (v := (4 : Int32)) hx hb dX7_room_138 (by decide) ?_
          refine lv_iadd hx hb dX7_room_139 ?_
          obtain ⟨hi, hf⟩ := grd hf
          refine va_iald hx hb hK.1 hP 9 0 rfl rfl (inb_in hi) dX7_room_140 ?_
          obtain ⟨hi, hf⟩ := grd hf
          refine pt_iast (w1 := fl [oX7 ty h0 a0 (sA g18 9 (upd (g18.2 9) y1.toNatClampNeg (g18.2 20 (((5 : Int32) * y1) + (4 : Int32)).toNatClampNeg)))]) F hK.1 hP hD hS 6 0 rfl rfl (inb_in hi) rfl dX7_room_141 (fun H locs hP hD hS => ?_)
          obtain ⟨g19, ex⟩ : ∃ y : Ob, y = (sA g18 9 (upd (g18.2 9) y1.toNatClampNeg (g18.2 20 (((5 : Int32) * y1) + (4 : Int32)).toNatClampNeg))) := ⟨_, rfl⟩
          replace hf := bnd_at hf ex; rw [← ex] at hP hD; clear ex
          obtain ⟨x20, ex⟩ : ∃ y : Int32, y = (y1 + (1 : Int32)) := ⟨_, rfl⟩
          replace hf := bnd_at hf ex
          refine lv_iinc (v := x20) (lv' := [(1, .int x20), (0, .ref h0)]) hx hb dX7_room_142 hl (k := 1) rfl (by rw [ex]; rfl) (by decide) rfl (fun ls hl => ?_)
          clear ex
          refine lv_goto (tgt := 56) hx hb dX7_room_145 (by decide) ?_
          exact ih_56 x20 g19 _ _ _ hP hD hS (lv_sub hl [1, 0] rfl) hf
    exact L_56 FU (0 : Int32) g8 _ _ _ hP hD hS (lv_sub hl [1, 0] rfl) hf
  · replace hf := ite_f hf hc
    refine lv_bipush (v := (-3 : Int32)) hx hb dX7_room_14 (by decide) ?_
    obtain hf := hf
    obtain ⟨e0, e1⟩ := tup2 hf
    rw [e1] at hP hD
    exact CX_i F hr hlk hP hD hS e0 dX7_room_16
def b_X7_begin_2 (r_2 : Int32 → Ob → Option (Ob)) (y1 : Int32) (w0 : Ob) : Option (Ob) := (if (w0.1 4) ≤ y1 then bnd (sI w0 31 (w0.1 11)) (fun g1 => bnd (sI g1 32 (g1.1 4)) (fun g2 => bnd (sI g2 33 (g2.1 10)) (fun g3 => bnd (sI g3 34 (255 : Int32)) (fun g4 => (if isb (g4.1 12) = true then bnd (sI g4 35 (g4.1 12)) (fun g5 => some g5) else none))))) else (if inb y1 8 = true then (if inb y1 8 = true then bnd (sA w0 29 (upd (w0.2 29) y1.toNatClampNeg (w0.2 8 y1.toNatClampNeg))) (fun g6 => bnd (y1 + (1 : Int32)) (fun x7 => r_2 x7 g6)) else none) else none))
def f_X7_begin (z0 : Ob) : Option (Ob) := fuel2 (b_X7_begin_2) FU (0 : Int32) z0
abbrev rm_X7_begin : Room := { frames := 0, cells := 0, slots := 0, locals := 0 }
theorem hd_X7_begin : yX7_begin.cls ≠ "java/lang/invoke/MethodHandle" ∧ yX7_begin.cls ≠ "java/lang/invoke/VarHandle" ∧ (parseMethodDescriptor yX7_begin.desc).map (fun d => d.parameters.length) = some 0 := by decide +kernel
theorem in_X7_begin_X7 : ∀ w ∈ wsX70, w ∈ wsX7_begin := fun w h => List.mem_cons_of_mem _ (List.mem_append_right _ h)
set_option maxHeartbeats 4000000 in
set_option maxRecDepth 100000 in
theorem c_X7_begin (l : Launch) (D : va_G) (ty : TY) (h0 : Nat) (a0 : Nat → Nat) (z0 : Ob) (o0 : Ob) (hf : f_X7_begin z0 = some o0) (sz : Nat) : CX l yX7_begin wsX7_begin rm_X7_begin ([.ref h0] : List Value) D ty (fl [oX7 ty h0 a0 z0]) sz (qV D (fl [oX7 ty h0 a0 o0])) 0 0 := by
  refine CX_of (cc := cX7_begin) (maxL := 2) (ret := none) (C := RX7) (by decide) rfl rfl (Nat.le_of_ble_eq_true rfl) ?_
  intro p e s m below meth c A ls F hr hlk _ hK hP hD hS hA hl
  have hx := F.1
  have hb := F.2.1
  replace hl : lv_has ls 2 [(0, .ref h0)] := hl
  unfold f_X7_begin at hf
  refine lv_iconst (v := (0 : Int32)) hx hb dX7_begin_0 (by decide) ?_
  refine lv_istore_n (lv' := [(1, .int (0 : Int32)), (0, .ref h0)]) hx hb dX7_begin_1 rfl hl (by decide) rfl (fun ls hl => ?_)
  have L_2 : ∀ (n : Nat) (y1 : Int32) (w0 : Ob) (H : Heap) (locs : List Loc) (ls : Array Slot), va_P D vwC (fl [oX7 ty h0 a0 w0]) H → va_D A (fl [oX7 ty h0 a0 w0]) → va_S A s.heap H locs → lv_has ls 2 [(0, .ref h0), (1, .int y1)] → fuel2 (b_X7_begin_2) n y1 w0 = some o0 → W p l e rm_X7_begin s m ([.ref h0] : List Value).toArray below meth c H locs 0 0 (MQ below (qV D (fl [oX7 ty h0 a0 o0]) A) ([.ref h0] : List Value).toArray s 0 0 A) (F0 m 2 ls []) := by
    intro n
    induction n with
    | zero => intro y1 w0 H locs ls hP hD hS hl hf; cases hf
    | succ n ih_2 =>
      intro y1 w0 H locs ls hP hD hS hl hf
      replace hf : b_X7_begin_2 (fuel2 (b_X7_begin_2) n) y1 w0 = some o0 := hf
      generalize fuel2 (b_X7_begin_2) n = r_2 at ih_2 hf
      unfold b_X7_begin_2 at hf
      refine lv_iload_n hx hb dX7_begin_2 rfl (lv_at hl 1 rfl) ?_
      refine lv_aload_n hx hb dX7_begin_3 rfl (lv_at hl 0 rfl) ?_
      refine va_get (D := D) (ci := 7) (C := RX7) (T := TX7) (N := 40) hx hb F.2.2.2.2 in_X7_begin_X7 F.2.2.2.1 hK.1 hP 0 rfl rfl 4 (Nat.le_of_ble_eq_true rfl) (F.2.2.2.2 (.fieldLink RX7 75 "LouderRoomModel" "rings" "I") (List.mem_of_getElem? (i := 1) rfl)) (fun _ h9 => h9) rfl dX7_begin_4 ?_
      refine lv_icmp_ge (tgt := 28) hx hb dX7_begin_7 (by decide) (fun hc => ?_) (fun hc => ?_)
      · replace hf := ite_t hf hc
        refine lv_aload_n hx hb dX7_begin_28 rfl (lv_at hl 0 rfl) ?_
        refine lv_aload_n hx hb dX7_begin_29 rfl (lv_at hl 0 rfl) ?_
        refine va_get (D := D) (ci := 7) (C := RX7) (T := TX7) (N := 40) hx hb F.2.2.2.2 in_X7_begin_X7 F.2.2.2.1 hK.1 hP 0 rfl rfl 11 (Nat.le_of_ble_eq_true rfl) (F.2.2.2.2 (.fieldLink RX7 128 "LouderRoomModel" "music" "I") (List.mem_of_getElem? (i := 4) rfl)) (fun _ h9 => h9) rfl dX7_begin_30 ?_
        refine pt_put (D := D) (ci := 7) (fty := .int) (C := RX7) (T := TX7) (N := 40) (w1 := fl [oX7 ty h0 a0 (sI w0 31 (w0.1 11))]) F in_X7_begin_X7 tyX7 tyX7_ok nmX7 hK.1 hP hD hS 0 rfl rfl 31 (Nat.le_of_ble_eq_true rfl) (F.2.2.2.2 (.fieldLink RX7 138 "LouderRoomModel" "m" "I") (List.mem_of_getElem? (i := 5) rfl)) (fun _ h9 => h9) rfl (by decide +kernel) rfl rfl (Nat.le_of_ble_eq_true rfl) rfl dX7_begin_33 (fun H locs hP hD hS => ?_)
        obtain ⟨g1, ex⟩ : ∃ y : Ob, y = (sI w0 31 (w0.1 11)) := ⟨_, rfl⟩
        replace hf := bnd_at hf ex; rw [← ex] at hP hD; clear ex
        refine lv_aload_n hx hb dX7_begin_36 rfl (lv_at hl 0 rfl) ?_
        refine lv_aload_n hx hb dX7_begin_37 rfl (lv_at hl 0 rfl) ?_
        refine va_get (D := D) (ci := 7) (C := RX7) (T := TX7) (N := 40) hx hb F.2.2.2.2 in_X7_begin_X7 F.2.2.2.1 hK.1 hP 0 rfl rfl 4 (Nat.le_of_ble_eq_true rfl) (F.2.2.2.2 (.fieldLink RX7 75 "LouderRoomModel" "rings" "I") (List.mem_of_getElem? (i := 1) rfl)) (fun _ h9 => h9) rfl dX7_begin_38 ?_
        refine pt_put (D := D) (ci := 7) (fty := .int) (C := RX7) (T := TX7) (N := 40) (w1 := fl [oX7 ty h0 a0 (sI g1 32 (g1.1 4))]) F in_X7_begin_X7 tyX7 tyX7_ok nmX7 hK.1 hP hD hS 0 rfl rfl 32 (Nat.le_of_ble_eq_true rfl) (F.2.2.2.2 (.fieldLink RX7 141 "LouderRoomModel" "many" "I") (List.mem_of_getElem? (i := 6) rfl)) (fun _ h9 => h9) rfl (by decide +kernel) rfl rfl (Nat.le_of_ble_eq_true rfl) rfl dX7_begin_41 (fun H locs hP hD hS => ?_)
        obtain ⟨g2, ex⟩ : ∃ y : Ob, y = (sI g1 32 (g1.1 4)) := ⟨_, rfl⟩
        replace hf := bnd_at hf ex; rw [← ex] at hP hD; clear ex
        refine lv_aload_n hx hb dX7_begin_44 rfl (lv_at hl 0 rfl) ?_
        refine lv_aload_n hx hb dX7_begin_45 rfl (lv_at hl 0 rfl) ?_
        refine va_get (D := D) (ci := 7) (C := RX7) (T := TX7) (N := 40) hx hb F.2.2.2.2 in_X7_begin_X7 F.2.2.2.1 hK.1 hP 0 rfl rfl 10 (Nat.le_of_ble_eq_true rfl) (F.2.2.2.2 (.fieldLink RX7 125 "LouderRoomModel" "eats" "I") (List.mem_of_getElem? (i := 7) rfl)) (fun _ h9 => h9) rfl dX7_begin_46 ?_
        refine pt_put (D := D) (ci := 7) (fty := .int) (C := RX7) (T := TX7) (N := 40) (w1 := fl [oX7 ty h0 a0 (sI g2 33 (g2.1 10))]) F in_X7_begin_X7 tyX7 tyX7_ok nmX7 hK.1 hP hD hS 0 rfl rfl 33 (Nat.le_of_ble_eq_true rfl) (F.2.2.2.2 (.fieldLink RX7 144 "LouderRoomModel" "eaten" "I") (List.mem_of_getElem? (i := 8) rfl)) (fun _ h9 => h9) rfl (by decide +kernel) rfl rfl (Nat.le_of_ble_eq_true rfl) rfl dX7_begin_49 (fun H locs hP hD hS => ?_)
        obtain ⟨g3, ex⟩ : ∃ y : Ob, y = (sI g2 33 (g2.1 10)) := ⟨_, rfl⟩
        replace hf := bnd_at hf ex; rw [← ex] at hP hD; clear ex
        refine lv_aload_n hx hb dX7_begin_52 rfl (lv_at hl 0 rfl) ?_
        refine lv_sipush (v := (255 : Int32)) hx hb dX7_begin_53 (by decide) ?_
        refine pt_put (D := D) (ci := 7) (fty := .int) (C := RX7) (T := TX7) (N := 40) (w1 := fl [oX7 ty h0 a0 (sI g3 34 (255 : Int32))]) F in_X7_begin_X7 tyX7 tyX7_ok nmX7 hK.1 hP hD hS 0 rfl rfl 34 (Nat.le_of_ble_eq_true rfl) (F.2.2.2.2 (.fieldLink RX7 147 "LouderRoomModel" "speak" "I") (List.mem_of_getElem? (i := 9) rfl)) (fun _ h9 => h9) rfl (by decide +kernel) rfl rfl (Nat.le_of_ble_eq_true rfl) rfl dX7_begin_56 (fun H locs hP hD hS => ?_)
        obtain ⟨g4, ex⟩ : ∃ y : Ob, y = (sI g3 34 (255 : Int32)) := ⟨_, rfl⟩
        replace hf := bnd_at hf ex; rw [← ex] at hP hD; clear ex
        refine lv_aload_n hx hb dX7_begin_59 rfl (lv_at hl 0 rfl) ?_
        refine lv_aload_n hx hb dX7_begin_60 rfl (lv_at hl 0 rfl) ?_
        refine va_get (D := D) (ci := 7) (C := RX7) (T := TX7) (N := 40) hx hb F.2.2.2.2 in_X7_begin_X7 F.2.2.2.1 hK.1 hP 0 rfl rfl 12 (Nat.le_of_ble_eq_true rfl) (F.2.2.2.2 (.fieldLink RX7 131 "LouderRoomModel" "follows" "Z") (List.mem_of_getElem? (i := 10) rfl)) (fun _ h9 => h9) rfl dX7_begin_61 ?_
        obtain ⟨hz, hf⟩ := grd hf
        refine pt_put (D := D) (ci := 7) (fty := .boolean) (C := RX7) (T := TX7) (N := 40) (w1 := fl [oX7 ty h0 a0 (sI g4 35 (g4.1 12))]) F in_X7_begin_X7 tyX7 tyX7_ok nmX7 hK.1 hP hD hS 0 rfl rfl 35 (Nat.le_of_ble_eq_true rfl) (F.2.2.2.2 (.fieldLink RX7 150 "LouderRoomModel" "trails" "Z") (List.mem_of_getElem? (i := 11) rfl)) (fun _ h9 => h9) rfl (by decide +kernel) (isb_n hz) (isb_f hz) (Nat.le_of_ble_eq_true rfl) rfl dX7_begin_64 (fun H locs hP hD hS => ?_)
        obtain ⟨g5, ex⟩ : ∃ y : Ob, y = (sI g4 35 (g4.1 12)) := ⟨_, rfl⟩
        replace hf := bnd_at hf ex; rw [← ex] at hP hD; clear ex
        obtain hf := hf
        have e0 := Option.some.inj hf
        rw [e0] at hP hD
        exact CX_v F hr hlk hP hD hS dX7_begin_67
      · replace hf := ite_f hf hc
        refine lv_aload_n hx hb dX7_begin_10 rfl (lv_at hl 0 rfl) ?_
        refine va_get (D := D) (ci := 7) (C := RX7) (T := TX7) (N := 40) hx hb F.2.2.2.2 in_X7_begin_X7 F.2.2.2.1 hK.1 hP 0 rfl rfl 29 (Nat.le_of_ble_eq_true rfl) (F.2.2.2.2 (.fieldLink RX7 56 "LouderRoomModel" "v" "[I") (List.mem_of_getElem? (i := 2) rfl)) (fun _ h9 => h9) rfl dX7_begin_11 ?_
        refine lv_iload_n hx hb dX7_begin_14 rfl (lv_at hl 1 rfl) ?_
        refine lv_aload_n hx hb dX7_begin_15 rfl (lv_at hl 0 rfl) ?_
        refine va_get (D := D) (ci := 7) (C := RX7) (T := TX7) (N := 40) hx hb F.2.2.2.2 in_X7_begin_X7 F.2.2.2.1 hK.1 hP 0 rfl rfl 8 (Nat.le_of_ble_eq_true rfl) (F.2.2.2.2 (.fieldLink RX7 22 "LouderRoomModel" "voice" "[I") (List.mem_of_getElem? (i := 3) rfl)) (fun _ h9 => h9) rfl dX7_begin_16 ?_
        refine lv_iload_n hx hb dX7_begin_19 rfl (lv_at hl 1 rfl) ?_
        obtain ⟨hi, hf⟩ := grd hf
        refine va_iald hx hb hK.1 hP 5 0 rfl rfl (inb_in hi) dX7_begin_20 ?_
        obtain ⟨hi, hf⟩ := grd hf
        refine pt_iast (w1 := fl [oX7 ty h0 a0 (sA w0 29 (upd (w0.2 29) y1.toNatClampNeg (w0.2 8 y1.toNatClampNeg)))]) F hK.1 hP hD hS 16 0 rfl rfl (inb_in hi) rfl dX7_begin_21 (fun H locs hP hD hS => ?_)
        obtain ⟨g6, ex⟩ : ∃ y : Ob, y = (sA w0 29 (upd (w0.2 29) y1.toNatClampNeg (w0.2 8 y1.toNatClampNeg))) := ⟨_, rfl⟩
        replace hf := bnd_at hf ex; rw [← ex] at hP hD; clear ex
        obtain ⟨x7, ex⟩ : ∃ y : Int32, y = (y1 + (1 : Int32)) := ⟨_, rfl⟩
        replace hf := bnd_at hf ex
        refine lv_iinc (v := x7) (lv' := [(1, .int x7), (0, .ref h0)]) hx hb dX7_begin_22 hl (k := 1) rfl (by rw [ex]; rfl) (by decide) rfl (fun ls hl => ?_)
        clear ex
        refine lv_goto (tgt := 2) hx hb dX7_begin_25 (by decide) ?_
        exact ih_2 x7 g6 _ _ _ hP hD hS (lv_sub hl [1, 0] rfl) hf
  exact L_2 FU (0 : Int32) z0 _ _ _ hP hD hS (lv_sub hl [1, 0] rfl) hf
def f_X7_loudOf (z0 : Ob) (p1 : Int32) : Option (Int32) := (if inb p1 8 = true then (if (z0.2 7 p1.toNatClampNeg) ≤ (1 : Int32) then some (0 : Int32) else (f_X7_has (z0.1 34) p1).bind (fun v1 => (if v1 = 0 then some (0 : Int32) else (if inb p1 8 = true then some ((1 : Int32) <<< ((z0.2 29 p1.toNatClampNeg) &&& 31)) else none)))) else none)
abbrev rm_X7_loudOf : Room := { frames := 1, cells := 0, slots := 0, locals := 21 }
theorem hd_X7_loudOf : yX7_loudOf.cls ≠ "java/lang/invoke/MethodHandle" ∧ yX7_loudOf.cls ≠ "java/lang/invoke/VarHandle" ∧ (parseMethodDescriptor yX7_loudOf.desc).map (fun d => d.parameters.length) = some 1 := by decide +kernel
theorem in_X7_loudOf_X7 : ∀ w ∈ wsX70, w ∈ wsX7_loudOf := fun w h => List.mem_cons_of_mem _ (List.mem_append_right _ h)
set_option maxHeartbeats 4000000 in
set_option maxRecDepth 100000 in
theorem c_X7_loudOf (l : Launch) (D : va_G) (ty : TY) (h0 : Nat) (a0 : Nat → Nat) (z0 : Ob) (p1 : Int32) (o0 : Int32) (hf : f_X7_loudOf z0 p1 = some o0) (sz : Nat) : CX l yX7_loudOf wsX7_loudOf rm_X7_loudOf ([.ref h0, .int p1] : List Value) D ty (fl [oX7 ty h0 a0 z0]) sz (qI D o0 (fl [oX7 ty h0 a0 z0])) 0 0 := by
  refine CX_of (cc := cX7_loudOf) (maxL := 2) (ret := (some .int)) (C := RX7) (by decide) rfl rfl (Nat.le_of_ble_eq_true rfl) ?_
  intro p e s m below meth c A ls F hr hlk _ hK hP hD hS hA hl
  have hx := F.1
  have hb := F.2.1
  replace hl : lv_has ls 2 [(0, .ref h0), (1, .int p1)] := hl
  unfold f_X7_loudOf at hf
  refine lv_aload_n hx hb dX7_loudOf_0 rfl (lv_at hl 0 rfl) ?_
  refine va_get (D := D) (ci := 7) (C := RX7) (T := TX7) (N := 40) hx hb F.2.2.2.2 in_X7_loudOf_X7 F.2.2.2.1 hK.1 hP 0 rfl rfl 7 (Nat.le_of_ble_eq_true rfl) (F.2.2.2.2 (.fieldLink RX7 19 "LouderRoomModel" "people" "[I") (List.mem_of_getElem? (i := 1) rfl)) (fun _ h9 => h9) rfl dX7_loudOf_1 ?_
  refine lv_iload_n hx hb dX7_loudOf_4 rfl (lv_at hl 1 rfl) ?_
  obtain ⟨hi, hf⟩ := grd hf
  refine va_iald hx hb hK.1 hP 4 0 rfl rfl (inb_in hi) dX7_loudOf_5 ?_
  refine lv_iconst (v := (1 : Int32)) hx hb dX7_loudOf_6 (by decide) ?_
  refine lv_icmp_le (tgt := 32) hx hb dX7_loudOf_7 (by decide) (fun hc => ?_) (fun hc => ?_)
  · replace hf := ite_t hf hc
    refine lv_iconst (v := (0 : Int32)) hx hb dX7_loudOf_32 (by decide) ?_
    obtain hf := hf
    have e0 := Option.some.inj hf
    exact CX_i F hr hlk hP hD hS e0 dX7_loudOf_33
  · replace hf := ite_f hf hc
    refine lv_aload_n hx hb dX7_loudOf_10 rfl (lv_at hl 0 rfl) ?_
    refine va_get (D := D) (ci := 7) (C := RX7) (T := TX7) (N := 40) hx hb F.2.2.2.2 in_X7_loudOf_X7 F.2.2.2.1 hK.1 hP 0 rfl rfl 34 (Nat.le_of_ble_eq_true rfl) (F.2.2.2.2 (.fieldLink RX7 147 "LouderRoomModel" "speak" "I") (List.mem_of_getElem? (i := 2) rfl)) (fun _ h9 => h9) rfl dX7_loudOf_11 ?_
    refine lv_iload_n hx hb dX7_loudOf_14 rfl (lv_at hl 1 rfl) ?_
    obtain ⟨v1, hv, hf⟩ := obd hf
    have hp1 : List.Perm [oX7 ty h0 a0 z0] ([] ++ [oX7 ty h0 a0 z0]) := (List.Perm.refl _)
    refine ci_call (out := v1) (os := [oX7 ty h0 a0 z0]) (oc := []) (oc' := []) (or_ := [oX7 ty h0 a0 z0]) (os' := [oX7 ty h0 a0 z0]) (va_runS (As := [.int (z0.1 34), .int p1]) (rest := []) F (c_X7_has l D ty _ _ _ hv _) (va_cwS 2 F.2.2.2.2 gX7_loudOf_X7_has rfl rfl rfl hd_X7_has ⟨Nat.le_of_ble_eq_true rfl, Nat.le_of_ble_eq_true rfl⟩) (pre_s hK hP hD hp1) rfl rfl hl.1 rfl (lv_room (Nat.le_of_ble_eq_true rfl)) dX7_loudOf_15 ⟨Nat.zero_le _, Nat.zero_le _⟩) hp1 (List.Perm.refl _) hP hD hS hA (fun H locs hP hD hS => ?_)
    clear hp1 hv
    refine lv_if_eq (tgt := 32) hx hb dX7_loudOf_18 (by decide) (fun hc => ?_) (fun hc => ?_)
    · replace hf := ite_t hf hc
      refine lv_iconst (v := (0 : Int32)) hx hb dX7_loudOf_32 (by decide) ?_
      obtain hf := hf
      have e0 := Option.some.inj hf
      exact CX_i F hr hlk hP hD hS e0 dX7_loudOf_33
    · replace hf := ite_f hf hc
      refine lv_iconst (v := (1 : Int32)) hx hb dX7_loudOf_21 (by decide) ?_
      refine lv_aload_n hx hb dX7_loudOf_22 rfl (lv_at hl 0 rfl) ?_
      refine va_get (D := D) (ci := 7) (C := RX7) (T := TX7) (N := 40) hx hb F.2.2.2.2 in_X7_loudOf_X7 F.2.2.2.1 hK.1 hP 0 rfl rfl 29 (Nat.le_of_ble_eq_true rfl) (F.2.2.2.2 (.fieldLink RX7 56 "LouderRoomModel" "v" "[I") (List.mem_of_getElem? (i := 3) rfl)) (fun _ h9 => h9) rfl dX7_loudOf_23 ?_
      refine lv_iload_n hx hb dX7_loudOf_26 rfl (lv_at hl 1 rfl) ?_
      obtain ⟨hi, hf⟩ := grd hf
      refine va_iald hx hb hK.1 hP 16 0 rfl rfl (inb_in hi) dX7_loudOf_27 ?_
      refine lv_ishl hx hb dX7_loudOf_28 ?_
      refine lv_goto (tgt := 33) hx hb dX7_loudOf_29 (by decide) ?_
      obtain hf := hf
      have e0 := Option.some.inj hf
      exact CX_i F hr hlk hP hD hS e0 dX7_loudOf_33
def f_X7_loudMusic (z0 : Ob) : Option (Int32) := (if (z0.1 31) = 0 then some (0 : Int32) else some ((1 : Int32) <<< ((z0.1 31) &&& 31)))
abbrev rm_X7_loudMusic : Room := { frames := 0, cells := 0, slots := 0, locals := 0 }
theorem hd_X7_loudMusic : yX7_loudMusic.cls ≠ "java/lang/invoke/MethodHandle" ∧ yX7_loudMusic.cls ≠ "java/lang/invoke/VarHandle" ∧ (parseMethodDescriptor yX7_loudMusic.desc).map (fun d => d.parameters.length) = some 0 := by decide +kernel
theorem in_X7_loudMusic_X7 : ∀ w ∈ wsX70, w ∈ wsX7_loudMusic := fun w h => List.mem_cons_of_mem _ (List.mem_append_right _ h)
set_option maxHeartbeats 4000000 in
set_option maxRecDepth 100000 in
theorem c_X7_loudMusic (l : Launch) (D : va_G) (ty : TY) (h0 : Nat) (a0 : Nat → Nat) (z0 : Ob) (o0 : Int32) (hf : f_X7_loudMusic z0 = some o0) (sz : Nat) : CX l yX7_loudMusic wsX7_loudMusic rm_X7_loudMusic ([.ref h0] : List Value) D ty (fl [oX7 ty h0 a0 z0]) sz (qI D o0 (fl [oX7 ty h0 a0 z0])) 0 0 := by
  refine CX_of (cc := cX7_loudMusic) (maxL := 1) (ret := (some .int)) (C := RX7) (by decide) rfl rfl (Nat.le_of_ble_eq_true rfl) ?_
  intro p e s m below meth c A ls F hr hlk _ hK hP hD hS hA hl
  have hx := F.1
  have hb := F.2.1
  replace hl : lv_has ls 1 [(0, .ref h0)] := hl
  unfold f_X7_loudMusic at hf
  refine lv_aload_n hx hb dX7_loudMusic_0 rfl (lv_at hl 0 rfl) ?_
  refine va_get (D := D) (ci := 7) (C := RX7) (T := TX7) (N := 40) hx hb F.2.2.2.2 in_X7_loudMusic_X7 F.2.2.2.1 hK.1 hP 0 rfl rfl 31 (Nat.le_of_ble_eq_true rfl) (F.2.2.2.2 (.fieldLink RX7 138 "LouderRoomModel" "m" "I") (List.mem_of_getElem? (i := 1) rfl)) (fun _ h9 => h9) rfl dX7_loudMusic_1 ?_
  refine lv_if_ne (tgt := 11) hx hb dX7_loudMusic_4 (by decide) (fun hc => ?_) (fun hc => ?_)
  · replace hf := ite_f hf hc
    refine lv_iconst (v := (1 : Int32)) hx hb dX7_loudMusic_11 (by decide) ?_
    refine lv_aload_n hx hb dX7_loudMusic_12 rfl (lv_at hl 0 rfl) ?_
    refine va_get (D := D) (ci := 7) (C := RX7) (T := TX7) (N := 40) hx hb F.2.2.2.2 in_X7_loudMusic_X7 F.2.2.2.1 hK.1 hP 0 rfl rfl 31 (Nat.le_of_ble_eq_true rfl) (F.2.2.2.2 (.fieldLink RX7 138 "LouderRoomModel" "m" "I") (List.mem_of_getElem? (i := 1) rfl)) (fun _ h9 => h9) rfl dX7_loudMusic_13 ?_
    refine lv_ishl hx hb dX7_loudMusic_16 ?_
    obtain hf := hf
    have e0 := Option.some.inj hf
    exact CX_i F hr hlk hP hD hS e0 dX7_loudMusic_17
  · replace hf := ite_t hf hc
    refine lv_iconst (v := (0 : Int32)) hx hb dX7_loudMusic_7 (by decide) ?_
    refine lv_goto (tgt := 17) hx hb dX7_loudMusic_8 (by decide) ?_
    obtain hf := hf
    have e0 := Option.some.inj hf
    exact CX_i F hr hlk hP hD hS e0 dX7_loudMusic_17
def b_X7_loudAll_4 (z0 : Ob) (r_4 : Int32 → Int32 → Option (Int32)) (y1 : Int32) (y2 : Int32) : Option (Int32) := (if (z0.1 32) ≤ y2 then some y1 else (f_X7_loudOf z0 y2).bind (fun v1 => bnd (y1 + v1) (fun x2 => bnd (y2 + (1 : Int32)) (fun x3 => r_4 x2 x3))))
def f_X7_loudAll (z0 : Ob) : Option (Int32) := fuel2 (b_X7_loudAll_4 z0) FU (0 : Int32) (0 : Int32)
abbrev rm_X7_loudAll : Room := { frames := 2, cells := 0, slots := 0, locals := 42 }
theorem hd_X7_loudAll : yX7_loudAll.cls ≠ "java/lang/invoke/MethodHandle" ∧ yX7_loudAll.cls ≠ "java/lang/invoke/VarHandle" ∧ (parseMethodDescriptor yX7_loudAll.desc).map (fun d => d.parameters.length) = some 0 := by decide +kernel
theorem in_X7_loudAll_X7 : ∀ w ∈ wsX70, w ∈ wsX7_loudAll := fun w h => List.mem_cons_of_mem _ (List.mem_append_right _ h)
set_option maxHeartbeats 4000000 in
set_option maxRecDepth 100000 in
theorem c_X7_loudAll (l : Launch) (D : va_G) (ty : TY) (h0 : Nat) (a0 : Nat → Nat) (z0 : Ob) (o0 : Int32) (hf : f_X7_loudAll z0 = some o0) (sz : Nat) : CX l yX7_loudAll wsX7_loudAll rm_X7_loudAll ([.ref h0] : List Value) D ty (fl [oX7 ty h0 a0 z0]) sz (qI D o0 (fl [oX7 ty h0 a0 z0])) 0 0 := by
  refine CX_of (cc := cX7_loudAll) (maxL := 3) (ret := (some .int)) (C := RX7) (by decide) rfl rfl (Nat.le_of_ble_eq_true rfl) ?_
  intro p e s m below meth c A ls F hr hlk _ hK hP hD hS hA hl
  have hx := F.1
  have hb := F.2.1
  replace hl : lv_has ls 3 [(0, .ref h0)] := hl
  unfold f_X7_loudAll at hf
  refine lv_iconst (v := (0 : Int32)) hx hb dX7_loudAll_0 (by decide) ?_
  refine lv_istore_n (lv' := [(1, .int (0 : Int32)), (0, .ref h0)]) hx hb dX7_loudAll_1 rfl hl (by decide) rfl (fun ls hl => ?_)
  refine lv_iconst (v := (0 : Int32)) hx hb dX7_loudAll_2 (by decide) ?_
  refine lv_istore_n (lv' := [(2, .int (0 : Int32)), (1, .int (0 : Int32)), (0, .ref h0)]) hx hb dX7_loudAll_3 rfl hl (by decide) rfl (fun ls hl => ?_)
  have L_4 : ∀ (n : Nat) (y1 : Int32) (y2 : Int32) (H : Heap) (locs : List Loc) (ls : Array Slot), va_P D vwC (fl [oX7 ty h0 a0 z0]) H → va_D A (fl [oX7 ty h0 a0 z0]) → va_S A s.heap H locs → lv_has ls 3 [(0, .ref h0), (1, .int y1), (2, .int y2)] → fuel2 (b_X7_loudAll_4 z0) n y1 y2 = some o0 → W p l e rm_X7_loudAll s m ([.ref h0] : List Value).toArray below meth c H locs 0 0 (MQ below (qI D o0 (fl [oX7 ty h0 a0 z0]) A) ([.ref h0] : List Value).toArray s 0 0 A) (F0 m 4 ls []) := by
    intro n
    induction n with
    | zero => intro y1 y2 H locs ls hP hD hS hl hf; cases hf
    | succ n ih_4 =>
      intro y1 y2 H locs ls hP hD hS hl hf
      replace hf : b_X7_loudAll_4 z0 (fuel2 (b_X7_loudAll_4 z0) n) y1 y2 = some o0 := hf
      generalize fuel2 (b_X7_loudAll_4 z0) n = r_4 at ih_4 hf
      unfold b_X7_loudAll_4 at hf
      refine lv_iload_n hx hb dX7_loudAll_4 rfl (lv_at hl 2 rfl) ?_
      refine lv_aload_n hx hb dX7_loudAll_5 rfl (lv_at hl 0 rfl) ?_
      refine va_get (D := D) (ci := 7) (C := RX7) (T := TX7) (N := 40) hx hb F.2.2.2.2 in_X7_loudAll_X7 F.2.2.2.1 hK.1 hP 0 rfl rfl 32 (Nat.le_of_ble_eq_true rfl) (F.2.2.2.2 (.fieldLink RX7 141 "LouderRoomModel" "many" "I") (List.mem_of_getElem? (i := 1) rfl)) (fun _ h9 => h9) rfl dX7_loudAll_6 ?_
      refine lv_icmp_ge (tgt := 26) hx hb dX7_loudAll_9 (by decide) (fun hc => ?_) (fun hc => ?_)
      · replace hf := ite_t hf hc
        refine lv_iload_n hx hb dX7_loudAll_26 rfl (lv_at hl 1 rfl) ?_
        obtain hf := hf
        have e0 := Option.some.inj hf
        exact CX_i F hr hlk hP hD hS e0 dX7_loudAll_27
      · replace hf := ite_f hf hc
        refine lv_iload_n hx hb dX7_loudAll_12 rfl (lv_at hl 1 rfl) ?_
        refine lv_aload_n hx hb dX7_loudAll_13 rfl (lv_at hl 0 rfl) ?_
        refine lv_iload_n hx hb dX7_loudAll_14 rfl (lv_at hl 2 rfl) ?_
        obtain ⟨v1, hv, hf⟩ := obd hf
        have hp1 : List.Perm [oX7 ty h0 a0 z0] ([oX7 ty h0 a0 z0] ++ []) := (List.Perm.refl _)
        refine ci_call (out := v1) (os := [oX7 ty h0 a0 z0]) (oc := [oX7 ty h0 a0 z0]) (oc' := [oX7 ty h0 a0 z0]) (or_ := []) (os' := [oX7 ty h0 a0 z0]) (va_runV (As := [.int y2]) (rest := [.int y1]) F (c_X7_loudOf l D ty h0 a0 _ _ _ hv _) (cwV 1 F.2.2.2.2 gX7_loudAll_X7_loudOf rfl rfl rfl ⟨rfl, hd_X7_loudOf⟩ ⟨Nat.le_of_ble_eq_true rfl, Nat.le_of_ble_eq_true rfl⟩) (pre_v hK hP hD hp1 rfl rfl rfl) rfl rfl hl.1 rfl (lv_room (Nat.le_of_ble_eq_true rfl)) dX7_loudAll_15 ⟨Nat.zero_le _, Nat.zero_le _⟩) hp1 (List.Perm.refl _) hP hD hS hA (fun H locs hP hD hS => ?_)
        clear hp1 hv
        refine lv_iadd hx hb dX7_loudAll_18 ?_
        refine lv_topi (fun x2 ex => ?_)
        replace hf := bnd_at hf ex; clear ex
        refine lv_istore_n (lv' := [(1, .int x2), (0, .ref h0), (2, .int y2)]) hx hb dX7_loudAll_19 rfl hl (by decide) rfl (fun ls hl => ?_)
        obtain ⟨x3, ex⟩ : ∃ y : Int32, y = (y2 + (1 : Int32)) := ⟨_, rfl⟩
        replace hf := bnd_at hf ex
        refine lv_iinc (v := x3) (lv' := [(2, .int x3), (1, .int x2), (0, .ref h0)]) hx hb dX7_loudAll_20 hl (k := 2) rfl (by rw [ex]; rfl) (by decide) rfl (fun ls hl => ?_)
        clear ex
        refine lv_goto (tgt := 4) hx hb dX7_loudAll_23 (by decide) ?_
        exact ih_4 x2 x3 _ _ _ hP hD hS (lv_sub hl [2, 1, 0] rfl) hf
  exact L_4 FU (0 : Int32) (0 : Int32) _ _ _ hP hD hS (lv_sub hl [2, 1, 0] rfl) hf
def f_X7_echo (z0 : Ob) : Option (Int32) := (f_X7_loudAll z0).bind (fun v1 => (f_X7_loudMusic z0).bind (fun v2 => some (((v1 + v2) * ((10 : Int32) - (z0.1 33))) / (10 : Int32))))
abbrev rm_X7_echo : Room := { frames := 3, cells := 0, slots := 0, locals := 64 }
theorem hd_X7_echo : yX7_echo.cls ≠ "java/lang/invoke/MethodHandle" ∧ yX7_echo.cls ≠ "java/lang/invoke/VarHandle" ∧ (parseMethodDescriptor yX7_echo.desc).map (fun d => d.parameters.length) = some 0 := by decide +kernel
theorem in_X7_echo_X7 : ∀ w ∈ wsX70, w ∈ wsX7_echo := fun w h => List.mem_cons_of_mem _ (List.mem_append_right _ h)
set_option maxHeartbeats 4000000 in
set_option maxRecDepth 100000 in
theorem c_X7_echo (l : Launch) (D : va_G) (ty : TY) (h0 : Nat) (a0 : Nat → Nat) (z0 : Ob) (o0 : Int32) (hf : f_X7_echo z0 = some o0) (sz : Nat) : CX l yX7_echo wsX7_echo rm_X7_echo ([.ref h0] : List Value) D ty (fl [oX7 ty h0 a0 z0]) sz (qI D o0 (fl [oX7 ty h0 a0 z0])) 0 0 := by
  refine CX_of (cc := cX7_echo) (maxL := 1) (ret := (some .int)) (C := RX7) (by decide) rfl rfl (Nat.le_of_ble_eq_true rfl) ?_
  intro p e s m below meth c A ls F hr hlk _ hK hP hD hS hA hl
  have hx := F.1
  have hb := F.2.1
  replace hl : lv_has ls 1 [(0, .ref h0)] := hl
  unfold f_X7_echo at hf
  refine lv_aload_n hx hb dX7_echo_0 rfl (lv_at hl 0 rfl) ?_
  obtain ⟨v1, hv, hf⟩ := obd hf
  have hp1 : List.Perm [oX7 ty h0 a0 z0] ([oX7 ty h0 a0 z0] ++ []) := (List.Perm.refl _)
  refine ci_call (out := v1) (os := [oX7 ty h0 a0 z0]) (oc := [oX7 ty h0 a0 z0]) (oc' := [oX7 ty h0 a0 z0]) (or_ := []) (os' := [oX7 ty h0 a0 z0]) (va_runV (As := []) (rest := []) F (c_X7_loudAll l D ty h0 a0 _ _ hv _) (cwV 0 F.2.2.2.2 gX7_echo_X7_loudAll rfl rfl rfl ⟨rfl, hd_X7_loudAll⟩ ⟨Nat.le_of_ble_eq_true rfl, Nat.le_of_ble_eq_true rfl⟩) (pre_v hK hP hD hp1 rfl rfl rfl) rfl rfl hl.1 rfl (lv_room (Nat.le_of_ble_eq_true rfl)) dX7_echo_1 ⟨Nat.zero_le _, Nat.zero_le _⟩) hp1 (List.Perm.refl _) hP hD hS hA (fun H locs hP hD hS => ?_)
  clear hp1 hv
  refine lv_aload_n hx hb dX7_echo_4 rfl (lv_at hl 0 rfl) ?_
  obtain ⟨v2, hv, hf⟩ := obd hf
  have hp1 : List.Perm [oX7 ty h0 a0 z0] ([oX7 ty h0 a0 z0] ++ []) := (List.Perm.refl _)
  refine ci_call (out := v2) (os := [oX7 ty h0 a0 z0]) (oc := [oX7 ty h0 a0 z0]) (oc' := [oX7 ty h0 a0 z0]) (or_ := []) (os' := [oX7 ty h0 a0 z0]) (va_runV (As := []) (rest := [.int v1]) F (c_X7_loudMusic l D ty h0 a0 _ _ hv _) (cwV 0 F.2.2.2.2 gX7_echo_X7_loudMusic rfl rfl rfl ⟨rfl, hd_X7_loudMusic⟩ ⟨Nat.le_of_ble_eq_true rfl, Nat.le_of_ble_eq_true rfl⟩) (pre_v hK hP hD hp1 rfl rfl rfl) rfl rfl hl.1 rfl (lv_room (Nat.le_of_ble_eq_true rfl)) dX7_echo_5 ⟨Nat.zero_le _, Nat.zero_le _⟩) hp1 (List.Perm.refl _) hP hD hS hA (fun H locs hP hD hS => ?_)
  clear hp1 hv
  refine lv_iadd hx hb dX7_echo_8 ?_
  refine lv_bipush (v := (10 : Int32)) hx hb dX7_echo_9 (by decide) ?_
  refine lv_aload_n hx hb dX7_echo_11 rfl (lv_at hl 0 rfl) ?_
  refine va_get (D := D) (ci := 7) (C := RX7) (T := TX7) (N := 40) hx hb F.2.2.2.2 in_X7_echo_X7 F.2.2.2.1 hK.1 hP 0 rfl rfl 33 (Nat.le_of_ble_eq_true rfl) (F.2.2.2.2 (.fieldLink RX7 144 "LouderRoomModel" "eaten" "I") (List.mem_of_getElem? (i := 1) rfl)) (fun _ h9 => h9) rfl dX7_echo_12 ?_
  refine lv_isub hx hb dX7_echo_15 ?_
  refine lv_imul hx hb dX7_echo_16 ?_
  refine lv_bipush (v := (10 : Int32)) hx hb dX7_echo_17 (by decide) ?_
  refine lv_idiv hx hb dX7_echo_19 (by decide) ?_
  obtain hf := hf
  have e0 := Option.some.inj hf
  exact CX_i F hr hlk hP hD hS e0 dX7_echo_20
def f_X7_far (p0 : Int32) (p1 : Int32) : Option (Int32) := bnd ((p0 - p0 / (10 : Int32) * (10 : Int32)) - (p1 - p1 / (10 : Int32) * (10 : Int32))) (fun x1 => bnd ((p0 / (10 : Int32)) - (p1 / (10 : Int32))) (fun x2 => some ((x1 * x1) + (x2 * x2))))
abbrev rm_X7_far : Room := { frames := 0, cells := 0, slots := 0, locals := 0 }
theorem hd_X7_far : yX7_far.cls ≠ "java/lang/invoke/MethodHandle" ∧ yX7_far.cls ≠ "java/lang/invoke/VarHandle" ∧ (parseMethodDescriptor yX7_far.desc).map (fun d => d.parameters.length) = some 2 := by decide +kernel
set_option maxHeartbeats 4000000 in
set_option maxRecDepth 100000 in
theorem c_X7_far (l : Launch) (D : va_G) (ty : TY) (p0 : Int32) (p1 : Int32) (o0 : Int32) (hf : f_X7_far p0 p1 = some o0) (sz : Nat) : CX l yX7_far wsX7_far rm_X7_far ([.int p0, .int p1] : List Value) D ty (fl []) sz (qI D o0 (fl [])) 0 0 := by
  refine CX_of (cc := cX7_far) (maxL := 4) (ret := (some .int)) (C := RX7) (by decide) rfl rfl (Nat.le_of_ble_eq_true rfl) ?_
  intro p e s m below meth c A ls F hr hlk _ hK hP hD hS hA hl
  have hx := F.1
  have hb := F.2.1
  replace hl : lv_has ls 4 [(0, .int p0), (1, .int p1)] := hl
  unfold f_X7_far at hf
  refine lv_iload_n hx hb dX7_far_0 rfl (lv_at hl 0 rfl) ?_
  refine lv_bipush (v := (10 : Int32)) hx hb dX7_far_1 (by decide) ?_
  refine lv_irem hx hb dX7_far_3 (by decide) ?_
  refine lv_iload_n hx hb dX7_far_4 rfl (lv_at hl 1 rfl) ?_
  refine lv_bipush (v := (10 : Int32)) hx hb dX7_far_5 (by decide) ?_
  refine lv_irem hx hb dX7_far_7 (by decide) ?_
  refine lv_isub hx hb dX7_far_8 ?_
  refine lv_topi (fun x1 ex => ?_)
  replace hf := bnd_at hf ex; clear ex
  refine lv_istore_n (lv' := [(2, .int x1), (0, .int p0), (1, .int p1)]) hx hb dX7_far_9 rfl hl (by decide) rfl (fun ls hl => ?_)
  refine lv_iload_n hx hb dX7_far_10 rfl (lv_at hl 1 rfl) ?_
  refine lv_bipush (v := (10 : Int32)) hx hb dX7_far_11 (by decide) ?_
  refine lv_idiv hx hb dX7_far_13 (by decide) ?_
  refine lv_iload_n hx hb dX7_far_14 rfl (lv_at hl 2 rfl) ?_
  refine lv_bipush (v := (10 : Int32)) hx hb dX7_far_15 (by decide) ?_
  refine lv_idiv hx hb dX7_far_17 (by decide) ?_
  refine lv_isub hx hb dX7_far_18 ?_
  refine lv_topi (fun x2 ex => ?_)
  replace hf := bnd_at hf ex; clear ex
  refine lv_istore_n (lv' := [(3, .int x2), (2, .int x1), (0, .int p0), (1, .int p1)]) hx hb dX7_far_19 rfl hl (by decide) rfl (fun ls hl => ?_)
  refine lv_iload_n hx hb dX7_far_20 rfl (lv_at hl 1 rfl) ?_
  refine lv_iload_n hx hb dX7_far_21 rfl (lv_at hl 1 rfl) ?_
  refine lv_imul hx hb dX7_far_22 ?_
  refine lv_iload_n hx hb dX7_far_23 rfl (lv_at hl 0 rfl) ?_
  refine lv_iload_n hx hb dX7_far_24 rfl (lv_at hl 0 rfl) ?_
  refine lv_imul hx hb dX7_far_25 ?_
  refine lv_iadd hx hb dX7_far_26 ?_
  obtain hf := hf
  have e0 := Option.some.inj hf
  exact CX_i F hr hlk hP hD hS e0 dX7_far_27
def f_X7_fromAt (z0 : Ob) (p1 : Int32) (p2 : Int32) : Option (Int32) := (if inb p1 8 = true then (if (z0.2 6 p1.toNatClampNeg) = p2 then some (0 : Int32) else (f_X7_loudOf z0 p1).bind (fun v1 => (if inb p1 8 = true then (f_X7_far (z0.2 6 p1.toNatClampNeg) p2).bind (fun v2 => (if v2 = 0 then none else some (((4 : Int32) * v1) / v2))) else none))) else none)
abbrev rm_X7_fromAt : Room := { frames := 2, cells := 0, slots := 0, locals := 42 }
theorem hd_X7_fromAt : yX7_fromAt.cls ≠ "java/lang/invoke/MethodHandle" ∧ yX7_fromAt.cls ≠ "java/lang/invoke/VarHandle" ∧ (parseMethodDescriptor yX7_fromAt.desc).map (fun d => d.parameters.length) = some 2 := by decide +kernel
theorem in_X7_fromAt_X7 : ∀ w ∈ wsX70, w ∈ wsX7_fromAt := fun w h => List.mem_cons_of_mem _ (List.mem_append_right _ h)
set_option maxHeartbeats 4000000 in
set_option maxRecDepth 100000 in
theorem c_X7_fromAt (l : Launch) (D : va_G) (ty : TY) (h0 : Nat) (a0 : Nat → Nat) (z0 : Ob) (p1 : Int32) (p2 : Int32) (o0 : Int32) (hf : f_X7_fromAt z0 p1 p2 = some o0) (sz : Nat) : CX l yX7_fromAt wsX7_fromAt rm_X7_fromAt ([.ref h0, .int p1, .int p2] : List Value) D ty (fl [oX7 ty h0 a0 z0]) sz (qI D o0 (fl [oX7 ty h0 a0 z0])) 0 0 := by
  refine CX_of (cc := cX7_fromAt) (maxL := 3) (ret := (some .int)) (C := RX7) (by decide) rfl rfl (Nat.le_of_ble_eq_true rfl) ?_
  intro p e s m below meth c A ls F hr hlk _ hK hP hD hS hA hl
  have hx := F.1
  have hb := F.2.1
  replace hl : lv_has ls 3 [(0, .ref h0), (1, .int p1), (2, .int p2)] := hl
  unfold f_X7_fromAt at hf
  refine lv_aload_n hx hb dX7_fromAt_0 rfl (lv_at hl 0 rfl) ?_
  refine va_get (D := D) (ci := 7) (C := RX7) (T := TX7) (N := 40) hx hb F.2.2.2.2 in_X7_fromAt_X7 F.2.2.2.1 hK.1 hP 0 rfl rfl 6 (Nat.le_of_ble_eq_true rfl) (F.2.2.2.2 (.fieldLink RX7 16 "LouderRoomModel" "cell" "[I") (List.mem_of_getElem? (i := 1) rfl)) (fun _ h9 => h9) rfl dX7_fromAt_1 ?_
  refine lv_iload_n hx hb dX7_fromAt_4 rfl (lv_at hl 1 rfl) ?_
  obtain ⟨hi, hf⟩ := grd hf
  refine va_iald hx hb hK.1 hP 3 0 rfl rfl (inb_in hi) dX7_fromAt_5 ?_
  refine lv_iload_n hx hb dX7_fromAt_6 rfl (lv_at hl 2 rfl) ?_
  refine lv_icmp_ne (tgt := 14) hx hb dX7_fromAt_7 (by decide) (fun hc => ?_) (fun hc => ?_)
  · replace hf := ite_f hf hc
    refine lv_iconst (v := (4 : Int32)) hx hb dX7_fromAt_14 (by decide) ?_
    refine lv_aload_n hx hb dX7_fromAt_15 rfl (lv_at hl 0 rfl) ?_
    refine lv_iload_n hx hb dX7_fromAt_16 rfl (lv_at hl 1 rfl) ?_
    obtain ⟨v1, hv, hf⟩ := obd hf
    have hp1 : List.Perm [oX7 ty h0 a0 z0] ([oX7 ty h0 a0 z0] ++ []) := (List.Perm.refl _)
    refine ci_call (out := v1) (os := [oX7 ty h0 a0 z0]) (oc := [oX7 ty h0 a0 z0]) (oc' := [oX7 ty h0 a0 z0]) (or_ := []) (os' := [oX7 ty h0 a0 z0]) (va_runV (As := [.int p1]) (rest := [.int (4 : Int32)]) F (c_X7_loudOf l D ty h0 a0 _ _ _ hv _) (cwV 1 F.2.2.2.2 gX7_fromAt_X7_loudOf rfl rfl rfl ⟨rfl, hd_X7_loudOf⟩ ⟨Nat.le_of_ble_eq_true rfl, Nat.le_of_ble_eq_true rfl⟩) (pre_v hK hP hD hp1 rfl rfl rfl) rfl rfl hl.1 rfl (lv_room (Nat.le_of_ble_eq_true rfl)) dX7_fromAt_17 ⟨Nat.zero_le _, Nat.zero_le _⟩) hp1 (List.Perm.refl _) hP hD hS hA (fun H locs hP hD hS => ?_)
    clear hp1 hv
    refine lv_imul hx hb dX7_fromAt_20 ?_
    refine lv_aload_n hx hb dX7_fromAt_21 rfl (lv_at hl 0 rfl) ?_
    refine va_get (D := D) (ci := 7) (C := RX7) (T := TX7) (N := 40) hx hb F.2.2.2.2 in_X7_fromAt_X7 F.2.2.2.1 hK.1 hP 0 rfl rfl 6 (Nat.le_of_ble_eq_true rfl) (F.2.2.2.2 (.fieldLink RX7 16 "LouderRoomModel" "cell" "[I") (List.mem_of_getElem? (i := 1) rfl)) (fun _ h9 => h9) rfl dX7_fromAt_22 ?_
    refine lv_iload_n hx hb dX7_fromAt_25 rfl (lv_at hl 1 rfl) ?_
    obtain ⟨hi, hf⟩ := grd hf
    refine va_iald hx hb hK.1 hP 3 0 rfl rfl (inb_in hi) dX7_fromAt_26 ?_
    refine lv_iload_n hx hb dX7_fromAt_27 rfl (lv_at hl 2 rfl) ?_
    obtain ⟨v2, hv, hf⟩ := obd hf
    have hp1 : List.Perm [oX7 ty h0 a0 z0] ([] ++ [oX7 ty h0 a0 z0]) := (List.Perm.refl _)
    refine ci_call (out := v2) (os := [oX7 ty h0 a0 z0]) (oc := []) (oc' := []) (or_ := [oX7 ty h0 a0 z0]) (os' := [oX7 ty h0 a0 z0]) (va_runS (As := [.int (z0.2 6 p1.toNatClampNeg), .int p2]) (rest := [.int ((4 : Int32) * v1)]) F (c_X7_far l D ty _ _ _ hv _) (va_cwS 2 F.2.2.2.2 gX7_fromAt_X7_far rfl rfl rfl hd_X7_far ⟨Nat.le_of_ble_eq_true rfl, Nat.le_of_ble_eq_true rfl⟩) (pre_s hK hP hD hp1) rfl rfl hl.1 rfl (lv_room (Nat.le_of_ble_eq_true rfl)) dX7_fromAt_28 ⟨Nat.zero_le _, Nat.zero_le _⟩) hp1 (List.Perm.refl _) hP hD hS hA (fun H locs hP hD hS => ?_)
    clear hp1 hv
    obtain ⟨hne, hf⟩ := grz hf
    refine lv_idiv hx hb dX7_fromAt_31 hne ?_
    obtain hf := hf
    have e0 := Option.some.inj hf
    exact CX_i F hr hlk hP hD hS e0 dX7_fromAt_32
  · replace hf := ite_t hf hc
    refine lv_iconst (v := (0 : Int32)) hx hb dX7_fromAt_10 (by decide) ?_
    refine lv_goto (tgt := 32) hx hb dX7_fromAt_11 (by decide) ?_
    obtain hf := hf
    have e0 := Option.some.inj hf
    exact CX_i F hr hlk hP hD hS e0 dX7_fromAt_32
def b_X7_noiseAt_7 (z0 : Ob) (p1 : Int32) (r_7 : Int32 → Int32 → Option (Int32)) (y2 : Int32) (y3 : Int32) : Option (Int32) := (if (z0.1 32) ≤ y3 then some y2 else (f_X7_fromAt z0 y3 p1).bind (fun v2 => bnd (y2 + v2) (fun x3 => bnd (y3 + (1 : Int32)) (fun x4 => r_7 x3 x4))))
def f_X7_noiseAt (z0 : Ob) (p1 : Int32) : Option (Int32) := (f_X7_echo z0).bind (fun v1 => fuel2 (b_X7_noiseAt_7 z0 p1) FU v1 (0 : Int32))
abbrev rm_X7_noiseAt : Room := { frames := 4, cells := 0, slots := 0, locals := 84 }
theorem hd_X7_noiseAt : yX7_noiseAt.cls ≠ "java/lang/invoke/MethodHandle" ∧ yX7_noiseAt.cls ≠ "java/lang/invoke/VarHandle" ∧ (parseMethodDescriptor yX7_noiseAt.desc).map (fun d => d.parameters.length) = some 1 := by decide +kernel
theorem in_X7_noiseAt_X7 : ∀ w ∈ wsX70, w ∈ wsX7_noiseAt := fun w h => List.mem_cons_of_mem _ (List.mem_append_right _ h)
set_option maxHeartbeats 4000000 in
set_option maxRecDepth 100000 in
theorem c_X7_noiseAt (l : Launch) (D : va_G) (ty : TY) (h0 : Nat) (a0 : Nat → Nat) (z0 : Ob) (p1 : Int32) (o0 : Int32) (hf : f_X7_noiseAt z0 p1 = some o0) (sz : Nat) : CX l yX7_noiseAt wsX7_noiseAt rm_X7_noiseAt ([.ref h0, .int p1] : List Value) D ty (fl [oX7 ty h0 a0 z0]) sz (qI D o0 (fl [oX7 ty h0 a0 z0])) 0 0 := by
  refine CX_of (cc := cX7_noiseAt) (maxL := 4) (ret := (some .int)) (C := RX7) (by decide) rfl rfl (Nat.le_of_ble_eq_true rfl) ?_
  intro p e s m below meth c A ls F hr hlk _ hK hP hD hS hA hl
  have hx := F.1
  have hb := F.2.1
  replace hl : lv_has ls 4 [(0, .ref h0), (1, .int p1)] := hl
  unfold f_X7_noiseAt at hf
  refine lv_aload_n hx hb dX7_noiseAt_0 rfl (lv_at hl 0 rfl) ?_
  obtain ⟨v1, hv, hf⟩ := obd hf
  have hp1 : List.Perm [oX7 ty h0 a0 z0] ([oX7 ty h0 a0 z0] ++ []) := (List.Perm.refl _)
  refine ci_call (out := v1) (os := [oX7 ty h0 a0 z0]) (oc := [oX7 ty h0 a0 z0]) (oc' := [oX7 ty h0 a0 z0]) (or_ := []) (os' := [oX7 ty h0 a0 z0]) (va_runV (As := []) (rest := []) F (c_X7_echo l D ty h0 a0 _ _ hv _) (cwV 0 F.2.2.2.2 gX7_noiseAt_X7_echo rfl rfl rfl ⟨rfl, hd_X7_echo⟩ ⟨Nat.le_of_ble_eq_true rfl, Nat.le_of_ble_eq_true rfl⟩) (pre_v hK hP hD hp1 rfl rfl rfl) rfl rfl hl.1 rfl (lv_room (Nat.le_of_ble_eq_true rfl)) dX7_noiseAt_1 ⟨Nat.zero_le _, Nat.zero_le _⟩) hp1 (List.Perm.refl _) hP hD hS hA (fun H locs hP hD hS => ?_)
  clear hp1 hv
  refine lv_istore_n (lv' := [(2, .int v1), (0, .ref h0), (1, .int p1)]) hx hb dX7_noiseAt_4 rfl hl (by decide) rfl (fun ls hl => ?_)
  refine lv_iconst (v := (0 : Int32)) hx hb dX7_noiseAt_5 (by decide) ?_
  refine lv_istore_n (lv' := [(3, .int (0 : Int32)), (2, .int v1), (0, .ref h0), (1, .int p1)]) hx hb dX7_noiseAt_6 rfl hl (by decide) rfl (fun ls hl => ?_)
  have L_7 : ∀ (n : Nat) (y2 : Int32) (y3 : Int32) (H : Heap) (locs : List Loc) (ls : Array Slot), va_P D vwC (fl [oX7 ty h0 a0 z0]) H → va_D A (fl [oX7 ty h0 a0 z0]) → va_S A s.heap H locs → lv_has ls 4 [(0, .ref h0), (1, .int p1), (2, .int y2), (3, .int y3)] → fuel2 (b_X7_noiseAt_7 z0 p1) n y2 y3 = some o0 → W p l e rm_X7_noiseAt s m ([.ref h0, .int p1] : List Value).toArray below meth c H locs 0 0 (MQ below (qI D o0 (fl [oX7 ty h0 a0 z0]) A) ([.ref h0, .int p1] : List Value).toArray s 0 0 A) (F0 m 7 ls []) := by
    intro n
    induction n with
    | zero => intro y2 y3 H locs ls hP hD hS hl hf; cases hf
    | succ n ih_7 =>
      intro y2 y3 H locs ls hP hD hS hl hf
      replace hf : b_X7_noiseAt_7 z0 p1 (fuel2 (b_X7_noiseAt_7 z0 p1) n) y2 y3 = some o0 := hf
      generalize fuel2 (b_X7_noiseAt_7 z0 p1) n = r_7 at ih_7 hf
      unfold b_X7_noiseAt_7 at hf
      refine lv_iload_n hx hb dX7_noiseAt_7 rfl (lv_at hl 3 rfl) ?_
      refine lv_aload_n hx hb dX7_noiseAt_8 rfl (lv_at hl 0 rfl) ?_
      refine va_get (D := D) (ci := 7) (C := RX7) (T := TX7) (N := 40) hx hb F.2.2.2.2 in_X7_noiseAt_X7 F.2.2.2.1 hK.1 hP 0 rfl rfl 32 (Nat.le_of_ble_eq_true rfl) (F.2.2.2.2 (.fieldLink RX7 141 "LouderRoomModel" "many" "I") (List.mem_of_getElem? (i := 1) rfl)) (fun _ h9 => h9) rfl dX7_noiseAt_9 ?_
      refine lv_icmp_ge (tgt := 30) hx hb dX7_noiseAt_12 (by decide) (fun hc => ?_) (fun hc => ?_)
      · replace hf := ite_t hf hc
        refine lv_iload_n hx hb dX7_noiseAt_30 rfl (lv_at hl 2 rfl) ?_
        obtain hf := hf
        have e0 := Option.some.inj hf
        exact CX_i F hr hlk hP hD hS e0 dX7_noiseAt_31
      · replace hf := ite_f hf hc
        refine lv_iload_n hx hb dX7_noiseAt_15 rfl (lv_at hl 2 rfl) ?_
        refine lv_aload_n hx hb dX7_noiseAt_16 rfl (lv_at hl 0 rfl) ?_
        refine lv_iload_n hx hb dX7_noiseAt_17 rfl (lv_at hl 3 rfl) ?_
        refine lv_iload_n hx hb dX7_noiseAt_18 rfl (lv_at hl 1 rfl) ?_
        obtain ⟨v2, hv, hf⟩ := obd hf
        have hp1 : List.Perm [oX7 ty h0 a0 z0] ([oX7 ty h0 a0 z0] ++ []) := (List.Perm.refl _)
        refine ci_call (out := v2) (os := [oX7 ty h0 a0 z0]) (oc := [oX7 ty h0 a0 z0]) (oc' := [oX7 ty h0 a0 z0]) (or_ := []) (os' := [oX7 ty h0 a0 z0]) (va_runV (As := [.int y3, .int p1]) (rest := [.int y2]) F (c_X7_fromAt l D ty h0 a0 _ _ _ _ hv _) (cwV 2 F.2.2.2.2 gX7_noiseAt_X7_fromAt rfl rfl rfl ⟨rfl, hd_X7_fromAt⟩ ⟨Nat.le_of_ble_eq_true rfl, Nat.le_of_ble_eq_true rfl⟩) (pre_v hK hP hD hp1 rfl rfl rfl) rfl rfl hl.1 rfl (lv_room (Nat.le_of_ble_eq_true rfl)) dX7_noiseAt_19 ⟨Nat.zero_le _, Nat.zero_le _⟩) hp1 (List.Perm.refl _) hP hD hS hA (fun H locs hP hD hS => ?_)
        clear hp1 hv
        refine lv_iadd hx hb dX7_noiseAt_22 ?_
        refine lv_topi (fun x3 ex => ?_)
        replace hf := bnd_at hf ex; clear ex
        refine lv_istore_n (lv' := [(2, .int x3), (0, .ref h0), (1, .int p1), (3, .int y3)]) hx hb dX7_noiseAt_23 rfl hl (by decide) rfl (fun ls hl => ?_)
        obtain ⟨x4, ex⟩ : ∃ y : Int32, y = (y3 + (1 : Int32)) := ⟨_, rfl⟩
        replace hf := bnd_at hf ex
        refine lv_iinc (v := x4) (lv' := [(3, .int x4), (2, .int x3), (0, .ref h0), (1, .int p1)]) hx hb dX7_noiseAt_24 hl (k := 3) rfl (by rw [ex]; rfl) (by decide) rfl (fun ls hl => ?_)
        clear ex
        refine lv_goto (tgt := 7) hx hb dX7_noiseAt_27 (by decide) ?_
        exact ih_7 x3 x4 _ _ _ hP hD hS (lv_sub hl [2, 3, 1, 0] rfl) hf
  exact L_7 FU v1 (0 : Int32) _ _ _ hP hD hS (lv_sub hl [2, 3, 1, 0] rfl) hf
def j_X7_soundOf_33 (z0 : Ob) (p1 : Int32) (p2 : Int32) (t0 : Int32) : Option (Int32) := (if t0 = 0 then none else some (((8 : Int32) * p2) / t0))
def f_X7_soundOf (z0 : Ob) (p1 : Int32) (p2 : Int32) : Option (Int32) := (if inb p1 8 = true then bnd (z0.2 7 p1.toNatClampNeg) (fun x1 => (if inb p1 8 = true then (if (z0.2 5 p1.toNatClampNeg) = (3 : Int32) then (if x1 ≤ (3 : Int32) then j_X7_soundOf_33 z0 p1 p2 (1 : Int32) else j_X7_soundOf_33 z0 p1 p2 (x1 - (2 : Int32))) else j_X7_soundOf_33 z0 p1 p2 x1) else none)) else none)
abbrev rm_X7_soundOf : Room := { frames := 0, cells := 0, slots := 0, locals := 0 }
theorem hd_X7_soundOf : yX7_soundOf.cls ≠ "java/lang/invoke/MethodHandle" ∧ yX7_soundOf.cls ≠ "java/lang/invoke/VarHandle" ∧ (parseMethodDescriptor yX7_soundOf.desc).map (fun d => d.parameters.length) = some 2 := by decide +kernel
theorem in_X7_soundOf_X7 : ∀ w ∈ wsX70, w ∈ wsX7_soundOf := fun w h => List.mem_cons_of_mem _ (List.mem_append_right _ h)
set_option maxHeartbeats 4000000 in
set_option maxRecDepth 100000 in
theorem c_X7_soundOf (l : Launch) (D : va_G) (ty : TY) (h0 : Nat) (a0 : Nat → Nat) (z0 : Ob) (p1 : Int32) (p2 : Int32) (o0 : Int32) (hf : f_X7_soundOf z0 p1 p2 = some o0) (sz : Nat) : CX l yX7_soundOf wsX7_soundOf rm_X7_soundOf ([.ref h0, .int p1, .int p2] : List Value) D ty (fl [oX7 ty h0 a0 z0]) sz (qI D o0 (fl [oX7 ty h0 a0 z0])) 0 0 := by
  refine CX_of (cc := cX7_soundOf) (maxL := 5) (ret := (some .int)) (C := RX7) (by decide) rfl rfl (Nat.le_of_ble_eq_true rfl) ?_
  intro p e s m below meth c A ls F hr hlk _ hK hP hD hS hA hl
  have hx := F.1
  have hb := F.2.1
  replace hl : lv_has ls 5 [(0, .ref h0), (1, .int p1), (2, .int p2)] := hl
  unfold f_X7_soundOf at hf
  have J_33 : ∀ (t0 : Int32) (H : Heap) (locs : List Loc) (ls : Array Slot), va_P D vwC (fl [oX7 ty h0 a0 z0]) H → va_D A (fl [oX7 ty h0 a0 z0]) → va_S A s.heap H locs → lv_has ls 5 [(2, .int p2)] → j_X7_soundOf_33 z0 p1 p2 t0 = some o0 → W p l e rm_X7_soundOf s m ([.ref h0, .int p1, .int p2] : List Value).toArray below meth c H locs 0 0 (MQ below (qI D o0 (fl [oX7 ty h0 a0 z0]) A) ([.ref h0, .int p1, .int p2] : List Value).toArray s 0 0 A) (F0 m 33 ls [.int t0]) := by
    intro t0 H locs ls hP hD hS hl hf
    unfold j_X7_soundOf_33 at hf
    refine lv_istore (lv' := [(4, .int t0), (2, .int p2)]) hx hb dX7_soundOf_33 hl (by decide) rfl (fun ls hl => ?_)
    refine lv_bipush (v := (8 : Int32)) hx hb dX7_soundOf_35 (by decide) ?_
    refine lv_iload_n hx hb dX7_soundOf_37 rfl (lv_at hl 1 rfl) ?_
    refine lv_imul hx hb dX7_soundOf_38 ?_
    refine lv_iload hx hb dX7_soundOf_39 (lv_at hl 0 rfl) ?_
    obtain ⟨hne, hf⟩ := grz hf
    refine lv_idiv hx hb dX7_soundOf_41 hne ?_
    obtain hf := hf
    have e0 := Option.some.inj hf
    exact CX_i F hr hlk hP hD hS e0 dX7_soundOf_42
  refine lv_aload_n hx hb dX7_soundOf_0 rfl (lv_at hl 0 rfl) ?_
  refine va_get (D := D) (ci := 7) (C := RX7) (T := TX7) (N := 40) hx hb F.2.2.2.2 in_X7_soundOf_X7 F.2.2.2.1 hK.1 hP 0 rfl rfl 7 (Nat.le_of_ble_eq_true rfl) (F.2.2.2.2 (.fieldLink RX7 19 "LouderRoomModel" "people" "[I") (List.mem_of_getElem? (i := 1) rfl)) (fun _ h9 => h9) rfl dX7_soundOf_1 ?_
  refine lv_iload_n hx hb dX7_soundOf_4 rfl (lv_at hl 1 rfl) ?_
  obtain ⟨hi, hf⟩ := grd hf
  refine va_iald hx hb hK.1 hP 4 0 rfl rfl (inb_in hi) dX7_soundOf_5 ?_
  refine lv_topi (fun x1 ex => ?_)
  replace hf := bnd_at hf ex; clear ex
  refine lv_istore_n (lv' := [(3, .int x1), (0, .ref h0), (1, .int p1), (2, .int p2)]) hx hb dX7_soundOf_6 rfl hl (by decide) rfl (fun ls hl => ?_)
  refine lv_aload_n hx hb dX7_soundOf_7 rfl (lv_at hl 1 rfl) ?_
  refine va_get (D := D) (ci := 7) (C := RX7) (T := TX7) (N := 40) hx hb F.2.2.2.2 in_X7_soundOf_X7 F.2.2.2.1 hK.1 hP 0 rfl rfl 5 (Nat.le_of_ble_eq_true rfl) (F.2.2.2.2 (.fieldLink RX7 13 "LouderRoomModel" "kind" "[I") (List.mem_of_getElem? (i := 2) rfl)) (fun _ h9 => h9) rfl dX7_soundOf_8 ?_
  refine lv_iload_n hx hb dX7_soundOf_11 rfl (lv_at hl 2 rfl) ?_
  obtain ⟨hi, hf⟩ := grd hf
  refine va_iald hx hb hK.1 hP 2 0 rfl rfl (inb_in hi) dX7_soundOf_12 ?_
  refine lv_iconst (v := (3 : Int32)) hx hb dX7_soundOf_13 (by decide) ?_
  refine lv_icmp_eq (tgt := 21) hx hb dX7_soundOf_14 (by decide) (fun hc => ?_) (fun hc => ?_)
  · replace hf := ite_t hf hc
    refine lv_iload_n hx hb dX7_soundOf_21 rfl (lv_at hl 0 rfl) ?_
    refine lv_iconst (v := (3 : Int32)) hx hb dX7_soundOf_22 (by decide) ?_
    refine lv_icmp_le (tgt := 32) hx hb dX7_soundOf_23 (by decide) (fun hc => ?_) (fun hc => ?_)
    · replace hf := ite_t hf hc
      refine lv_iconst (v := (1 : Int32)) hx hb dX7_soundOf_32 (by decide) ?_
      exact J_33 (1 : Int32) _ _ _ hP hD hS (lv_sub hl [3] rfl) hf
    · replace hf := ite_f hf hc
      refine lv_iload_n hx hb dX7_soundOf_26 rfl (lv_at hl 0 rfl) ?_
      refine lv_iconst (v := (2 : Int32)) hx hb dX7_soundOf_27 (by decide) ?_
      refine lv_isub hx hb dX7_soundOf_28 ?_
      refine lv_goto (tgt := 33) hx hb dX7_soundOf_29 (by decide) ?_
      exact J_33 (x1 - (2 : Int32)) _ _ _ hP hD hS (lv_sub hl [3] rfl) hf
  · replace hf := ite_f hf hc
    refine lv_iload_n hx hb dX7_soundOf_17 rfl (lv_at hl 0 rfl) ?_
    refine lv_goto (tgt := 33) hx hb dX7_soundOf_18 (by decide) ?_
    exact J_33 x1 _ _ _ hP hD hS (lv_sub hl [3] rfl) hf
def j_X7_would_38 (z0 : Ob) (p1 : Int32) (p2 : Int32) (p3 : Int32)  : Option (Int32) := some (1 : Int32)
def f_X7_would (z0 : Ob) (p1 : Int32) (p2 : Int32) (p3 : Int32) : Option (Int32) := (if inb p1 8 = true then (if (z0.2 7 p1.toNatClampNeg) = (1 : Int32) then j_X7_would_38 z0 p1 p2 p3  else (if inb p1 8 = true then (if (z0.2 5 p1.toNatClampNeg) = (4 : Int32) then j_X7_would_38 z0 p1 p2 p3  else (if inb p1 8 = true then (if ((10 : Int32) * p2) < (p3 * ((10 : Int32) + (z0.2 9 p1.toNatClampNeg))) then some (0 : Int32) else j_X7_would_38 z0 p1 p2 p3 ) else none)) else none)) else none)
abbrev rm_X7_would : Room := { frames := 0, cells := 0, slots := 0, locals := 0 }
theorem hd_X7_would : yX7_would.cls ≠ "java/lang/invoke/MethodHandle" ∧ yX7_would.cls ≠ "java/lang/invoke/VarHandle" ∧ (parseMethodDescriptor yX7_would.desc).map (fun d => d.parameters.length) = some 3 := by decide +kernel
theorem in_X7_would_X7 : ∀ w ∈ wsX70, w ∈ wsX7_would := fun w h => List.mem_cons_of_mem _ (List.mem_append_right _ h)
set_option maxHeartbeats 4000000 in
set_option maxRecDepth 100000 in
theorem c_X7_would (l : Launch) (D : va_G) (ty : TY) (h0 : Nat) (a0 : Nat → Nat) (z0 : Ob) (p1 : Int32) (p2 : Int32) (p3 : Int32) (o0 : Int32) (hf : f_X7_would z0 p1 p2 p3 = some o0) (sz : Nat) : CX l yX7_would wsX7_would rm_X7_would ([.ref h0, .int p1, .int p2, .int p3] : List Value) D ty (fl [oX7 ty h0 a0 z0]) sz (qI D o0 (fl [oX7 ty h0 a0 z0])) 0 0 := by
  refine CX_of (cc := cX7_would) (maxL := 4) (ret := (some .boolean)) (C := RX7) (by decide) rfl rfl (Nat.le_of_ble_eq_true rfl) ?_
  intro p e s m below meth c A ls F hr hlk _ hK hP hD hS hA hl
  have hx := F.1
  have hb := F.2.1
  replace hl : lv_has ls 4 [(0, .ref h0), (1, .int p1), (2, .int p2), (3, .int p3)] := hl
  unfold f_X7_would at hf
  have J_38 : ∀  (H : Heap) (locs : List Loc) (ls : Array Slot), va_P D vwC (fl [oX7 ty h0 a0 z0]) H → va_D A (fl [oX7 ty h0 a0 z0]) → va_S A s.heap H locs → lv_has ls 4 [] → j_X7_would_38 z0 p1 p2 p3  = some o0 → W p l e rm_X7_would s m ([.ref h0, .int p1, .int p2, .int p3] : List Value).toArray below meth c H locs 0 0 (MQ below (qI D o0 (fl [oX7 ty h0 a0 z0]) A) ([.ref h0, .int p1, .int p2, .int p3] : List Value).toArray s 0 0 A) (F0 m 38 ls []) := by
    intro  H locs ls hP hD hS hl hf
    unfold j_X7_would_38 at hf
    refine lv_iconst (v := (1 : Int32)) hx hb dX7_would_38 (by decide) ?_
    refine lv_goto (tgt := 43) hx hb dX7_would_39 (by decide) ?_
    obtain hf := hf
    have e0 := Option.some.inj hf
    exact CX_z F hr hlk hP hD hS narrow_b1 e0 dX7_would_43
  refine lv_aload_n hx hb dX7_would_0 rfl (lv_at hl 0 rfl) ?_
  refine va_get (D := D) (ci := 7) (C := RX7) (T := TX7) (N := 40) hx hb F.2.2.2.2 in_X7_would_X7 F.2.2.2.1 hK.1 hP 0 rfl rfl 7 (Nat.le_of_ble_eq_true rfl) (F.2.2.2.2 (.fieldLink RX7 19 "LouderRoomModel" "people" "[I") (List.mem_of_getElem? (i := 1) rfl)) (fun _ h9 => h9) rfl dX7_would_1 ?_
  refine lv_iload_n hx hb dX7_would_4 rfl (lv_at hl 1 rfl) ?_
  obtain ⟨hi, hf⟩ := grd hf
  refine va_iald hx hb hK.1 hP 4 0 rfl rfl (inb_in hi) dX7_would_5 ?_
  refine lv_iconst (v := (1 : Int32)) hx hb dX7_would_6 (by decide) ?_
  refine lv_icmp_eq (tgt := 38) hx hb dX7_would_7 (by decide) (fun hc => ?_) (fun hc => ?_)
  · replace hf := ite_t hf hc
    exact J_38 _ _ _ hP hD hS (lv_sub hl [] rfl) hf
  · replace hf := ite_f hf hc
    refine lv_aload_n hx hb dX7_would_10 rfl (lv_at hl 0 rfl) ?_
    refine va_get (D := D) (ci := 7) (C := RX7) (T := TX7) (N := 40) hx hb F.2.2.2.2 in_X7_would_X7 F.2.2.2.1 hK.1 hP 0 rfl rfl 5 (Nat.le_of_ble_eq_true rfl) (F.2.2.2.2 (.fieldLink RX7 13 "LouderRoomModel" "kind" "[I") (List.mem_of_getElem? (i := 2) rfl)) (fun _ h9 => h9) rfl dX7_would_11 ?_
    refine lv_iload_n hx hb dX7_would_14 rfl (lv_at hl 1 rfl) ?_
    obtain ⟨hi, hf⟩ := grd hf
    refine va_iald hx hb hK.1 hP 2 0 rfl rfl (inb_in hi) dX7_would_15 ?_
    refine lv_iconst (v := (4 : Int32)) hx hb dX7_would_16 (by decide) ?_
    refine lv_icmp_eq (tgt := 38) hx hb dX7_would_17 (by decide) (fun hc => ?_) (fun hc => ?_)
    · replace hf := ite_t hf hc
      exact J_38 _ _ _ hP hD hS (lv_sub hl [] rfl) hf
    · replace hf := ite_f hf hc
      refine lv_bipush (v := (10 : Int32)) hx hb dX7_would_20 (by decide) ?_
      refine lv_iload_n hx hb dX7_would_22 rfl (lv_at hl 2 rfl) ?_
      refine lv_imul hx hb dX7_would_23 ?_
      refine lv_iload_n hx hb dX7_would_24 rfl (lv_at hl 3 rfl) ?_
      refine lv_bipush (v := (10 : Int32)) hx hb dX7_would_25 (by decide) ?_
      refine lv_aload_n hx hb dX7_would_27 rfl (lv_at hl 0 rfl) ?_
      refine va_get (D := D) (ci := 7) (C := RX7) (T := TX7) (N := 40) hx hb F.2.2.2.2 in_X7_would_X7 F.2.2.2.1 hK.1 hP 0 rfl rfl 9 (Nat.le_of_ble_eq_true rfl) (F.2.2.2.2 (.fieldLink RX7 25 "LouderRoomModel" "age" "[I") (List.mem_of_getElem? (i := 3) rfl)) (fun _ h9 => h9) rfl dX7_would_28 ?_
      refine lv_iload_n hx hb dX7_would_31 rfl (lv_at hl 1 rfl) ?_
      obtain ⟨hi, hf⟩ := grd hf
      refine va_iald hx hb hK.1 hP 6 0 rfl rfl (inb_in hi) dX7_would_32 ?_
      refine lv_iadd hx hb dX7_would_33 ?_
      refine lv_imul hx hb dX7_would_34 ?_
      refine lv_icmp_lt (tgt := 42) hx hb dX7_would_35 (by decide) (fun hc => ?_) (fun hc => ?_)
      · replace hf := ite_t hf hc
        refine lv_iconst (v := (0 : Int32)) hx hb dX7_would_42 (by decide) ?_
        obtain hf := hf
        have e0 := Option.some.inj hf
        exact CX_z F hr hlk hP hD hS narrow_b0 e0 dX7_would_43
      · replace hf := ite_f hf hc
        exact J_38 _ _ _ hP hD hS (lv_sub hl [] rfl) hf
def f_X7_hears (z0 : Ob) (p1 : Int32) : Option (Int32) := (f_X7_loudOf z0 p1).bind (fun v1 => (f_X7_soundOf z0 p1 v1).bind (fun v2 => (if inb p1 8 = true then (f_X7_noiseAt z0 (z0.2 6 p1.toNatClampNeg)).bind (fun v3 => (f_X7_would z0 p1 v2 v3).bind (fun v4 => (if isb v4 = true then some v4 else none))) else none)))
abbrev rm_X7_hears : Room := { frames := 5, cells := 0, slots := 0, locals := 107 }
theorem hd_X7_hears : yX7_hears.cls ≠ "java/lang/invoke/MethodHandle" ∧ yX7_hears.cls ≠ "java/lang/invoke/VarHandle" ∧ (parseMethodDescriptor yX7_hears.desc).map (fun d => d.parameters.length) = some 1 := by decide +kernel
theorem in_X7_hears_X7 : ∀ w ∈ wsX70, w ∈ wsX7_hears := fun w h => List.mem_cons_of_mem _ (List.mem_append_right _ h)
set_option maxHeartbeats 4000000 in
set_option maxRecDepth 100000 in
theorem c_X7_hears (l : Launch) (D : va_G) (ty : TY) (h0 : Nat) (a0 : Nat → Nat) (z0 : Ob) (p1 : Int32) (o0 : Int32) (hf : f_X7_hears z0 p1 = some o0) (sz : Nat) : CX l yX7_hears wsX7_hears rm_X7_hears ([.ref h0, .int p1] : List Value) D ty (fl [oX7 ty h0 a0 z0]) sz (qI D o0 (fl [oX7 ty h0 a0 z0])) 0 0 := by
  refine CX_of (cc := cX7_hears) (maxL := 2) (ret := (some .boolean)) (C := RX7) (by decide) rfl rfl (Nat.le_of_ble_eq_true rfl) ?_
  intro p e s m below meth c A ls F hr hlk _ hK hP hD hS hA hl
  have hx := F.1
  have hb := F.2.1
  replace hl : lv_has ls 2 [(0, .ref h0), (1, .int p1)] := hl
  unfold f_X7_hears at hf
  refine lv_aload_n hx hb dX7_hears_0 rfl (lv_at hl 0 rfl) ?_
  refine lv_iload_n hx hb dX7_hears_1 rfl (lv_at hl 1 rfl) ?_
  refine lv_aload_n hx hb dX7_hears_2 rfl (lv_at hl 0 rfl) ?_
  refine lv_iload_n hx hb dX7_hears_3 rfl (lv_at hl 1 rfl) ?_
  refine lv_aload_n hx hb dX7_hears_4 rfl (lv_at hl 0 rfl) ?_
  refine lv_iload_n hx hb dX7_hears_5 rfl (lv_at hl 1 rfl) ?_
  obtain ⟨v1, hv, hf⟩ := obd hf
  have hp1 : List.Perm [oX7 ty h0 a0 z0] ([oX7 ty h0 a0 z0] ++ []) := (List.Perm.refl _)
  refine ci_call (out := v1) (os := [oX7 ty h0 a0 z0]) (oc := [oX7 ty h0 a0 z0]) (oc' := [oX7 ty h0 a0 z0]) (or_ := []) (os' := [oX7 ty h0 a0 z0]) (va_runV (As := [.int p1]) (rest := [.int p1, .ref h0, .int p1, .ref h0]) F (c_X7_loudOf l D ty h0 a0 _ _ _ hv _) (cwV 1 F.2.2.2.2 gX7_hears_X7_loudOf rfl rfl rfl ⟨rfl, hd_X7_loudOf⟩ ⟨Nat.le_of_ble_eq_true rfl, Nat.le_of_ble_eq_true rfl⟩) (pre_v hK hP hD hp1 rfl rfl rfl) rfl rfl hl.1 rfl (lv_room (Nat.le_of_ble_eq_true rfl)) dX7_hears_6 ⟨Nat.zero_le _, Nat.zero_le _⟩) hp1 (List.Perm.refl _) hP hD hS hA (fun H locs hP hD hS => ?_)
  clear hp1 hv
  obtain ⟨v2, hv, hf⟩ := obd hf
  have hp1 : List.Perm [oX7 ty h0 a0 z0] ([oX7 ty h0 a0 z0] ++ []) := (List.Perm.refl _)
  refine ci_call (out := v2) (os := [oX7 ty h0 a0 z0]) (oc := [oX7 ty h0 a0 z0]) (oc' := [oX7 ty h0 a0 z0]) (or_ := []) (os' := [oX7 ty h0 a0 z0]) (va_runV (As := [.int p1, .int v1]) (rest := [.int p1, .ref h0]) F (c_X7_soundOf l D ty h0 a0 _ _ _ _ hv _) (cwV 2 F.2.2.2.2 gX7_hears_X7_soundOf rfl rfl rfl ⟨rfl, hd_X7_soundOf⟩ ⟨Nat.le_of_ble_eq_true rfl, Nat.le_of_ble_eq_true rfl⟩) (pre_v hK hP hD hp1 rfl rfl rfl) rfl rfl hl.1 rfl (lv_room (Nat.le_of_ble_eq_true rfl)) dX7_hears_9 ⟨Nat.zero_le _, Nat.zero_le _⟩) hp1 (List.Perm.refl _) hP hD hS hA (fun H locs hP hD hS => ?_)
  clear hp1 hv
  refine lv_aload_n hx hb dX7_hears_12 rfl (lv_at hl 0 rfl) ?_
  refine lv_aload_n hx hb dX7_hears_13 rfl (lv_at hl 0 rfl) ?_
  refine va_get (D := D) (ci := 7) (C := RX7) (T := TX7) (N := 40) hx hb F.2.2.2.2 in_X7_hears_X7 F.2.2.2.1 hK.1 hP 0 rfl rfl 6 (Nat.le_of_ble_eq_true rfl) (F.2.2.2.2 (.fieldLink RX7 16 "LouderRoomModel" "cell" "[I") (List.mem_of_getElem? (i := 1) rfl)) (fun _ h9 => h9) rfl dX7_hears_14 ?_
  refine lv_iload_n hx hb dX7_hears_17 rfl (lv_at hl 1 rfl) ?_
  obtain ⟨hi, hf⟩ := grd hf
  refine va_iald hx hb hK.1 hP 3 0 rfl rfl (inb_in hi) dX7_hears_18 ?_
  obtain ⟨v3, hv, hf⟩ := obd hf
  have hp1 : List.Perm [oX7 ty h0 a0 z0] ([oX7 ty h0 a0 z0] ++ []) := (List.Perm.refl _)
  refine ci_call (out := v3) (os := [oX7 ty h0 a0 z0]) (oc := [oX7 ty h0 a0 z0]) (oc' := [oX7 ty h0 a0 z0]) (or_ := []) (os' := [oX7 ty h0 a0 z0]) (va_runV (As := [.int (z0.2 6 p1.toNatClampNeg)]) (rest := [.int v2, .int p1, .ref h0]) F (c_X7_noiseAt l D ty h0 a0 _ _ _ hv _) (cwV 1 F.2.2.2.2 gX7_hears_X7_noiseAt rfl rfl rfl ⟨rfl, hd_X7_noiseAt⟩ ⟨Nat.le_of_ble_eq_true rfl, Nat.le_of_ble_eq_true rfl⟩) (pre_v hK hP hD hp1 rfl rfl rfl) rfl rfl hl.1 rfl (lv_room (Nat.le_of_ble_eq_true rfl)) dX7_hears_19 ⟨Nat.zero_le _, Nat.zero_le _⟩) hp1 (List.Perm.refl _) hP hD hS hA (fun H locs hP hD hS => ?_)
  clear hp1 hv
  obtain ⟨v4, hv, hf⟩ := obd hf
  have hp1 : List.Perm [oX7 ty h0 a0 z0] ([oX7 ty h0 a0 z0] ++ []) := (List.Perm.refl _)
  refine ci_call (out := v4) (os := [oX7 ty h0 a0 z0]) (oc := [oX7 ty h0 a0 z0]) (oc' := [oX7 ty h0 a0 z0]) (or_ := []) (os' := [oX7 ty h0 a0 z0]) (va_runV (As := [.int p1, .int v2, .int v3]) (rest := []) F (c_X7_would l D ty h0 a0 _ _ _ _ _ hv _) (cwV 3 F.2.2.2.2 gX7_hears_X7_would rfl rfl rfl ⟨rfl, hd_X7_would⟩ ⟨Nat.le_of_ble_eq_true rfl, Nat.le_of_ble_eq_true rfl⟩) (pre_v hK hP hD hp1 rfl rfl rfl) rfl rfl hl.1 rfl (lv_room (Nat.le_of_ble_eq_true rfl)) dX7_hears_22 ⟨Nat.zero_le _, Nat.zero_le _⟩) hp1 (List.Perm.refl _) hP hD hS hA (fun H locs hP hD hS => ?_)
  clear hp1 hv
  obtain ⟨hz, hf⟩ := grd hf
  obtain hf := hf
  have e0 := Option.some.inj hf
  exact CX_z F hr hlk hP hD hS (isb_n hz) e0 dX7_hears_25
def b_X7_allHear_4 (z0 : Ob) (r_4 : Int32 → Int32 → Option (Int32)) (y1 : Int32) (y2 : Int32) : Option (Int32) := (if (z0.1 32) ≤ y2 then (if isb y1 = true then some y1 else none) else (if y1 = 0 then (if isb y1 = true then some y1 else none) else (f_X7_hears z0 y2).bind (fun v1 => bnd (y2 + (1 : Int32)) (fun x2 => r_4 v1 x2))))
def f_X7_allHear (z0 : Ob) : Option (Int32) := fuel2 (b_X7_allHear_4 z0) FU (1 : Int32) (0 : Int32)
abbrev rm_X7_allHear : Room := { frames := 6, cells := 0, slots := 0, locals := 128 }
theorem hd_X7_allHear : yX7_allHear.cls ≠ "java/lang/invoke/MethodHandle" ∧ yX7_allHear.cls ≠ "java/lang/invoke/VarHandle" ∧ (parseMethodDescriptor yX7_allHear.desc).map (fun d => d.parameters.length) = some 0 := by decide +kernel
theorem in_X7_allHear_X7 : ∀ w ∈ wsX70, w ∈ wsX7_allHear := fun w h => List.mem_cons_of_mem _ (List.mem_append_right _ h)
set_option maxHeartbeats 4000000 in
set_option maxRecDepth 100000 in
theorem c_X7_allHear (l : Launch) (D : va_G) (ty : TY) (h0 : Nat) (a0 : Nat → Nat) (z0 : Ob) (o0 : Int32) (hf : f_X7_allHear z0 = some o0) (sz : Nat) : CX l yX7_allHear wsX7_allHear rm_X7_allHear ([.ref h0] : List Value) D ty (fl [oX7 ty h0 a0 z0]) sz (qI D o0 (fl [oX7 ty h0 a0 z0])) 0 0 := by
  refine CX_of (cc := cX7_allHear) (maxL := 3) (ret := (some .boolean)) (C := RX7) (by decide) rfl rfl (Nat.le_of_ble_eq_true rfl) ?_
  intro p e s m below meth c A ls F hr hlk _ hK hP hD hS hA hl
  have hx := F.1
  have hb := F.2.1
  replace hl : lv_has ls 3 [(0, .ref h0)] := hl
  unfold f_X7_allHear at hf
  refine lv_iconst (v := (1 : Int32)) hx hb dX7_allHear_0 (by decide) ?_
  refine lv_istore_n (lv' := [(1, .int (1 : Int32)), (0, .ref h0)]) hx hb dX7_allHear_1 rfl hl (by decide) rfl (fun ls hl => ?_)
  refine lv_iconst (v := (0 : Int32)) hx hb dX7_allHear_2 (by decide) ?_
  refine lv_istore_n (lv' := [(2, .int (0 : Int32)), (1, .int (1 : Int32)), (0, .ref h0)]) hx hb dX7_allHear_3 rfl hl (by decide) rfl (fun ls hl => ?_)
  have L_4 : ∀ (n : Nat) (y1 : Int32) (y2 : Int32) (H : Heap) (locs : List Loc) (ls : Array Slot), va_P D vwC (fl [oX7 ty h0 a0 z0]) H → va_D A (fl [oX7 ty h0 a0 z0]) → va_S A s.heap H locs → lv_has ls 3 [(0, .ref h0), (1, .int y1), (2, .int y2)] → fuel2 (b_X7_allHear_4 z0) n y1 y2 = some o0 → W p l e rm_X7_allHear s m ([.ref h0] : List Value).toArray below meth c H locs 0 0 (MQ below (qI D o0 (fl [oX7 ty h0 a0 z0]) A) ([.ref h0] : List Value).toArray s 0 0 A) (F0 m 4 ls []) := by
    intro n
    induction n with
    | zero => intro y1 y2 H locs ls hP hD hS hl hf; cases hf
    | succ n ih_4 =>
      intro y1 y2 H locs ls hP hD hS hl hf
      replace hf : b_X7_allHear_4 z0 (fuel2 (b_X7_allHear_4 z0) n) y1 y2 = some o0 := hf
      generalize fuel2 (b_X7_allHear_4 z0) n = r_4 at ih_4 hf
      unfold b_X7_allHear_4 at hf
      refine lv_iload_n hx hb dX7_allHear_4 rfl (lv_at hl 2 rfl) ?_
      refine lv_aload_n hx hb dX7_allHear_5 rfl (lv_at hl 0 rfl) ?_
      refine va_get (D := D) (ci := 7) (C := RX7) (T := TX7) (N := 40) hx hb F.2.2.2.2 in_X7_allHear_X7 F.2.2.2.1 hK.1 hP 0 rfl rfl 32 (Nat.le_of_ble_eq_true rfl) (F.2.2.2.2 (.fieldLink RX7 141 "LouderRoomModel" "many" "I") (List.mem_of_getElem? (i := 1) rfl)) (fun _ h9 => h9) rfl dX7_allHear_6 ?_
      refine lv_icmp_ge (tgt := 28) hx hb dX7_allHear_9 (by decide) (fun hc => ?_) (fun hc => ?_)
      · replace hf := ite_t hf hc
        refine lv_iload_n hx hb dX7_allHear_28 rfl (lv_at hl 1 rfl) ?_
        obtain ⟨hz, hf⟩ := grd hf
        obtain hf := hf
        have e0 := Option.some.inj hf
        exact CX_z F hr hlk hP hD hS (isb_n hz) e0 dX7_allHear_29
      · replace hf := ite_f hf hc
        refine lv_iload_n hx hb dX7_allHear_12 rfl (lv_at hl 1 rfl) ?_
        refine lv_if_eq (tgt := 28) hx hb dX7_allHear_13 (by decide) (fun hc => ?_) (fun hc => ?_)
        · replace hf := ite_t hf hc
          refine lv_iload_n hx hb dX7_allHear_28 rfl (lv_at hl 1 rfl) ?_
          obtain ⟨hz, hf⟩ := grd hf
          obtain hf := hf
          have e0 := Option.some.inj hf
          exact CX_z F hr hlk hP hD hS (isb_n hz) e0 dX7_allHear_29
        · replace hf := ite_f hf hc
          refine lv_aload_n hx hb dX7_allHear_16 rfl (lv_at hl 0 rfl) ?_
          refine lv_iload_n hx hb dX7_allHear_17 rfl (lv_at hl 2 rfl) ?_
          obtain ⟨v1, hv, hf⟩ := obd hf
          have hp1 : List.Perm [oX7 ty h0 a0 z0] ([oX7 ty h0 a0 z0] ++ []) := (List.Perm.refl _)
          refine ci_call (out := v1) (os := [oX7 ty h0 a0 z0]) (oc := [oX7 ty h0 a0 z0]) (oc' := [oX7 ty h0 a0 z0]) (or_ := []) (os' := [oX7 ty h0 a0 z0]) (va_runV (As := [.int y2]) (rest := []) F (c_X7_hears l D ty h0 a0 _ _ _ hv _) (cwV 1 F.2.2.2.2 gX7_allHear_X7_hears rfl rfl rfl ⟨rfl, hd_X7_hears⟩ ⟨Nat.le_of_ble_eq_true rfl, Nat.le_of_ble_eq_true rfl⟩) (pre_v hK hP hD hp1 rfl rfl rfl) rfl rfl hl.1 rfl (lv_room (Nat.le_of_ble_eq_true rfl)) dX7_allHear_18 ⟨Nat.zero_le _, Nat.zero_le _⟩) hp1 (List.Perm.refl _) hP hD hS hA (fun H locs hP hD hS => ?_)
          clear hp1 hv
          refine lv_istore_n (lv' := [(1, .int v1), (0, .ref h0), (2, .int y2)]) hx hb dX7_allHear_21 rfl hl (by decide) rfl (fun ls hl => ?_)
          obtain ⟨x2, ex⟩ : ∃ y : Int32, y = (y2 + (1 : Int32)) := ⟨_, rfl⟩
          replace hf := bnd_at hf ex
          refine lv_iinc (v := x2) (lv' := [(2, .int x2), (1, .int v1), (0, .ref h0)]) hx hb dX7_allHear_22 hl (k := 2) rfl (by rw [ex]; rfl) (by decide) rfl (fun ls hl => ?_)
          clear ex
          refine lv_goto (tgt := 4) hx hb dX7_allHear_25 (by decide) ?_
          exact ih_4 v1 x2 _ _ _ hP hD hS (lv_sub hl [2, 1, 0] rfl) hf
  exact L_4 FU (1 : Int32) (0 : Int32) _ _ _ hP hD hS (lv_sub hl [2, 1, 0] rfl) hf
def j_X7_voiceThen_20 (z0 : Ob) (p1 : Int32)  : Option (Int32) := (if inb p1 8 = true then some (z0.2 29 p1.toNatClampNeg) else none)
def j_X7_voiceThen_180 (z0 : Ob) (p1 : Int32) (t0 : Int32) : Option (Int32) := (if t0 = 0 then (if inb p1 8 = true then some (z0.2 29 p1.toNatClampNeg) else none) else (if inb p1 8 = true then some ((z0.2 29 p1.toNatClampNeg) - (1 : Int32)) else none))
def j_X7_voiceThen_179 (z0 : Ob) (p1 : Int32)  : Option (Int32) := j_X7_voiceThen_180 z0 p1 (0 : Int32)
def j_X7_voiceThen_109 (z0 : Ob) (p1 : Int32) (y4 : Int32) (t0 : Int32) (t1 : Int32) : Option (Int32) := bnd (t1 + t0) (fun x1 => (if y4 = 0 then (if x1 ≤ (9 : Int32) then some x1 else some (9 : Int32)) else (if inb p1 8 = true then some (z0.2 29 p1.toNatClampNeg) else none)))
def j_X7_voiceThen_86 (z0 : Ob) (p1 : Int32) (t0 : Int32) : Option (Int32) := (if inb p1 8 = true then (if inb p1 8 = true then (if (z0.2 5 p1.toNatClampNeg) = (2 : Int32) then j_X7_voiceThen_109 z0 p1 t0 (2 : Int32) (z0.2 29 p1.toNatClampNeg) else j_X7_voiceThen_109 z0 p1 t0 (1 : Int32) (z0.2 29 p1.toNatClampNeg)) else none) else none)
def j_X7_voiceThen_85 (z0 : Ob) (p1 : Int32)  : Option (Int32) := j_X7_voiceThen_86 z0 p1 (0 : Int32)
def f_X7_voiceThen (z0 : Ob) (p1 : Int32) : Option (Int32) := (if inb p1 8 = true then (if (z0.2 7 p1.toNatClampNeg) = (1 : Int32) then j_X7_voiceThen_20 z0 p1  else (if inb p1 8 = true then (if (z0.2 5 p1.toNatClampNeg) = (4 : Int32) then j_X7_voiceThen_20 z0 p1  else (if inb p1 8 = true then (f_X7_noiseAt z0 (z0.2 6 p1.toNatClampNeg)).bind (fun v2 => (f_X7_loudOf z0 p1).bind (fun v3 => (f_X7_soundOf z0 p1 v3).bind (fun v4 => (f_X7_would z0 p1 v4 v2).bind (fun v5 => (if v5 = 0 then (if inb p1 8 = true then (if (z0.2 5 p1.toNatClampNeg) = (1 : Int32) then (f_X7_would z0 p1 ((2 : Int32) * v4) v2).bind (fun v8 => (if v8 = 0 then j_X7_voiceThen_85 z0 p1  else j_X7_voiceThen_86 z0 p1 (1 : Int32))) else j_X7_voiceThen_85 z0 p1 ) else none) else (if inb p1 8 = true then (if (z0.2 29 p1.toNatClampNeg) ≤ (1 : Int32) then j_X7_voiceThen_179 z0 p1  else (if inb p1 8 = true then (f_X7_soundOf z0 p1 ((1 : Int32) <<< (((z0.2 29 p1.toNatClampNeg) - (1 : Int32)) &&& 31))).bind (fun v6 => (f_X7_would z0 p1 v6 v2).bind (fun v7 => (if v7 = 0 then j_X7_voiceThen_179 z0 p1  else j_X7_voiceThen_180 z0 p1 (1 : Int32)))) else none)) else none)))))) else none)) else none)) else none)
abbrev rm_X7_voiceThen : Room := { frames := 5, cells := 0, slots := 0, locals := 107 }
theorem hd_X7_voiceThen : yX7_voiceThen.cls ≠ "java/lang/invoke/MethodHandle" ∧ yX7_voiceThen.cls ≠ "java/lang/invoke/VarHandle" ∧ (parseMethodDescriptor yX7_voiceThen.desc).map (fun d => d.parameters.length) = some 1 := by decide +kernel
theorem in_X7_voiceThen_X7 : ∀ w ∈ wsX70, w ∈ wsX7_voiceThen := fun w h => List.mem_cons_of_mem _ (List.mem_append_right _ h)
set_option maxHeartbeats 4000000 in
set_option maxRecDepth 100000 in
theorem c_X7_voiceThen (l : Launch) (D : va_G) (ty : TY) (h0 : Nat) (a0 : Nat → Nat) (z0 : Ob) (p1 : Int32) (o0 : Int32) (hf : f_X7_voiceThen z0 p1 = some o0) (sz : Nat) : CX l yX7_voiceThen wsX7_voiceThen rm_X7_voiceThen ([.ref h0, .int p1] : List Value) D ty (fl [oX7 ty h0 a0 z0]) sz (qI D o0 (fl [oX7 ty h0 a0 z0])) 0 0 := by
  refine CX_of (cc := cX7_voiceThen) (maxL := 6) (ret := (some .int)) (C := RX7) (by decide) rfl rfl (Nat.le_of_ble_eq_true rfl) ?_
  intro p e s m below meth c A ls F hr hlk _ hK hP hD hS hA hl
  have hx := F.1
  have hb := F.2.1
  replace hl : lv_has ls 6 [(0, .ref h0), (1, .int p1)] := hl
  unfold f_X7_voiceThen at hf
  have J_20 : ∀  (H : Heap) (locs : List Loc) (ls : Array Slot), va_P D vwC (fl [oX7 ty h0 a0 z0]) H → va_D A (fl [oX7 ty h0 a0 z0]) → va_S A s.heap H locs → lv_has ls 6 [(0, .ref h0), (1, .int p1)] → j_X7_voiceThen_20 z0 p1  = some o0 → W p l e rm_X7_voiceThen s m ([.ref h0, .int p1] : List Value).toArray below meth c H locs 0 0 (MQ below (qI D o0 (fl [oX7 ty h0 a0 z0]) A) ([.ref h0, .int p1] : List Value).toArray s 0 0 A) (F0 m 20 ls []) := by
    intro  H locs ls hP hD hS hl hf
    unfold j_X7_voiceThen_20 at hf
    refine lv_aload_n hx hb dX7_voiceThen_20 rfl (lv_at hl 0 rfl) ?_
    refine va_get (D := D) (ci := 7) (C := RX7) (T := TX7) (N := 40) hx hb F.2.2.2.2 in_X7_voiceThen_X7 F.2.2.2.1 hK.1 hP 0 rfl rfl 29 (Nat.le_of_ble_eq_true rfl) (F.2.2.2.2 (.fieldLink RX7 56 "LouderRoomModel" "v" "[I") (List.mem_of_getElem? (i := 3) rfl)) (fun _ h9 => h9) rfl dX7_voiceThen_21 ?_
    refine lv_iload_n hx hb dX7_voiceThen_24 rfl (lv_at hl 1 rfl) ?_
    obtain ⟨hi, hf⟩ := grd hf
    refine va_iald hx hb hK.1 hP 16 0 rfl rfl (inb_in hi) dX7_voiceThen_25 ?_
    obtain hf := hf
    have e0 := Option.some.inj hf
    exact CX_i F hr hlk hP hD hS e0 dX7_voiceThen_26
  have J_180 : ∀ (t0 : Int32) (H : Heap) (locs : List Loc) (ls : Array Slot), va_P D vwC (fl [oX7 ty h0 a0 z0]) H → va_D A (fl [oX7 ty h0 a0 z0]) → va_S A s.heap H locs → lv_has ls 6 [(0, .ref h0), (1, .int p1)] → j_X7_voiceThen_180 z0 p1 t0 = some o0 → W p l e rm_X7_voiceThen s m ([.ref h0, .int p1] : List Value).toArray below meth c H locs 0 0 (MQ below (qI D o0 (fl [oX7 ty h0 a0 z0]) A) ([.ref h0, .int p1] : List Value).toArray s 0 0 A) (F0 m 180 ls [.int t0]) := by
    intro t0 H locs ls hP hD hS hl hf
    unfold j_X7_voiceThen_180 at hf
    refine lv_istore (lv' := [(4, .int t0), (0, .ref h0), (1, .int p1)]) hx hb dX7_voiceThen_180 hl (by decide) rfl (fun ls hl => ?_)
    refine lv_iload hx hb dX7_voiceThen_182 (lv_at hl 0 rfl) ?_
    refine lv_if_eq (tgt := 198) hx hb dX7_voiceThen_184 (by decide) (fun hc => ?_) (fun hc => ?_)
    · replace hf := ite_t hf hc
      refine lv_aload_n hx hb dX7_voiceThen_198 rfl (lv_at hl 1 rfl) ?_
      refine va_get (D := D) (ci := 7) (C := RX7) (T := TX7) (N := 40) hx hb F.2.2.2.2 in_X7_voiceThen_X7 F.2.2.2.1 hK.1 hP 0 rfl rfl 29 (Nat.le_of_ble_eq_true rfl) (F.2.2.2.2 (.fieldLink RX7 56 "LouderRoomModel" "v" "[I") (List.mem_of_getElem? (i := 3) rfl)) (fun _ h9 => h9) rfl dX7_voiceThen_199 ?_
      refine lv_iload_n hx hb dX7_voiceThen_202 rfl (lv_at hl 2 rfl) ?_
      obtain ⟨hi, hf⟩ := grd hf
      refine va_iald hx hb hK.1 hP 16 0 rfl rfl (inb_in hi) dX7_voiceThen_203 ?_
      obtain hf := hf
      have e0 := Option.some.inj hf
      exact CX_i F hr hlk hP hD hS e0 dX7_voiceThen_204
    · replace hf := ite_f hf hc
      refine lv_aload_n hx hb dX7_voiceThen_187 rfl (lv_at hl 1 rfl) ?_
      refine va_get (D := D) (ci := 7) (C := RX7) (T := TX7) (N := 40) hx hb F.2.2.2.2 in_X7_voiceThen_X7 F.2.2.2.1 hK.1 hP 0 rfl rfl 29 (Nat.le_of_ble_eq_true rfl) (F.2.2.2.2 (.fieldLink RX7 56 "LouderRoomModel" "v" "[I") (List.mem_of_getElem? (i := 3) rfl)) (fun _ h9 => h9) rfl dX7_voiceThen_188 ?_
      refine lv_iload_n hx hb dX7_voiceThen_191 rfl (lv_at hl 2 rfl) ?_
      obtain ⟨hi, hf⟩ := grd hf
      refine va_iald hx hb hK.1 hP 16 0 rfl rfl (inb_in hi) dX7_voiceThen_192 ?_
      refine lv_iconst (v := (1 : Int32)) hx hb dX7_voiceThen_193 (by decide) ?_
      refine lv_isub hx hb dX7_voiceThen_194 ?_
      refine lv_goto (tgt := 204) hx hb dX7_voiceThen_195 (by decide) ?_
      obtain hf := hf
      have e0 := Option.some.inj hf
      exact CX_i F hr hlk hP hD hS e0 dX7_voiceThen_204
  have J_179 : ∀  (H : Heap) (locs : List Loc) (ls : Array Slot), va_P D vwC (fl [oX7 ty h0 a0 z0]) H → va_D A (fl [oX7 ty h0 a0 z0]) → va_S A s.heap H locs → lv_has ls 6 [(0, .ref h0), (1, .int p1)] → j_X7_voiceThen_179 z0 p1  = some o0 → W p l e rm_X7_voiceThen s m ([.ref h0, .int p1] : List Value).toArray below meth c H locs 0 0 (MQ below (qI D o0 (fl [oX7 ty h0 a0 z0]) A) ([.ref h0, .int p1] : List Value).toArray s 0 0 A) (F0 m 179 ls []) := by
    intro  H locs ls hP hD hS hl hf
    unfold j_X7_voiceThen_179 at hf
    refine lv_iconst (v := (0 : Int32)) hx hb dX7_voiceThen_179 (by decide) ?_
    exact J_180 (0 : Int32) _ _ _ hP hD hS (lv_sub hl [0, 1] rfl) hf
  have J_109 : ∀ (y4 : Int32) (t0 : Int32) (t1 : Int32) (H : Heap) (locs : List Loc) (ls : Array Slot), va_P D vwC (fl [oX7 ty h0 a0 z0]) H → va_D A (fl [oX7 ty h0 a0 z0]) → va_S A s.heap H locs → lv_has ls 6 [(0, .ref h0), (1, .int p1), (4, .int y4)] → j_X7_voiceThen_109 z0 p1 y4 t0 t1 = some o0 → W p l e rm_X7_voiceThen s m ([.ref h0, .int p1] : List Value).toArray below meth c H locs 0 0 (MQ below (qI D o0 (fl [oX7 ty h0 a0 z0]) A) ([.ref h0, .int p1] : List Value).toArray s 0 0 A) (F0 m 109 ls [.int t0, .int t1]) := by
    intro y4 t0 t1 H locs ls hP hD hS hl hf
    unfold j_X7_voiceThen_109 at hf
    refine lv_iadd hx hb dX7_voiceThen_109 ?_
    refine lv_topi (fun x1 ex => ?_)
    replace hf := bnd_at hf ex; clear ex
    refine lv_istore (lv' := [(5, .int x1), (0, .ref h0), (1, .int p1), (4, .int y4)]) hx hb dX7_voiceThen_110 hl (by decide) rfl (fun ls hl => ?_)
    refine lv_iload hx hb dX7_voiceThen_112 (lv_at hl 3 rfl) ?_
    refine lv_if_eq (tgt := 126) hx hb dX7_voiceThen_114 (by decide) (fun hc => ?_) (fun hc => ?_)
    · replace hf := ite_t hf hc
      refine lv_iload hx hb dX7_voiceThen_126 (lv_at hl 0 rfl) ?_
      refine lv_bipush (v := (9 : Int32)) hx hb dX7_voiceThen_128 (by decide) ?_
      refine lv_icmp_le (tgt := 138) hx hb dX7_voiceThen_130 (by decide) (fun hc => ?_) (fun hc => ?_)
      · replace hf := ite_t hf hc
        refine lv_iload hx hb dX7_voiceThen_138 (lv_at hl 0 rfl) ?_
        obtain hf := hf
        have e0 := Option.some.inj hf
        exact CX_i F hr hlk hP hD hS e0 dX7_voiceThen_140
      · replace hf := ite_f hf hc
        refine lv_bipush (v := (9 : Int32)) hx hb dX7_voiceThen_133 (by decide) ?_
        refine lv_goto (tgt := 140) hx hb dX7_voiceThen_135 (by decide) ?_
        obtain hf := hf
        have e0 := Option.some.inj hf
        exact CX_i F hr hlk hP hD hS e0 dX7_voiceThen_140
    · replace hf := ite_f hf hc
      refine lv_aload_n hx hb dX7_voiceThen_117 rfl (lv_at hl 1 rfl) ?_
      refine va_get (D := D) (ci := 7) (C := RX7) (T := TX7) (N := 40) hx hb F.2.2.2.2 in_X7_voiceThen_X7 F.2.2.2.1 hK.1 hP 0 rfl rfl 29 (Nat.le_of_ble_eq_true rfl) (F.2.2.2.2 (.fieldLink RX7 56 "LouderRoomModel" "v" "[I") (List.mem_of_getElem? (i := 3) rfl)) (fun _ h9 => h9) rfl dX7_voiceThen_118 ?_
      refine lv_iload_n hx hb dX7_voiceThen_121 rfl (lv_at hl 2 rfl) ?_
      obtain ⟨hi, hf⟩ := grd hf
      refine va_iald hx hb hK.1 hP 16 0 rfl rfl (inb_in hi) dX7_voiceThen_122 ?_
      refine lv_goto (tgt := 140) hx hb dX7_voiceThen_123 (by decide) ?_
      obtain hf := hf
      have e0 := Option.some.inj hf
      exact CX_i F hr hlk hP hD hS e0 dX7_voiceThen_140
  have J_86 : ∀ (t0 : Int32) (H : Heap) (locs : List Loc) (ls : Array Slot), va_P D vwC (fl [oX7 ty h0 a0 z0]) H → va_D A (fl [oX7 ty h0 a0 z0]) → va_S A s.heap H locs → lv_has ls 6 [(0, .ref h0), (1, .int p1)] → j_X7_voiceThen_86 z0 p1 t0 = some o0 → W p l e rm_X7_voiceThen s m ([.ref h0, .int p1] : List Value).toArray below meth c H locs 0 0 (MQ below (qI D o0 (fl [oX7 ty h0 a0 z0]) A) ([.ref h0, .int p1] : List Value).toArray s 0 0 A) (F0 m 86 ls [.int t0]) := by
    intro t0 H locs ls hP hD hS hl hf
    unfold j_X7_voiceThen_86 at hf
    refine lv_istore (lv' := [(4, .int t0), (0, .ref h0), (1, .int p1)]) hx hb dX7_voiceThen_86 hl (by decide) rfl (fun ls hl => ?_)
    refine lv_aload_n hx hb dX7_voiceThen_88 rfl (lv_at hl 1 rfl) ?_
    refine va_get (D := D) (ci := 7) (C := RX7) (T := TX7) (N := 40) hx hb F.2.2.2.2 in_X7_voiceThen_X7 F.2.2.2.1 hK.1 hP 0 rfl rfl 29 (Nat.le_of_ble_eq_true rfl) (F.2.2.2.2 (.fieldLink RX7 56 "LouderRoomModel" "v" "[I") (List.mem_of_getElem? (i := 3) rfl)) (fun _ h9 => h9) rfl dX7_voiceThen_89 ?_
    refine lv_iload_n hx hb dX7_voiceThen_92 rfl (lv_at hl 2 rfl) ?_
    obtain ⟨hi, hf⟩ := grd hf
    refine va_iald hx hb hK.1 hP 16 0 rfl rfl (inb_in hi) dX7_voiceThen_93 ?_
    refine lv_aload_n hx hb dX7_voiceThen_94 rfl (lv_at hl 1 rfl) ?_
    refine va_get (D := D) (ci := 7) (C := RX7) (T := TX7) (N := 40) hx hb F.2.2.2.2 in_X7_voiceThen_X7 F.2.2.2.1 hK.1 hP 0 rfl rfl 5 (Nat.le_of_ble_eq_true rfl) (F.2.2.2.2 (.fieldLink RX7 13 "LouderRoomModel" "kind" "[I") (List.mem_of_getElem? (i := 2) rfl)) (fun _ h9 => h9) rfl dX7_voiceThen_95 ?_
    refine lv_iload_n hx hb dX7_voiceThen_98 rfl (lv_at hl 2 rfl) ?_
    obtain ⟨hi, hf⟩ := grd hf
    refine va_iald hx hb hK.1 hP 2 0 rfl rfl (inb_in hi) dX7_voiceThen_99 ?_
    refine lv_iconst (v := (2 : Int32)) hx hb dX7_voiceThen_100 (by decide) ?_
    refine lv_icmp_ne (tgt := 108) hx hb dX7_voiceThen_101 (by decide) (fun hc => ?_) (fun hc => ?_)
    · replace hf := ite_f hf hc
      refine lv_iconst (v := (1 : Int32)) hx hb dX7_voiceThen_108 (by decide) ?_
      exact J_109 t0 (1 : Int32) (z0.2 29 p1.toNatClampNeg) _ _ _ hP hD hS (lv_sub hl [1, 2, 0] rfl) hf
    · replace hf := ite_t hf hc
      refine lv_iconst (v := (2 : Int32)) hx hb dX7_voiceThen_104 (by decide) ?_
      refine lv_goto (tgt := 109) hx hb dX7_voiceThen_105 (by decide) ?_
      exact J_109 t0 (2 : Int32) (z0.2 29 p1.toNatClampNeg) _ _ _ hP hD hS (lv_sub hl [1, 2, 0] rfl) hf
  have J_85 : ∀  (H : Heap) (locs : List Loc) (ls : Array Slot), va_P D vwC (fl [oX7 ty h0 a0 z0]) H → va_D A (fl [oX7 ty h0 a0 z0]) → va_S A s.heap H locs → lv_has ls 6 [(0, .ref h0), (1, .int p1)] → j_X7_voiceThen_85 z0 p1  = some o0 → W p l e rm_X7_voiceThen s m ([.ref h0, .int p1] : List Value).toArray below meth c H locs 0 0 (MQ below (qI D o0 (fl [oX7 ty h0 a0 z0]) A) ([.ref h0, .int p1] : List Value).toArray s 0 0 A) (F0 m 85 ls []) := by
    intro  H locs ls hP hD hS hl hf
    unfold j_X7_voiceThen_85 at hf
    refine lv_iconst (v := (0 : Int32)) hx hb dX7_voiceThen_85 (by decide) ?_
    exact J_86 (0 : Int32) _ _ _ hP hD hS (lv_sub hl [0, 1] rfl) hf
  refine lv_aload_n hx hb dX7_voiceThen_0 rfl (lv_at hl 0 rfl) ?_
  refine va_get (D := D) (ci := 7) (C := RX7) (T := TX7) (N := 40) hx hb F.2.2.2.2 in_X7_voiceThen_X7 F.2.2.2.1 hK.1 hP 0 rfl rfl 7 (Nat.le_of_ble_eq_true rfl) (F.2.2.2.2 (.fieldLink RX7 19 "LouderRoomModel" "people" "[I") (List.mem_of_getElem? (i := 1) rfl)) (fun _ h9 => h9) rfl dX7_voiceThen_1 ?_
  refine lv_iload_n hx hb dX7_voiceThen_4 rfl (lv_at hl 1 rfl) ?_
  obtain ⟨hi, hf⟩ := grd hf
  refine va_iald hx hb hK.1 hP 4 0 rfl rfl (inb_in hi) dX7_voiceThen_5 ?_
  refine lv_iconst (v := (1 : Int32)) hx hb dX7_voiceThen_6 (by decide) ?_
  refine lv_icmp_eq (tgt := 20) hx hb dX7_voiceThen_7 (by decide) (fun hc => ?_) (fun hc => ?_)
  · replace hf := ite_t hf hc
    exact J_20 _ _ _ hP hD hS (lv_sub hl [0, 1] rfl) hf
  · replace hf := ite_f hf hc
    refine lv_aload_n hx hb dX7_voiceThen_10 rfl (lv_at hl 0 rfl) ?_
    refine va_get (D := D) (ci := 7) (C := RX7) (T := TX7) (N := 40) hx hb F.2.2.2.2 in_X7_voiceThen_X7 F.2.2.2.1 hK.1 hP 0 rfl rfl 5 (Nat.le_of_ble_eq_true rfl) (F.2.2.2.2 (.fieldLink RX7 13 "LouderRoomModel" "kind" "[I") (List.mem_of_getElem? (i := 2) rfl)) (fun _ h9 => h9) rfl dX7_voiceThen_11 ?_
    refine lv_iload_n hx hb dX7_voiceThen_14 rfl (lv_at hl 1 rfl) ?_
    obtain ⟨hi, hf⟩ := grd hf
    refine va_iald hx hb hK.1 hP 2 0 rfl rfl (inb_in hi) dX7_voiceThen_15 ?_
    refine lv_iconst (v := (4 : Int32)) hx hb dX7_voiceThen_16 (by decide) ?_
    refine lv_icmp_ne (tgt := 27) hx hb dX7_voiceThen_17 (by decide) (fun hc => ?_) (fun hc => ?_)
    · replace hf := ite_f hf hc
      refine lv_aload_n hx hb dX7_voiceThen_27 rfl (lv_at hl 0 rfl) ?_
      refine lv_aload_n hx hb dX7_voiceThen_28 rfl (lv_at hl 0 rfl) ?_
      refine va_get (D := D) (ci := 7) (C := RX7) (T := TX7) (N := 40) hx hb F.2.2.2.2 in_X7_voiceThen_X7 F.2.2.2.1 hK.1 hP 0 rfl rfl 6 (Nat.le_of_ble_eq_true rfl) (F.2.2.2.2 (.fieldLink RX7 16 "LouderRoomModel" "cell" "[I") (List.mem_of_getElem? (i := 4) rfl)) (fun _ h9 => h9) rfl dX7_voiceThen_29 ?_
      refine lv_iload_n hx hb dX7_voiceThen_32 rfl (lv_at hl 1 rfl) ?_
      obtain ⟨hi, hf⟩ := grd hf
      refine va_iald hx hb hK.1 hP 3 0 rfl rfl (inb_in hi) dX7_voiceThen_33 ?_
      obtain ⟨v2, hv, hf⟩ := obd hf
      have hp1 : List.Perm [oX7 ty h0 a0 z0] ([oX7 ty h0 a0 z0] ++ []) := (List.Perm.refl _)
      refine ci_call (out := v2) (os := [oX7 ty h0 a0 z0]) (oc := [oX7 ty h0 a0 z0]) (oc' := [oX7 ty h0 a0 z0]) (or_ := []) (os' := [oX7 ty h0 a0 z0]) (va_runV (As := [.int (z0.2 6 p1.toNatClampNeg)]) (rest := []) F (c_X7_noiseAt l D ty h0 a0 _ _ _ hv _) (cwV 1 F.2.2.2.2 gX7_voiceThen_X7_noiseAt rfl rfl rfl ⟨rfl, hd_X7_noiseAt⟩ ⟨Nat.le_of_ble_eq_true rfl, Nat.le_of_ble_eq_true rfl⟩) (pre_v hK hP hD hp1 rfl rfl rfl) rfl rfl hl.1 rfl (lv_room (Nat.le_of_ble_eq_true rfl)) dX7_voiceThen_34 ⟨Nat.zero_le _, Nat.zero_le _⟩) hp1 (List.Perm.refl _) hP hD hS hA (fun H locs hP hD hS => ?_)
      clear hp1 hv
      refine lv_istore_n (lv' := [(2, .int v2), (0, .ref h0), (1, .int p1)]) hx hb dX7_voiceThen_37 rfl hl (by decide) rfl (fun ls hl => ?_)
      refine lv_aload_n hx hb dX7_voiceThen_38 rfl (lv_at hl 1 rfl) ?_
      refine lv_iload_n hx hb dX7_voiceThen_39 rfl (lv_at hl 2 rfl) ?_
      refine lv_aload_n hx hb dX7_voiceThen_40 rfl (lv_at hl 1 rfl) ?_
      refine lv_iload_n hx hb dX7_voiceThen_41 rfl (lv_at hl 2 rfl) ?_
      obtain ⟨v3, hv, hf⟩ := obd hf
      have hp1 : List.Perm [oX7 ty h0 a0 z0] ([oX7 ty h0 a0 z0] ++ []) := (List.Perm.refl _)
      refine ci_call (out := v3) (os := [oX7 ty h0 a0 z0]) (oc := [oX7 ty h0 a0 z0]) (oc' := [oX7 ty h0 a0 z0]) (or_ := []) (os' := [oX7 ty h0 a0 z0]) (va_runV (As := [.int p1]) (rest := [.int p1, .ref h0]) F (c_X7_loudOf l D ty h0 a0 _ _ _ hv _) (cwV 1 F.2.2.2.2 gX7_voiceThen_X7_loudOf rfl rfl rfl ⟨rfl, hd_X7_loudOf⟩ ⟨Nat.le_of_ble_eq_true rfl, Nat.le_of_ble_eq_true rfl⟩) (pre_v hK hP hD hp1 rfl rfl rfl) rfl rfl hl.1 rfl (lv_room (Nat.le_of_ble_eq_true rfl)) dX7_voiceThen_42 ⟨Nat.zero_le _, Nat.zero_le _⟩) hp1 (List.Perm.refl _) hP hD hS hA (fun H locs hP hD hS => ?_)
      clear hp1 hv
      obtain ⟨v4, hv, hf⟩ := obd hf
      have hp1 : List.Perm [oX7 ty h0 a0 z0] ([oX7 ty h0 a0 z0] ++ []) := (List.Perm.refl _)
      refine ci_call (out := v4) (os := [oX7 ty h0 a0 z0]) (oc := [oX7 ty h0 a0 z0]) (oc' := [oX7 ty h0 a0 z0]) (or_ := []) (os' := [oX7 ty h0 a0 z0]) (va_runV (As := [.int p1, .int v3]) (rest := []) F (c_X7_soundOf l D ty h0 a0 _ _ _ _ hv _) (cwV 2 F.2.2.2.2 gX7_voiceThen_X7_soundOf rfl rfl rfl ⟨rfl, hd_X7_soundOf⟩ ⟨Nat.le_of_ble_eq_true rfl, Nat.le_of_ble_eq_true rfl⟩) (pre_v hK hP hD hp1 rfl rfl rfl) rfl rfl hl.1 rfl (lv_room (Nat.le_of_ble_eq_true rfl)) dX7_voiceThen_45 ⟨Nat.zero_le _, Nat.zero_le _⟩) hp1 (List.Perm.refl _) hP hD hS hA (fun H locs hP hD hS => ?_)
      clear hp1 hv
      refine lv_istore_n (lv' := [(3, .int v4), (2, .int v2), (0, .ref h0), (1, .int p1)]) hx hb dX7_voiceThen_48 rfl hl (by decide) rfl (fun ls hl => ?_)
      refine lv_aload_n hx hb dX7_voiceThen_49 rfl (lv_at hl 2 rfl) ?_
      refine lv_iload_n hx hb dX7_voiceThen_50 rfl (lv_at hl 3 rfl) ?_
      refine lv_iload_n hx hb dX7_voiceThen_51 rfl (lv_at hl 0 rfl) ?_
      refine lv_iload_n hx hb dX7_voiceThen_52 rfl (lv_at hl 1 rfl) ?_
      obtain ⟨v5, hv, hf⟩ := obd hf
      have hp1 : List.Perm [oX7 ty h0 a0 z0] ([oX7 ty h0 a0 z0] ++ []) := (List.Perm.refl _)
      refine ci_call (out := v5) (os := [oX7 ty h0 a0 z0]) (oc := [oX7 ty h0 a0 z0]) (oc' := [oX7 ty h0 a0 z0]) (or_ := []) (os' := [oX7 ty h0 a0 z0]) (va_runV (As := [.int p1, .int v4, .int v2]) (rest := []) F (c_X7_would l D ty h0 a0 _ _ _ _ _ hv _) (cwV 3 F.2.2.2.2 gX7_voiceThen_X7_would rfl rfl rfl ⟨rfl, hd_X7_would⟩ ⟨Nat.le_of_ble_eq_true rfl, Nat.le_of_ble_eq_true rfl⟩) (pre_v hK hP hD hp1 rfl rfl rfl) rfl rfl hl.1 rfl (lv_room (Nat.le_of_ble_eq_true rfl)) dX7_voiceThen_53 ⟨Nat.zero_le _, Nat.zero_le _⟩) hp1 (List.Perm.refl _) hP hD hS hA (fun H locs hP hD hS => ?_)
      clear hp1 hv
      refine lv_if_ne (tgt := 141) hx hb dX7_voiceThen_56 (by decide) (fun hc => ?_) (fun hc => ?_)
      · replace hf := ite_f hf hc
        refine lv_aload_n hx hb dX7_voiceThen_141 rfl (lv_at hl 2 rfl) ?_
        refine va_get (D := D) (ci := 7) (C := RX7) (T := TX7) (N := 40) hx hb F.2.2.2.2 in_X7_voiceThen_X7 F.2.2.2.1 hK.1 hP 0 rfl rfl 29 (Nat.le_of_ble_eq_true rfl) (F.2.2.2.2 (.fieldLink RX7 56 "LouderRoomModel" "v" "[I") (List.mem_of_getElem? (i := 3) rfl)) (fun _ h9 => h9) rfl dX7_voiceThen_142 ?_
        refine lv_iload_n hx hb dX7_voiceThen_145 rfl (lv_at hl 3 rfl) ?_
        obtain ⟨hi, hf⟩ := grd hf
        refine va_iald hx hb hK.1 hP 16 0 rfl rfl (inb_in hi) dX7_voiceThen_146 ?_
        refine lv_iconst (v := (1 : Int32)) hx hb dX7_voiceThen_147 (by decide) ?_
        refine lv_icmp_le (tgt := 179) hx hb dX7_voiceThen_148 (by decide) (fun hc => ?_) (fun hc => ?_)
        · replace hf := ite_t hf hc
          exact J_179 _ _ _ hP hD hS (lv_sub hl [2, 3] rfl) hf
        · replace hf := ite_f hf hc
          refine lv_aload_n hx hb dX7_voiceThen_151 rfl (lv_at hl 2 rfl) ?_
          refine lv_iload_n hx hb dX7_voiceThen_152 rfl (lv_at hl 3 rfl) ?_
          refine lv_aload_n hx hb dX7_voiceThen_153 rfl (lv_at hl 2 rfl) ?_
          refine lv_iload_n hx hb dX7_voiceThen_154 rfl (lv_at hl 3 rfl) ?_
          refine lv_iconst (v := (1 : Int32)) hx hb dX7_voiceThen_155 (by decide) ?_
          refine lv_aload_n hx hb dX7_voiceThen_156 rfl (lv_at hl 2 rfl) ?_
          refine va_get (D := D) (ci := 7) (C := RX7) (T := TX7) (N := 40) hx hb F.2.2.2.2 in_X7_voiceThen_X7 F.2.2.2.1 hK.1 hP 0 rfl rfl 29 (Nat.le_of_ble_eq_true rfl) (F.2.2.2.2 (.fieldLink RX7 56 "LouderRoomModel" "v" "[I") (List.mem_of_getElem? (i := 3) rfl)) (fun _ h9 => h9) rfl dX7_voiceThen_157 ?_
          refine lv_iload_n hx hb dX7_voiceThen_160 rfl (lv_at hl 3 rfl) ?_
          obtain ⟨hi, hf⟩ := grd hf
          refine va_iald hx hb hK.1 hP 16 0 rfl rfl (inb_in hi) dX7_voiceThen_161 ?_
          refine lv_iconst (v := (1 : Int32)) hx hb dX7_voiceThen_162 (by decide) ?_
          refine lv_isub hx hb dX7_voiceThen_163 ?_
          refine lv_ishl hx hb dX7_voiceThen_164 ?_
          obtain ⟨v6, hv, hf⟩ := obd hf
          have hp1 : List.Perm [oX7 ty h0 a0 z0] ([oX7 ty h0 a0 z0] ++ []) := (List.Perm.refl _)
          refine ci_call (out := v6) (os := [oX7 ty h0 a0 z0]) (oc := [oX7 ty h0 a0 z0]) (oc' := [oX7 ty h0 a0 z0]) (or_ := []) (os' := [oX7 ty h0 a0 z0]) (va_runV (As := [.int p1, .int ((1 : Int32) <<< (((z0.2 29 p1.toNatClampNeg) - (1 : Int32)) &&& 31))]) (rest := [.int p1, .ref h0]) F (c_X7_soundOf l D ty h0 a0 _ _ _ _ hv _) (cwV 2 F.2.2.2.2 gX7_voiceThen_X7_soundOf rfl rfl rfl ⟨rfl, hd_X7_soundOf⟩ ⟨Nat.le_of_ble_eq_true rfl, Nat.le_of_ble_eq_true rfl⟩) (pre_v hK hP hD hp1 rfl rfl rfl) rfl rfl hl.1 rfl (lv_room (Nat.le_of_ble_eq_true rfl)) dX7_voiceThen_165 ⟨Nat.zero_le _, Nat.zero_le _⟩) hp1 (List.Perm.refl _) hP hD hS hA (fun H locs hP hD hS => ?_)
          clear hp1 hv
          refine lv_iload_n hx hb dX7_voiceThen_168 rfl (lv_at hl 1 rfl) ?_
          obtain ⟨v7, hv, hf⟩ := obd hf
          have hp1 : List.Perm [oX7 ty h0 a0 z0] ([oX7 ty h0 a0 z0] ++ []) := (List.Perm.refl _)
          refine ci_call (out := v7) (os := [oX7 ty h0 a0 z0]) (oc := [oX7 ty h0 a0 z0]) (oc' := [oX7 ty h0 a0 z0]) (or_ := []) (os' := [oX7 ty h0 a0 z0]) (va_runV (As := [.int p1, .int v6, .int v2]) (rest := []) F (c_X7_would l D ty h0 a0 _ _ _ _ _ hv _) (cwV 3 F.2.2.2.2 gX7_voiceThen_X7_would rfl rfl rfl ⟨rfl, hd_X7_would⟩ ⟨Nat.le_of_ble_eq_true rfl, Nat.le_of_ble_eq_true rfl⟩) (pre_v hK hP hD hp1 rfl rfl rfl) rfl rfl hl.1 rfl (lv_room (Nat.le_of_ble_eq_true rfl)) dX7_voiceThen_169 ⟨Nat.zero_le _, Nat.zero_le _⟩) hp1 (List.Perm.refl _) hP hD hS hA (fun H locs hP hD hS => ?_)
          clear hp1 hv
          refine lv_if_eq (tgt := 179) hx hb dX7_voiceThen_172 (by decide) (fun hc => ?_) (fun hc => ?_)
          · replace hf := ite_t hf hc
            exact J_179 _ _ _ hP hD hS (lv_sub hl [2, 3] rfl) hf
          · replace hf := ite_f hf hc
            refine lv_iconst (v := (1 : Int32)) hx hb dX7_voiceThen_175 (by decide) ?_
            refine lv_goto (tgt := 180) hx hb dX7_voiceThen_176 (by decide) ?_
            exact J_180 (1 : Int32) _ _ _ hP hD hS (lv_sub hl [2, 3] rfl) hf
      · replace hf := ite_t hf hc
        refine lv_aload_n hx hb dX7_voiceThen_59 rfl (lv_at hl 2 rfl) ?_
        refine va_get (D := D) (ci := 7) (C := RX7) (T := TX7) (N := 40) hx hb F.2.2.2.2 in_X7_voiceThen_X7 F.2.2.2.1 hK.1 hP 0 rfl rfl 5 (Nat.le_of_ble_eq_true rfl) (F.2.2.2.2 (.fieldLink RX7 13 "LouderRoomModel" "kind" "[I") (List.mem_of_getElem? (i := 2) rfl)) (fun _ h9 => h9) rfl dX7_voiceThen_60 ?_
        refine lv_iload_n hx hb dX7_voiceThen_63 rfl (lv_at hl 3 rfl) ?_
        obtain ⟨hi, hf⟩ := grd hf
        refine va_iald hx hb hK.1 hP 2 0 rfl rfl (inb_in hi) dX7_voiceThen_64 ?_
        refine lv_iconst (v := (1 : Int32)) hx hb dX7_voiceThen_65 (by decide) ?_
        refine lv_icmp_ne (tgt := 85) hx hb dX7_voiceThen_66 (by decide) (fun hc => ?_) (fun hc => ?_)
        · replace hf := ite_f hf hc
          exact J_85 _ _ _ hP hD hS (lv_sub hl [2, 3] rfl) hf
        · replace hf := ite_t hf hc
          refine lv_aload_n hx hb dX7_voiceThen_69 rfl (lv_at hl 2 rfl) ?_
          refine lv_iload_n hx hb dX7_voiceThen_70 rfl (lv_at hl 3 rfl) ?_
          refine lv_iconst (v := (2 : Int32)) hx hb dX7_voiceThen_71 (by decide) ?_
          refine lv_iload_n hx hb dX7_voiceThen_72 rfl (lv_at hl 0 rfl) ?_
          refine lv_imul hx hb dX7_voiceThen_73 ?_
          refine lv_iload_n hx hb dX7_voiceThen_74 rfl (lv_at hl 1 rfl) ?_
          obtain ⟨v8, hv, hf⟩ := obd hf
          have hp1 : List.Perm [oX7 ty h0 a0 z0] ([oX7 ty h0 a0 z0] ++ []) := (List.Perm.refl _)
          refine ci_call (out := v8) (os := [oX7 ty h0 a0 z0]) (oc := [oX7 ty h0 a0 z0]) (oc' := [oX7 ty h0 a0 z0]) (or_ := []) (os' := [oX7 ty h0 a0 z0]) (va_runV (As := [.int p1, .int ((2 : Int32) * v4), .int v2]) (rest := []) F (c_X7_would l D ty h0 a0 _ _ _ _ _ hv _) (cwV 3 F.2.2.2.2 gX7_voiceThen_X7_would rfl rfl rfl ⟨rfl, hd_X7_would⟩ ⟨Nat.le_of_ble_eq_true rfl, Nat.le_of_ble_eq_true rfl⟩) (pre_v hK hP hD hp1 rfl rfl rfl) rfl rfl hl.1 rfl (lv_room (Nat.le_of_ble_eq_true rfl)) dX7_voiceThen_75 ⟨Nat.zero_le _, Nat.zero_le _⟩) hp1 (List.Perm.refl _) hP hD hS hA (fun H locs hP hD hS => ?_)
          clear hp1 hv
          refine lv_if_eq (tgt := 85) hx hb dX7_voiceThen_78 (by decide) (fun hc => ?_) (fun hc => ?_)
          · replace hf := ite_t hf hc
            exact J_85 _ _ _ hP hD hS (lv_sub hl [2, 3] rfl) hf
          · replace hf := ite_f hf hc
            refine lv_iconst (v := (1 : Int32)) hx hb dX7_voiceThen_81 (by decide) ?_
            refine lv_goto (tgt := 86) hx hb dX7_voiceThen_82 (by decide) ?_
            exact J_86 (1 : Int32) _ _ _ hP hD hS (lv_sub hl [2, 3] rfl) hf
    · replace hf := ite_t hf hc
      exact J_20 _ _ _ hP hD hS (lv_sub hl [0, 1] rfl) hf
def j_X7_musicThen_20 (z0 : Ob)  : Option (Int32) := some (z0.1 31)
def f_X7_musicThen (z0 : Ob) : Option (Int32) := (f_X7_echo z0).bind (fun v1 => (if (z0.1 35) = 0 then j_X7_musicThen_20 z0  else (f_X7_loudMusic z0).bind (fun v2 => (if v1 = v2 then j_X7_musicThen_20 z0  else (f_X7_loudMusic z0).bind (fun v3 => (if v1 ≤ v3 then (if (z0.1 31) ≤ 0 then some (0 : Int32) else some ((z0.1 31) - (1 : Int32))) else (if (9 : Int32) ≤ (z0.1 31) then some (9 : Int32) else some ((z0.1 31) + (1 : Int32)))))))))
abbrev rm_X7_musicThen : Room := { frames := 4, cells := 0, slots := 0, locals := 84 }
theorem hd_X7_musicThen : yX7_musicThen.cls ≠ "java/lang/invoke/MethodHandle" ∧ yX7_musicThen.cls ≠ "java/lang/invoke/VarHandle" ∧ (parseMethodDescriptor yX7_musicThen.desc).map (fun d => d.parameters.length) = some 0 := by decide +kernel
theorem in_X7_musicThen_X7 : ∀ w ∈ wsX70, w ∈ wsX7_musicThen := fun w h => List.mem_cons_of_mem _ (List.mem_append_right _ h)
set_option maxHeartbeats 4000000 in
set_option maxRecDepth 100000 in
theorem c_X7_musicThen (l : Launch) (D : va_G) (ty : TY) (h0 : Nat) (a0 : Nat → Nat) (z0 : Ob) (o0 : Int32) (hf : f_X7_musicThen z0 = some o0) (sz : Nat) : CX l yX7_musicThen wsX7_musicThen rm_X7_musicThen ([.ref h0] : List Value) D ty (fl [oX7 ty h0 a0 z0]) sz (qI D o0 (fl [oX7 ty h0 a0 z0])) 0 0 := by
  refine CX_of (cc := cX7_musicThen) (maxL := 2) (ret := (some .int)) (C := RX7) (by decide) rfl rfl (Nat.le_of_ble_eq_true rfl) ?_
  intro p e s m below meth c A ls F hr hlk _ hK hP hD hS hA hl
  have hx := F.1
  have hb := F.2.1
  replace hl : lv_has ls 2 [(0, .ref h0)] := hl
  unfold f_X7_musicThen at hf
  have J_20 : ∀  (H : Heap) (locs : List Loc) (ls : Array Slot), va_P D vwC (fl [oX7 ty h0 a0 z0]) H → va_D A (fl [oX7 ty h0 a0 z0]) → va_S A s.heap H locs → lv_has ls 2 [(0, .ref h0)] → j_X7_musicThen_20 z0  = some o0 → W p l e rm_X7_musicThen s m ([.ref h0] : List Value).toArray below meth c H locs 0 0 (MQ below (qI D o0 (fl [oX7 ty h0 a0 z0]) A) ([.ref h0] : List Value).toArray s 0 0 A) (F0 m 20 ls []) := by
    intro  H locs ls hP hD hS hl hf
    unfold j_X7_musicThen_20 at hf
    refine lv_aload_n hx hb dX7_musicThen_20 rfl (lv_at hl 0 rfl) ?_
    refine va_get (D := D) (ci := 7) (C := RX7) (T := TX7) (N := 40) hx hb F.2.2.2.2 in_X7_musicThen_X7 F.2.2.2.1 hK.1 hP 0 rfl rfl 31 (Nat.le_of_ble_eq_true rfl) (F.2.2.2.2 (.fieldLink RX7 138 "LouderRoomModel" "m" "I") (List.mem_of_getElem? (i := 2) rfl)) (fun _ h9 => h9) rfl dX7_musicThen_21 ?_
    obtain hf := hf
    have e0 := Option.some.inj hf
    exact CX_i F hr hlk hP hD hS e0 dX7_musicThen_24
  refine lv_aload_n hx hb dX7_musicThen_0 rfl (lv_at hl 0 rfl) ?_
  obtain ⟨v1, hv, hf⟩ := obd hf
  have hp1 : List.Perm [oX7 ty h0 a0 z0] ([oX7 ty h0 a0 z0] ++ []) := (List.Perm.refl _)
  refine ci_call (out := v1) (os := [oX7 ty h0 a0 z0]) (oc := [oX7 ty h0 a0 z0]) (oc' := [oX7 ty h0 a0 z0]) (or_ := []) (os' := [oX7 ty h0 a0 z0]) (va_runV (As := []) (rest := []) F (c_X7_echo l D ty h0 a0 _ _ hv _) (cwV 0 F.2.2.2.2 gX7_musicThen_X7_echo rfl rfl rfl ⟨rfl, hd_X7_echo⟩ ⟨Nat.le_of_ble_eq_true rfl, Nat.le_of_ble_eq_true rfl⟩) (pre_v hK hP hD hp1 rfl rfl rfl) rfl rfl hl.1 rfl (lv_room (Nat.le_of_ble_eq_true rfl)) dX7_musicThen_1 ⟨Nat.zero_le _, Nat.zero_le _⟩) hp1 (List.Perm.refl _) hP hD hS hA (fun H locs hP hD hS => ?_)
  clear hp1 hv
  refine lv_istore_n (lv' := [(1, .int v1), (0, .ref h0)]) hx hb dX7_musicThen_4 rfl hl (by decide) rfl (fun ls hl => ?_)
  refine lv_aload_n hx hb dX7_musicThen_5 rfl (lv_at hl 1 rfl) ?_
  refine va_get (D := D) (ci := 7) (C := RX7) (T := TX7) (N := 40) hx hb F.2.2.2.2 in_X7_musicThen_X7 F.2.2.2.1 hK.1 hP 0 rfl rfl 35 (Nat.le_of_ble_eq_true rfl) (F.2.2.2.2 (.fieldLink RX7 150 "LouderRoomModel" "trails" "Z") (List.mem_of_getElem? (i := 1) rfl)) (fun _ h9 => h9) rfl dX7_musicThen_6 ?_
  refine lv_if_eq (tgt := 20) hx hb dX7_musicThen_9 (by decide) (fun hc => ?_) (fun hc => ?_)
  · replace hf := ite_t hf hc
    exact J_20 _ _ _ hP hD hS (lv_sub hl [1] rfl) hf
  · replace hf := ite_f hf hc
    refine lv_iload_n hx hb dX7_musicThen_12 rfl (lv_at hl 0 rfl) ?_
    refine lv_aload_n hx hb dX7_musicThen_13 rfl (lv_at hl 1 rfl) ?_
    obtain ⟨v2, hv, hf⟩ := obd hf
    have hp1 : List.Perm [oX7 ty h0 a0 z0] ([oX7 ty h0 a0 z0] ++ []) := (List.Perm.refl _)
    refine ci_call (out := v2) (os := [oX7 ty h0 a0 z0]) (oc := [oX7 ty h0 a0 z0]) (oc' := [oX7 ty h0 a0 z0]) (or_ := []) (os' := [oX7 ty h0 a0 z0]) (va_runV (As := []) (rest := [.int v1]) F (c_X7_loudMusic l D ty h0 a0 _ _ hv _) (cwV 0 F.2.2.2.2 gX7_musicThen_X7_loudMusic rfl rfl rfl ⟨rfl, hd_X7_loudMusic⟩ ⟨Nat.le_of_ble_eq_true rfl, Nat.le_of_ble_eq_true rfl⟩) (pre_v hK hP hD hp1 rfl rfl rfl) rfl rfl hl.1 rfl (lv_room (Nat.le_of_ble_eq_true rfl)) dX7_musicThen_14 ⟨Nat.zero_le _, Nat.zero_le _⟩) hp1 (List.Perm.refl _) hP hD hS hA (fun H locs hP hD hS => ?_)
    clear hp1 hv
    refine lv_icmp_ne (tgt := 25) hx hb dX7_musicThen_17 (by decide) (fun hc => ?_) (fun hc => ?_)
    · replace hf := ite_f hf hc
      refine lv_iload_n hx hb dX7_musicThen_25 rfl (lv_at hl 0 rfl) ?_
      refine lv_aload_n hx hb dX7_musicThen_26 rfl (lv_at hl 1 rfl) ?_
      obtain ⟨v3, hv, hf⟩ := obd hf
      have hp1 : List.Perm [oX7 ty h0 a0 z0] ([oX7 ty h0 a0 z0] ++ []) := (List.Perm.refl _)
      refine ci_call (out := v3) (os := [oX7 ty h0 a0 z0]) (oc := [oX7 ty h0 a0 z0]) (oc' := [oX7 ty h0 a0 z0]) (or_ := []) (os' := [oX7 ty h0 a0 z0]) (va_runV (As := []) (rest := [.int v1]) F (c_X7_loudMusic l D ty h0 a0 _ _ hv _) (cwV 0 F.2.2.2.2 gX7_musicThen_X7_loudMusic rfl rfl rfl ⟨rfl, hd_X7_loudMusic⟩ ⟨Nat.le_of_ble_eq_true rfl, Nat.le_of_ble_eq_true rfl⟩) (pre_v hK hP hD hp1 rfl rfl rfl) rfl rfl hl.1 rfl (lv_room (Nat.le_of_ble_eq_true rfl)) dX7_musicThen_27 ⟨Nat.zero_le _, Nat.zero_le _⟩) hp1 (List.Perm.refl _) hP hD hS hA (fun H locs hP hD hS => ?_)
      clear hp1 hv
      refine lv_icmp_le (tgt := 56) hx hb dX7_musicThen_30 (by decide) (fun hc => ?_) (fun hc => ?_)
      · replace hf := ite_t hf hc
        refine lv_aload_n hx hb dX7_musicThen_56 rfl (lv_at hl 1 rfl) ?_
        refine va_get (D := D) (ci := 7) (C := RX7) (T := TX7) (N := 40) hx hb F.2.2.2.2 in_X7_musicThen_X7 F.2.2.2.1 hK.1 hP 0 rfl rfl 31 (Nat.le_of_ble_eq_true rfl) (F.2.2.2.2 (.fieldLink RX7 138 "LouderRoomModel" "m" "I") (List.mem_of_getElem? (i := 2) rfl)) (fun _ h9 => h9) rfl dX7_musicThen_57 ?_
        refine lv_if_le (tgt := 72) hx hb dX7_musicThen_60 (by decide) (fun hc => ?_) (fun hc => ?_)
        · replace hf := ite_t hf hc
          refine lv_iconst (v := (0 : Int32)) hx hb dX7_musicThen_72 (by decide) ?_
          obtain hf := hf
          have e0 := Option.some.inj hf
          exact CX_i F hr hlk hP hD hS e0 dX7_musicThen_73
        · replace hf := ite_f hf hc
          refine lv_aload_n hx hb dX7_musicThen_63 rfl (lv_at hl 1 rfl) ?_
          refine va_get (D := D) (ci := 7) (C := RX7) (T := TX7) (N := 40) hx hb F.2.2.2.2 in_X7_musicThen_X7 F.2.2.2.1 hK.1 hP 0 rfl rfl 31 (Nat.le_of_ble_eq_true rfl) (F.2.2.2.2 (.fieldLink RX7 138 "LouderRoomModel" "m" "I") (List.mem_of_getElem? (i := 2) rfl)) (fun _ h9 => h9) rfl dX7_musicThen_64 ?_
          refine lv_iconst (v := (1 : Int32)) hx hb dX7_musicThen_67 (by decide) ?_
          refine lv_isub hx hb dX7_musicThen_68 ?_
          refine lv_goto (tgt := 73) hx hb dX7_musicThen_69 (by decide) ?_
          obtain hf := hf
          have e0 := Option.some.inj hf
          exact CX_i F hr hlk hP hD hS e0 dX7_musicThen_73
      · replace hf := ite_f hf hc
        refine lv_aload_n hx hb dX7_musicThen_33 rfl (lv_at hl 1 rfl) ?_
        refine va_get (D := D) (ci := 7) (C := RX7) (T := TX7) (N := 40) hx hb F.2.2.2.2 in_X7_musicThen_X7 F.2.2.2.1 hK.1 hP 0 rfl rfl 31 (Nat.le_of_ble_eq_true rfl) (F.2.2.2.2 (.fieldLink RX7 138 "LouderRoomModel" "m" "I") (List.mem_of_getElem? (i := 2) rfl)) (fun _ h9 => h9) rfl dX7_musicThen_34 ?_
        refine lv_bipush (v := (9 : Int32)) hx hb dX7_musicThen_37 (by decide) ?_
        refine lv_icmp_ge (tgt := 51) hx hb dX7_musicThen_39 (by decide) (fun hc => ?_) (fun hc => ?_)
        · replace hf := ite_t hf hc
          refine lv_bipush (v := (9 : Int32)) hx hb dX7_musicThen_51 (by decide) ?_
          refine lv_goto (tgt := 73) hx hb dX7_musicThen_53 (by decide) ?_
          obtain hf := hf
          have e0 := Option.some.inj hf
          exact CX_i F hr hlk hP hD hS e0 dX7_musicThen_73
        · replace hf := ite_f hf hc
          refine lv_aload_n hx hb dX7_musicThen_42 rfl (lv_at hl 1 rfl) ?_
          refine va_get (D := D) (ci := 7) (C := RX7) (T := TX7) (N := 40) hx hb F.2.2.2.2 in_X7_musicThen_X7 F.2.2.2.1 hK.1 hP 0 rfl rfl 31 (Nat.le_of_ble_eq_true rfl) (F.2.2.2.2 (.fieldLink RX7 138 "LouderRoomModel" "m" "I") (List.mem_of_getElem? (i := 2) rfl)) (fun _ h9 => h9) rfl dX7_musicThen_43 ?_
          refine lv_iconst (v := (1 : Int32)) hx hb dX7_musicThen_46 (by decide) ?_
          refine lv_iadd hx hb dX7_musicThen_47 ?_
          refine lv_goto (tgt := 73) hx hb dX7_musicThen_48 (by decide) ?_
          obtain hf := hf
          have e0 := Option.some.inj hf
          exact CX_i F hr hlk hP hD hS e0 dX7_musicThen_73
    · replace hf := ite_t hf hc
      exact J_20 _ _ _ hP hD hS (lv_sub hl [1] rfl) hf
def j_X7_go_102 (y1 : Int32) (y2 : Int32) (t0 : Int32) (w0 : Ob) : Option (Int32 × Ob) := bnd (sI w0 31 y2) (fun g1 => (if t0 = 0 then some (y1, g1) else some ((-1 : Int32), g1)))
def j_X7_go_101 (y1 : Int32) (y2 : Int32) (w0 : Ob) : Option (Int32 × Ob) := j_X7_go_102 y1 y2 (0 : Int32) w0
def j_X7_go_65 (r_36 : Int32 → Int32 → Ob → Option (Int32 × Ob)) (y2 : Int32) (y3 : Int32) (t0 : Int32) (t1 : Int32) (w0 : Ob) : Option (Int32 × Ob) := bnd (t1 + t0) (fun x3 => (if inb y3 8 = true then (if inb y3 8 = true then bnd (sA w0 29 (upd (w0.2 29) y3.toNatClampNeg (w0.2 30 y3.toNatClampNeg))) (fun g4 => bnd (y3 + (1 : Int32)) (fun x5 => r_36 x3 x5 g4)) else none) else none))
def b_X7_go_36 (y2 : Int32) (r_36 : Int32 → Int32 → Ob → Option (Int32 × Ob)) (y1 : Int32) (y3 : Int32) (w0 : Ob) : Option (Int32 × Ob) := (if (w0.1 32) ≤ y3 then (if y1 = 0 then (if y2 = (w0.1 31) then j_X7_go_101 y1 y2 w0 else j_X7_go_102 y1 y2 (1 : Int32) w0) else j_X7_go_101 y1 y2 w0) else (if inb y3 8 = true then (if inb y3 8 = true then (if (w0.2 30 y3.toNatClampNeg) = (w0.2 29 y3.toNatClampNeg) then j_X7_go_65 r_36 y2 y3 (0 : Int32) y1 w0 else j_X7_go_65 r_36 y2 y3 (1 : Int32) y1 w0) else none) else none))
def b_X7_go_9 (y1 : Int32) (y2 : Int32) (r_9 : Int32 → Ob → Option (Int32 × Ob)) (y3 : Int32) (w0 : Ob) : Option (Int32 × Ob) := (if (w0.1 32) ≤ y3 then fuel3 (b_X7_go_36 y2) FU y1 (0 : Int32) w0 else (f_X7_voiceThen w0 y3).bind (fun v6 => (if inb y3 8 = true then bnd (sA w0 30 (upd (w0.2 30) y3.toNatClampNeg v6)) (fun g7 => bnd (y3 + (1 : Int32)) (fun x8 => r_9 x8 g7)) else none)))
def f_X7_go (z0 : Ob) : Option (Int32 × Ob) := (f_X7_musicThen z0).bind (fun v2 => fuel2 (b_X7_go_9 (0 : Int32) v2) FU (0 : Int32) z0)
abbrev rm_X7_go : Room := { frames := 6, cells := 0, slots := 0, locals := 132 }
theorem hd_X7_go : yX7_go.cls ≠ "java/lang/invoke/MethodHandle" ∧ yX7_go.cls ≠ "java/lang/invoke/VarHandle" ∧ (parseMethodDescriptor yX7_go.desc).map (fun d => d.parameters.length) = some 0 := by decide +kernel
theorem in_X7_go_X7 : ∀ w ∈ wsX70, w ∈ wsX7_go := fun w h => List.mem_cons_of_mem _ (List.mem_append_right _ h)
set_option maxHeartbeats 4000000 in
set_option maxRecDepth 100000 in
theorem c_X7_go (l : Launch) (D : va_G) (ty : TY) (h0 : Nat) (a0 : Nat → Nat) (z0 : Ob) (o0 : Int32) (o1 : Ob) (hf : f_X7_go z0 = some (o0, o1)) (sz : Nat) : CX l yX7_go wsX7_go rm_X7_go ([.ref h0] : List Value) D ty (fl [oX7 ty h0 a0 z0]) sz (qI D o0 (fl [oX7 ty h0 a0 o1])) 0 0 := by
  refine CX_of (cc := cX7_go) (maxL := 4) (ret := (some .int)) (C := RX7) (by decide) rfl rfl (Nat.le_of_ble_eq_true rfl) ?_
  intro p e s m below meth c A ls F hr hlk _ hK hP hD hS hA hl
  have hx := F.1
  have hb := F.2.1
  replace hl : lv_has ls 4 [(0, .ref h0)] := hl
  unfold f_X7_go at hf
  have J_102 : ∀ (y1 : Int32) (y2 : Int32) (t0 : Int32) (w0 : Ob) (H : Heap) (locs : List Loc) (ls : Array Slot), va_P D vwC (fl [oX7 ty h0 a0 w0]) H → va_D A (fl [oX7 ty h0 a0 w0]) → va_S A s.heap H locs → lv_has ls 4 [(0, .ref h0), (1, .int y1), (2, .int y2)] → j_X7_go_102 y1 y2 t0 w0 = some (o0, o1) → W p l e rm_X7_go s m ([.ref h0] : List Value).toArray below meth c H locs 0 0 (MQ below (qI D o0 (fl [oX7 ty h0 a0 o1]) A) ([.ref h0] : List Value).toArray s 0 0 A) (F0 m 102 ls [.int t0]) := by
    intro y1 y2 t0 w0 H locs ls hP hD hS hl hf
    unfold j_X7_go_102 at hf
    refine lv_istore_n (lv' := [(3, .int t0), (0, .ref h0), (1, .int y1), (2, .int y2)]) hx hb dX7_go_102 rfl hl (by decide) rfl (fun ls hl => ?_)
    refine lv_aload_n hx hb dX7_go_103 rfl (lv_at hl 1 rfl) ?_
    refine lv_iload_n hx hb dX7_go_104 rfl (lv_at hl 3 rfl) ?_
    refine pt_put (D := D) (ci := 7) (fty := .int) (C := RX7) (T := TX7) (N := 40) (w1 := fl [oX7 ty h0 a0 (sI w0 31 y2)]) F in_X7_go_X7 tyX7 tyX7_ok nmX7 hK.1 hP hD hS 0 rfl rfl 31 (Nat.le_of_ble_eq_true rfl) (F.2.2.2.2 (.fieldLink RX7 138 "LouderRoomModel" "m" "I") (List.mem_of_getElem? (i := 4) rfl)) (fun _ h9 => h9) rfl (by decide +kernel) rfl rfl (Nat.le_of_ble_eq_true rfl) rfl dX7_go_105 (fun H locs hP hD hS => ?_)
    obtain ⟨g1, ex⟩ : ∃ y : Ob, y = (sI w0 31 y2) := ⟨_, rfl⟩
    replace hf := bnd_at hf ex; rw [← ex] at hP hD; clear ex
    refine lv_iload_n hx hb dX7_go_108 rfl (lv_at hl 0 rfl) ?_
    refine lv_if_eq (tgt := 116) hx hb dX7_go_109 (by decide) (fun hc => ?_) (fun hc => ?_)
    · replace hf := ite_t hf hc
      refine lv_iload_n hx hb dX7_go_116 rfl (lv_at hl 2 rfl) ?_
      obtain hf := hf
      obtain ⟨e0, e1⟩ := tup2 hf
      rw [e1] at hP hD
      exact CX_i F hr hlk hP hD hS e0 dX7_go_117
    · replace hf := ite_f hf hc
      refine lv_iconst (v := (-1 : Int32)) hx hb dX7_go_112 (by decide) ?_
      refine lv_goto (tgt := 117) hx hb dX7_go_113 (by decide) ?_
      obtain hf := hf
      obtain ⟨e0, e1⟩ := tup2 hf
      rw [e1] at hP hD
      exact CX_i F hr hlk hP hD hS e0 dX7_go_117
  have J_101 : ∀ (y1 : Int32) (y2 : Int32) (w0 : Ob) (H : Heap) (locs : List Loc) (ls : Array Slot), va_P D vwC (fl [oX7 ty h0 a0 w0]) H → va_D A (fl [oX7 ty h0 a0 w0]) → va_S A s.heap H locs → lv_has ls 4 [(0, .ref h0), (1, .int y1), (2, .int y2)] → j_X7_go_101 y1 y2 w0 = some (o0, o1) → W p l e rm_X7_go s m ([.ref h0] : List Value).toArray below meth c H locs 0 0 (MQ below (qI D o0 (fl [oX7 ty h0 a0 o1]) A) ([.ref h0] : List Value).toArray s 0 0 A) (F0 m 101 ls []) := by
    intro y1 y2 w0 H locs ls hP hD hS hl hf
    unfold j_X7_go_101 at hf
    refine lv_iconst (v := (0 : Int32)) hx hb dX7_go_101 (by decide) ?_
    exact J_102 y1 y2 (0 : Int32) w0 _ _ _ hP hD hS (lv_sub hl [0, 1, 2] rfl) hf
  refine lv_iconst (v := (0 : Int32)) hx hb dX7_go_0 (by decide) ?_
  refine lv_istore_n (lv' := [(1, .int (0 : Int32)), (0, .ref h0)]) hx hb dX7_go_1 rfl hl (by decide) rfl (fun ls hl => ?_)
  refine lv_aload_n hx hb dX7_go_2 rfl (lv_at hl 1 rfl) ?_
  obtain ⟨v2, hv, hf⟩ := obd hf
  have hp1 : List.Perm [oX7 ty h0 a0 z0] ([oX7 ty h0 a0 z0] ++ []) := (List.Perm.refl _)
  refine ci_call (out := v2) (os := [oX7 ty h0 a0 z0]) (oc := [oX7 ty h0 a0 z0]) (oc' := [oX7 ty h0 a0 z0]) (or_ := []) (os' := [oX7 ty h0 a0 z0]) (va_runV (As := []) (rest := []) F (c_X7_musicThen l D ty h0 a0 _ _ hv _) (cwV 0 F.2.2.2.2 gX7_go_X7_musicThen rfl rfl rfl ⟨rfl, hd_X7_musicThen⟩ ⟨Nat.le_of_ble_eq_true rfl, Nat.le_of_ble_eq_true rfl⟩) (pre_v hK hP hD hp1 rfl rfl rfl) rfl rfl hl.1 rfl (lv_room (Nat.le_of_ble_eq_true rfl)) dX7_go_3 ⟨Nat.zero_le _, Nat.zero_le _⟩) hp1 (List.Perm.refl _) hP hD hS hA (fun H locs hP hD hS => ?_)
  clear hp1 hv
  refine lv_istore_n (lv' := [(2, .int v2), (1, .int (0 : Int32)), (0, .ref h0)]) hx hb dX7_go_6 rfl hl (by decide) rfl (fun ls hl => ?_)
  refine lv_iconst (v := (0 : Int32)) hx hb dX7_go_7 (by decide) ?_
  refine lv_istore_n (lv' := [(3, .int (0 : Int32)), (2, .int v2), (1, .int (0 : Int32)), (0, .ref h0)]) hx hb dX7_go_8 rfl hl (by decide) rfl (fun ls hl => ?_)
  have L_9 : ∀ (y1 : Int32) (y2 : Int32) (n : Nat) (y3 : Int32) (w0 : Ob) (H : Heap) (locs : List Loc) (ls : Array Slot), va_P D vwC (fl [oX7 ty h0 a0 w0]) H → va_D A (fl [oX7 ty h0 a0 w0]) → va_S A s.heap H locs → lv_has ls 4 [(0, .ref h0), (1, .int y1), (2, .int y2), (3, .int y3)] → fuel2 (b_X7_go_9 y1 y2) n y3 w0 = some (o0, o1) → W p l e rm_X7_go s m ([.ref h0] : List Value).toArray below meth c H locs 0 0 (MQ below (qI D o0 (fl [oX7 ty h0 a0 o1]) A) ([.ref h0] : List Value).toArray s 0 0 A) (F0 m 9 ls []) := by
    intro y1 y2 n
    induction n with
    | zero => intro y3 w0 H locs ls hP hD hS hl hf; cases hf
    | succ n ih_9 =>
      intro y3 w0 H locs ls hP hD hS hl hf
      replace hf : b_X7_go_9 y1 y2 (fuel2 (b_X7_go_9 y1 y2) n) y3 w0 = some (o0, o1) := hf
      generalize fuel2 (b_X7_go_9 y1 y2) n = r_9 at ih_9 hf
      unfold b_X7_go_9 at hf
      refine lv_iload_n hx hb dX7_go_9 rfl (lv_at hl 3 rfl) ?_
      refine lv_aload_n hx hb dX7_go_10 rfl (lv_at hl 0 rfl) ?_
      refine va_get (D := D) (ci := 7) (C := RX7) (T := TX7) (N := 40) hx hb F.2.2.2.2 in_X7_go_X7 F.2.2.2.1 hK.1 hP 0 rfl rfl 32 (Nat.le_of_ble_eq_true rfl) (F.2.2.2.2 (.fieldLink RX7 141 "LouderRoomModel" "many" "I") (List.mem_of_getElem? (i := 1) rfl)) (fun _ h9 => h9) rfl dX7_go_11 ?_
      refine lv_icmp_ge (tgt := 34) hx hb dX7_go_14 (by decide) (fun hc => ?_) (fun hc => ?_)
      · replace hf := ite_t hf hc
        refine lv_iconst (v := (0 : Int32)) hx hb dX7_go_34 (by decide) ?_
        refine lv_istore_n (lv' := [(3, .int (0 : Int32)), (0, .ref h0), (1, .int y1), (2, .int y2)]) hx hb dX7_go_35 rfl hl (by decide) rfl (fun ls hl => ?_)
        have L_36 : ∀ (y2 : Int32) (n : Nat) (y1 : Int32) (y3 : Int32) (w0 : Ob) (H : Heap) (locs : List Loc) (ls : Array Slot), va_P D vwC (fl [oX7 ty h0 a0 w0]) H → va_D A (fl [oX7 ty h0 a0 w0]) → va_S A s.heap H locs → lv_has ls 4 [(0, .ref h0), (1, .int y1), (2, .int y2), (3, .int y3)] → fuel3 (b_X7_go_36 y2) n y1 y3 w0 = some (o0, o1) → W p l e rm_X7_go s m ([.ref h0] : List Value).toArray below meth c H locs 0 0 (MQ below (qI D o0 (fl [oX7 ty h0 a0 o1]) A) ([.ref h0] : List Value).toArray s 0 0 A) (F0 m 36 ls []) := by
          intro y2 n
          induction n with
          | zero => intro y1 y3 w0 H locs ls hP hD hS hl hf; cases hf
          | succ n ih_36 =>
            intro y1 y3 w0 H locs ls hP hD hS hl hf
            replace hf : b_X7_go_36 y2 (fuel3 (b_X7_go_36 y2) n) y1 y3 w0 = some (o0, o1) := hf
            generalize fuel3 (b_X7_go_36 y2) n = r_36 at ih_36 hf
            unfold b_X7_go_36 at hf
            have J_65 : ∀ (y3 : Int32) (t0 : Int32) (t1 : Int32) (w0 : Ob) (H : Heap) (locs : List Loc) (ls : Array Slot), va_P D vwC (fl [oX7 ty h0 a0 w0]) H → va_D A (fl [oX7 ty h0 a0 w0]) → va_S A s.heap H locs → lv_has ls 4 [(0, .ref h0), (2, .int y2), (3, .int y3)] → j_X7_go_65 r_36 y2 y3 t0 t1 w0 = some (o0, o1) → W p l e rm_X7_go s m ([.ref h0] : List Value).toArray below meth c H locs 0 0 (MQ below (qI D o0 (fl [oX7 ty h0 a0 o1]) A) ([.ref h0] : List Value).toArray s 0 0 A) (F0 m 65 ls [.int t0, .int t1]) := by
              intro y3 t0 t1 w0 H locs ls hP hD hS hl hf
              unfold j_X7_go_65 at hf
              refine lv_iadd hx hb dX7_go_65 ?_
              refine lv_topi (fun x3 ex => ?_)
              replace hf := bnd_at hf ex; clear ex
              refine lv_istore_n (lv' := [(1, .int x3), (0, .ref h0), (2, .int y2), (3, .int y3)]) hx hb dX7_go_66 rfl hl (by decide) rfl (fun ls hl => ?_)
              refine lv_aload_n hx hb dX7_go_67 rfl (lv_at hl 1 rfl) ?_
              refine va_get (D := D) (ci := 7) (C := RX7) (T := TX7) (N := 40) hx hb F.2.2.2.2 in_X7_go_X7 F.2.2.2.1 hK.1 hP 0 rfl rfl 29 (Nat.le_of_ble_eq_true rfl) (F.2.2.2.2 (.fieldLink RX7 56 "LouderRoomModel" "v" "[I") (List.mem_of_getElem? (i := 3) rfl)) (fun _ h9 => h9) rfl dX7_go_68 ?_
              refine lv_iload_n hx hb dX7_go_71 rfl (lv_at hl 3 rfl) ?_
              refine lv_aload_n hx hb dX7_go_72 rfl (lv_at hl 1 rfl) ?_
              refine va_get (D := D) (ci := 7) (C := RX7) (T := TX7) (N := 40) hx hb F.2.2.2.2 in_X7_go_X7 F.2.2.2.1 hK.1 hP 0 rfl rfl 30 (Nat.le_of_ble_eq_true rfl) (F.2.2.2.2 (.fieldLink RX7 59 "LouderRoomModel" "then" "[I") (List.mem_of_getElem? (i := 2) rfl)) (fun _ h9 => h9) rfl dX7_go_73 ?_
              refine lv_iload_n hx hb dX7_go_76 rfl (lv_at hl 3 rfl) ?_
              obtain ⟨hi, hf⟩ := grd hf
              refine va_iald hx hb hK.1 hP 17 0 rfl rfl (inb_in hi) dX7_go_77 ?_
              obtain ⟨hi, hf⟩ := grd hf
              refine pt_iast (w1 := fl [oX7 ty h0 a0 (sA w0 29 (upd (w0.2 29) y3.toNatClampNeg (w0.2 30 y3.toNatClampNeg)))]) F hK.1 hP hD hS 16 0 rfl rfl (inb_in hi) rfl dX7_go_78 (fun H locs hP hD hS => ?_)
              obtain ⟨g4, ex⟩ : ∃ y : Ob, y = (sA w0 29 (upd (w0.2 29) y3.toNatClampNeg (w0.2 30 y3.toNatClampNeg))) := ⟨_, rfl⟩
              replace hf := bnd_at hf ex; rw [← ex] at hP hD; clear ex
              obtain ⟨x5, ex⟩ : ∃ y : Int32, y = (y3 + (1 : Int32)) := ⟨_, rfl⟩
              replace hf := bnd_at hf ex
              refine lv_iinc (v := x5) (lv' := [(3, .int x5), (1, .int x3), (0, .ref h0), (2, .int y2)]) hx hb dX7_go_79 hl (k := 3) rfl (by rw [ex]; rfl) (by decide) rfl (fun ls hl => ?_)
              clear ex
              refine lv_goto (tgt := 36) hx hb dX7_go_82 (by decide) ?_
              exact ih_36 x3 x5 g4 _ _ _ hP hD hS (lv_sub hl [2, 1, 3, 0] rfl) hf
            refine lv_iload_n hx hb dX7_go_36 rfl (lv_at hl 3 rfl) ?_
            refine lv_aload_n hx hb dX7_go_37 rfl (lv_at hl 0 rfl) ?_
            refine va_get (D := D) (ci := 7) (C := RX7) (T := TX7) (N := 40) hx hb F.2.2.2.2 in_X7_go_X7 F.2.2.2.1 hK.1 hP 0 rfl rfl 32 (Nat.le_of_ble_eq_true rfl) (F.2.2.2.2 (.fieldLink RX7 141 "LouderRoomModel" "many" "I") (List.mem_of_getElem? (i := 1) rfl)) (fun _ h9 => h9) rfl dX7_go_38 ?_
            refine lv_icmp_ge (tgt := 85) hx hb dX7_go_41 (by decide) (fun hc => ?_) (fun hc => ?_)
            · replace hf := ite_t hf hc
              refine lv_iload_n hx hb dX7_go_85 rfl (lv_at hl 1 rfl) ?_
              refine lv_if_ne (tgt := 101) hx hb dX7_go_86 (by decide) (fun hc => ?_) (fun hc => ?_)
              · replace hf := ite_f hf hc
                exact J_101 y1 y2 w0 _ _ _ hP hD hS (lv_sub hl [0, 1, 2] rfl) hf
              · replace hf := ite_t hf hc
                refine lv_iload_n hx hb dX7_go_89 rfl (lv_at hl 2 rfl) ?_
                refine lv_aload_n hx hb dX7_go_90 rfl (lv_at hl 0 rfl) ?_
                refine va_get (D := D) (ci := 7) (C := RX7) (T := TX7) (N := 40) hx hb F.2.2.2.2 in_X7_go_X7 F.2.2.2.1 hK.1 hP 0 rfl rfl 31 (Nat.le_of_ble_eq_true rfl) (F.2.2.2.2 (.fieldLink RX7 138 "LouderRoomModel" "m" "I") (List.mem_of_getElem? (i := 4) rfl)) (fun _ h9 => h9) rfl dX7_go_91 ?_
                refine lv_icmp_eq (tgt := 101) hx hb dX7_go_94 (by decide) (fun hc => ?_) (fun hc => ?_)
                · replace hf := ite_t hf hc
                  exact J_101 y1 y2 w0 _ _ _ hP hD hS (lv_sub hl [0, 1, 2] rfl) hf
                · replace hf := ite_f hf hc
                  refine lv_iconst (v := (1 : Int32)) hx hb dX7_go_97 (by decide) ?_
                  refine lv_goto (tgt := 102) hx hb dX7_go_98 (by decide) ?_
                  exact J_102 y1 y2 (1 : Int32) w0 _ _ _ hP hD hS (lv_sub hl [0, 1, 2] rfl) hf
            · replace hf := ite_f hf hc
              refine lv_iload_n hx hb dX7_go_44 rfl (lv_at hl 1 rfl) ?_
              refine lv_aload_n hx hb dX7_go_45 rfl (lv_at hl 0 rfl) ?_
              refine va_get (D := D) (ci := 7) (C := RX7) (T := TX7) (N := 40) hx hb F.2.2.2.2 in_X7_go_X7 F.2.2.2.1 hK.1 hP 0 rfl rfl 30 (Nat.le_of_ble_eq_true rfl) (F.2.2.2.2 (.fieldLink RX7 59 "LouderRoomModel" "then" "[I") (List.mem_of_getElem? (i := 2) rfl)) (fun _ h9 => h9) rfl dX7_go_46 ?_
              refine lv_iload_n hx hb dX7_go_49 rfl (lv_at hl 3 rfl) ?_
              obtain ⟨hi, hf⟩ := grd hf
              refine va_iald hx hb hK.1 hP 17 0 rfl rfl (inb_in hi) dX7_go_50 ?_
              refine lv_aload_n hx hb dX7_go_51 rfl (lv_at hl 0 rfl) ?_
              refine va_get (D := D) (ci := 7) (C := RX7) (T := TX7) (N := 40) hx hb F.2.2.2.2 in_X7_go_X7 F.2.2.2.1 hK.1 hP 0 rfl rfl 29 (Nat.le_of_ble_eq_true rfl) (F.2.2.2.2 (.fieldLink RX7 56 "LouderRoomModel" "v" "[I") (List.mem_of_getElem? (i := 3) rfl)) (fun _ h9 => h9) rfl dX7_go_52 ?_
              refine lv_iload_n hx hb dX7_go_55 rfl (lv_at hl 3 rfl) ?_
              obtain ⟨hi, hf⟩ := grd hf
              refine va_iald hx hb hK.1 hP 16 0 rfl rfl (inb_in hi) dX7_go_56 ?_
              refine lv_icmp_ne (tgt := 64) hx hb dX7_go_57 (by decide) (fun hc => ?_) (fun hc => ?_)
              · replace hf := ite_f hf hc
                refine lv_iconst (v := (1 : Int32)) hx hb dX7_go_64 (by decide) ?_
                exact J_65 y3 (1 : Int32) y1 w0 _ _ _ hP hD hS (lv_sub hl [0, 2, 3] rfl) hf
              · replace hf := ite_t hf hc
                refine lv_iconst (v := (0 : Int32)) hx hb dX7_go_60 (by decide) ?_
                refine lv_goto (tgt := 65) hx hb dX7_go_61 (by decide) ?_
                exact J_65 y3 (0 : Int32) y1 w0 _ _ _ hP hD hS (lv_sub hl [0, 2, 3] rfl) hf
        exact L_36 y2 FU y1 (0 : Int32) w0 _ _ _ hP hD hS (lv_sub hl [1, 2, 3, 0] rfl) hf
      · replace hf := ite_f hf hc
        refine lv_aload_n hx hb dX7_go_17 rfl (lv_at hl 0 rfl) ?_
        refine va_get (D := D) (ci := 7) (C := RX7) (T := TX7) (N := 40) hx hb F.2.2.2.2 in_X7_go_X7 F.2.2.2.1 hK.1 hP 0 rfl rfl 30 (Nat.le_of_ble_eq_true rfl) (F.2.2.2.2 (.fieldLink RX7 59 "LouderRoomModel" "then" "[I") (List.mem_of_getElem? (i := 2) rfl)) (fun _ h9 => h9) rfl dX7_go_18 ?_
        refine lv_iload_n hx hb dX7_go_21 rfl (lv_at hl 3 rfl) ?_
        refine lv_aload_n hx hb dX7_go_22 rfl (lv_at hl 0 rfl) ?_
        refine lv_iload_n hx hb dX7_go_23 rfl (lv_at hl 3 rfl) ?_
        obtain ⟨v6, hv, hf⟩ := obd hf
        have hp1 : List.Perm [oX7 ty h0 a0 w0] ([oX7 ty h0 a0 w0] ++ []) := (List.Perm.refl _)
        refine ci_call (out := v6) (os := [oX7 ty h0 a0 w0]) (oc := [oX7 ty h0 a0 w0]) (oc' := [oX7 ty h0 a0 w0]) (or_ := []) (os' := [oX7 ty h0 a0 w0]) (va_runV (As := [.int y3]) (rest := [.int y3, .ref (a0 30)]) F (c_X7_voiceThen l D ty h0 a0 _ _ _ hv _) (cwV 1 F.2.2.2.2 gX7_go_X7_voiceThen rfl rfl rfl ⟨rfl, hd_X7_voiceThen⟩ ⟨Nat.le_of_ble_eq_true rfl, Nat.le_of_ble_eq_true rfl⟩) (pre_v hK hP hD hp1 rfl rfl rfl) rfl rfl hl.1 rfl (lv_room (Nat.le_of_ble_eq_true rfl)) dX7_go_24 ⟨Nat.zero_le _, Nat.zero_le _⟩) hp1 (List.Perm.refl _) hP hD hS hA (fun H locs hP hD hS => ?_)
        clear hp1 hv
        obtain ⟨hi, hf⟩ := grd hf
        refine pt_iast (w1 := fl [oX7 ty h0 a0 (sA w0 30 (upd (w0.2 30) y3.toNatClampNeg v6))]) F hK.1 hP hD hS 17 0 rfl rfl (inb_in hi) rfl dX7_go_27 (fun H locs hP hD hS => ?_)
        obtain ⟨g7, ex⟩ : ∃ y : Ob, y = (sA w0 30 (upd (w0.2 30) y3.toNatClampNeg v6)) := ⟨_, rfl⟩
        replace hf := bnd_at hf ex; rw [← ex] at hP hD; clear ex
        obtain ⟨x8, ex⟩ : ∃ y : Int32, y = (y3 + (1 : Int32)) := ⟨_, rfl⟩
        replace hf := bnd_at hf ex
        refine lv_iinc (v := x8) (lv' := [(3, .int x8), (0, .ref h0), (1, .int y1), (2, .int y2)]) hx hb dX7_go_28 hl (k := 3) rfl (by rw [ex]; rfl) (by decide) rfl (fun ls hl => ?_)
        clear ex
        refine lv_goto (tgt := 9) hx hb dX7_go_31 (by decide) ?_
        exact ih_9 x8 g7 _ _ _ hP hD hS (lv_sub hl [1, 2, 3, 0] rfl) hf
  exact L_9 (0 : Int32) v2 FU (0 : Int32) z0 _ _ _ hP hD hS (lv_sub hl [3, 2, 1, 0] rfl) hf
def j_X7_about_53 (p1 : Int32) (r_16 : Int32 → Int32 → Int32 → Option (Int32 × Ob)) (w0 : Ob) (y2 : Int32) (y4 : Int32) (t0 : Int32) (t1 : Int32) : Option (Int32 × Ob) := bnd (t1 ||| t0) (fun x3 => bnd (y4 + (1 : Int32)) (fun x4 => r_16 y2 x3 x4))
def b_X7_about_16 (p1 : Int32) (w0 : Ob) (r_16 : Int32 → Int32 → Int32 → Option (Int32 × Ob)) (y2 : Int32) (y3 : Int32) (y4 : Int32) : Option (Int32 × Ob) := (if (w0.1 4) ≤ y4 then (if p1 = (0 : Int32) then some ((w0.1 4), w0) else (if p1 = (1 : Int32) then some (y2, w0) else (if p1 = (2 : Int32) then some ((w0.1 10), w0) else (if p1 = (3 : Int32) then some ((w0.1 11), w0) else (if p1 = (4 : Int32) then (f_X7_echo w0).bind (fun v5 => some (v5, w0)) else (if p1 = (5 : Int32) then (f_X7_loudAll w0).bind (fun v6 => some (v6, w0)) else (if p1 = (6 : Int32) then some (y3, w0) else (if p1 = (7 : Int32) then some ((w0.1 13), w0) else (if p1 = (8 : Int32) then some ((w0.1 23), w0) else (if p1 = (9 : Int32) then some ((w0.1 26), w0) else (if p1 = (10 : Int32) then some ((w0.1 2), w0) else some ((-2 : Int32), w0)))))))))))) else (if inb y4 8 = true then bnd (y2 + (w0.2 7 y4.toNatClampNeg)) (fun x7 => (f_X7_hears w0 y4).bind (fun v8 => (if v8 = 0 then j_X7_about_53 p1 r_16 w0 x7 y4 (0 : Int32) y3 else j_X7_about_53 p1 r_16 w0 x7 y4 ((1 : Int32) <<< (y4 &&& 31)) y3))) else none))
def f_X7_about (z0 : Ob) (p1 : Int32) : Option (Int32 × Ob) := bnd (sI z0 0 (0 : Int32)) (fun g1 => (f_X7_begin g1).bind (fun g2 => fuel3 (b_X7_about_16 p1 g2) FU (0 : Int32) (0 : Int32) (0 : Int32)))
abbrev rm_X7_about : Room := { frames := 6, cells := 0, slots := 0, locals := 128 }
theorem hd_X7_about : yX7_about.cls ≠ "java/lang/invoke/MethodHandle" ∧ yX7_about.cls ≠ "java/lang/invoke/VarHandle" ∧ (parseMethodDescriptor yX7_about.desc).map (fun d => d.parameters.length) = some 1 := by decide +kernel
theorem in_X7_about_X7 : ∀ w ∈ wsX70, w ∈ wsX7_about := fun w h => List.mem_cons_of_mem _ (List.mem_append_right _ h)
set_option maxHeartbeats 4000000 in
set_option maxRecDepth 100000 in
theorem c_X7_about (l : Launch) (D : va_G) (ty : TY) (h0 : Nat) (a0 : Nat → Nat) (z0 : Ob) (p1 : Int32) (o0 : Int32) (o1 : Ob) (hf : f_X7_about z0 p1 = some (o0, o1)) (sz : Nat) : CX l yX7_about wsX7_about rm_X7_about ([.ref h0, .int p1] : List Value) D ty (fl [oX7 ty h0 a0 z0]) sz (qI D o0 (fl [oX7 ty h0 a0 o1])) 0 0 := by
  refine CX_of (cc := cX7_about) (maxL := 5) (ret := (some .int)) (C := RX7) (by decide) rfl rfl (Nat.le_of_ble_eq_true rfl) ?_
  intro p e s m below meth c A ls F hr hlk _ hK hP hD hS hA hl
  have hx := F.1
  have hb := F.2.1
  replace hl : lv_has ls 5 [(0, .ref h0), (1, .int p1)] := hl
  unfold f_X7_about at hf
  refine lv_aload_n hx hb dX7_about_0 rfl (lv_at hl 0 rfl) ?_
  refine lv_iconst (v := (0 : Int32)) hx hb dX7_about_1 (by decide) ?_
  refine pt_put (D := D) (ci := 7) (fty := .int) (C := RX7) (T := TX7) (N := 40) (w1 := fl [oX7 ty h0 a0 (sI z0 0 (0 : Int32))]) F in_X7_about_X7 tyX7 tyX7_ok nmX7 hK.1 hP hD hS 0 rfl rfl 0 (Nat.le_of_ble_eq_true rfl) (F.2.2.2.2 (.fieldLink RX7 71 "LouderRoomModel" "thrown" "I") (List.mem_of_getElem? (i := 1) rfl)) (fun _ h9 => h9) rfl (by decide +kernel) rfl rfl (Nat.le_of_ble_eq_true rfl) rfl dX7_about_2 (fun H locs hP hD hS => ?_)
  obtain ⟨g1, ex⟩ : ∃ y : Ob, y = (sI z0 0 (0 : Int32)) := ⟨_, rfl⟩
  replace hf := bnd_at hf ex; rw [← ex] at hP hD; clear ex
  refine lv_aload_n hx hb dX7_about_5 rfl (lv_at hl 0 rfl) ?_
  obtain ⟨g2, hv, hf⟩ := obd hf
  have hp1 : List.Perm [oX7 ty h0 a0 g1] ([oX7 ty h0 a0 g1] ++ []) := (List.Perm.refl _)
  refine cv_call (os := [oX7 ty h0 a0 g1]) (oc := [oX7 ty h0 a0 g1]) (oc' := [oX7 ty h0 a0 g2]) (or_ := []) (os' := [oX7 ty h0 a0 g2]) (va_runV (As := []) (rest := []) F (c_X7_begin l D ty h0 a0 _ _ hv _) (cwV 0 F.2.2.2.2 gX7_about_X7_begin rfl rfl rfl ⟨rfl, hd_X7_begin⟩ ⟨Nat.le_of_ble_eq_true rfl, Nat.le_of_ble_eq_true rfl⟩) (pre_v hK hP hD hp1 rfl rfl rfl) rfl rfl hl.1 rfl (lv_room (Nat.le_of_ble_eq_true rfl)) dX7_about_6 ⟨Nat.zero_le _, Nat.zero_le _⟩) hp1 (List.Perm.refl _) hP hD hS hA (fun H locs hP hD hS => ?_)
  clear hp1 hv
  refine lv_iconst (v := (0 : Int32)) hx hb dX7_about_9 (by decide) ?_
  refine lv_istore_n (lv' := [(2, .int (0 : Int32)), (0, .ref h0), (1, .int p1)]) hx hb dX7_about_10 rfl hl (by decide) rfl (fun ls hl => ?_)
  refine lv_iconst (v := (0 : Int32)) hx hb dX7_about_11 (by decide) ?_
  refine lv_istore_n (lv' := [(3, .int (0 : Int32)), (2, .int (0 : Int32)), (0, .ref h0), (1, .int p1)]) hx hb dX7_about_12 rfl hl (by decide) rfl (fun ls hl => ?_)
  refine lv_iconst (v := (0 : Int32)) hx hb dX7_about_13 (by decide) ?_
  refine lv_istore (lv' := [(4, .int (0 : Int32)), (3, .int (0 : Int32)), (2, .int (0 : Int32)), (0, .ref h0), (1, .int p1)]) hx hb dX7_about_14 hl (by decide) rfl (fun ls hl => ?_)
  have L_16 : ∀ (w0 : Ob) (n : Nat) (y2 : Int32) (y3 : Int32) (y4 : Int32) (H : Heap) (locs : List Loc) (ls : Array Slot), va_P D vwC (fl [oX7 ty h0 a0 w0]) H → va_D A (fl [oX7 ty h0 a0 w0]) → va_S A s.heap H locs → lv_has ls 5 [(0, .ref h0), (1, .int p1), (2, .int y2), (3, .int y3), (4, .int y4)] → fuel3 (b_X7_about_16 p1 w0) n y2 y3 y4 = some (o0, o1) → W p l e rm_X7_about s m ([.ref h0, .int p1] : List Value).toArray below meth c H locs 0 0 (MQ below (qI D o0 (fl [oX7 ty h0 a0 o1]) A) ([.ref h0, .int p1] : List Value).toArray s 0 0 A) (F0 m 16 ls []) := by
    intro w0 n
    induction n with
    | zero => intro y2 y3 y4 H locs ls hP hD hS hl hf; cases hf
    | succ n ih_16 =>
      intro y2 y3 y4 H locs ls hP hD hS hl hf
      replace hf : b_X7_about_16 p1 w0 (fuel3 (b_X7_about_16 p1 w0) n) y2 y3 y4 = some (o0, o1) := hf
      generalize fuel3 (b_X7_about_16 p1 w0) n = r_16 at ih_16 hf
      unfold b_X7_about_16 at hf
      have J_53 : ∀ (y2 : Int32) (y4 : Int32) (t0 : Int32) (t1 : Int32) (H : Heap) (locs : List Loc) (ls : Array Slot), va_P D vwC (fl [oX7 ty h0 a0 w0]) H → va_D A (fl [oX7 ty h0 a0 w0]) → va_S A s.heap H locs → lv_has ls 5 [(0, .ref h0), (1, .int p1), (2, .int y2), (4, .int y4)] → j_X7_about_53 p1 r_16 w0 y2 y4 t0 t1 = some (o0, o1) → W p l e rm_X7_about s m ([.ref h0, .int p1] : List Value).toArray below meth c H locs 0 0 (MQ below (qI D o0 (fl [oX7 ty h0 a0 o1]) A) ([.ref h0, .int p1] : List Value).toArray s 0 0 A) (F0 m 53 ls [.int t0, .int t1]) := by
        intro y2 y4 t0 t1 H locs ls hP hD hS hl hf
        unfold j_X7_about_53 at hf
        refine lv_ior hx hb dX7_about_53 ?_
        refine lv_topi (fun x3 ex => ?_)
        replace hf := bnd_at hf ex; clear ex
        refine lv_istore_n (lv' := [(3, .int x3), (0, .ref h0), (1, .int p1), (2, .int y2), (4, .int y4)]) hx hb dX7_about_54 rfl hl (by decide) rfl (fun ls hl => ?_)
        obtain ⟨x4, ex⟩ : ∃ y : Int32, y = (y4 + (1 : Int32)) := ⟨_, rfl⟩
        replace hf := bnd_at hf ex
        refine lv_iinc (v := x4) (lv' := [(4, .int x4), (3, .int x3), (0, .ref h0), (1, .int p1), (2, .int y2)]) hx hb dX7_about_55 hl (k := 4) rfl (by rw [ex]; rfl) (by decide) rfl (fun ls hl => ?_)
        clear ex
        refine lv_goto (tgt := 16) hx hb dX7_about_58 (by decide) ?_
        exact ih_16 y2 x3 x4 _ _ _ hP hD hS (lv_sub hl [2, 3, 4, 1, 0] rfl) hf
      refine lv_iload hx hb dX7_about_16 (lv_at hl 4 rfl) ?_
      refine lv_aload_n hx hb dX7_about_18 rfl (lv_at hl 0 rfl) ?_
      refine va_get (D := D) (ci := 7) (C := RX7) (T := TX7) (N := 40) hx hb F.2.2.2.2 in_X7_about_X7 F.2.2.2.1 hK.1 hP 0 rfl rfl 4 (Nat.le_of_ble_eq_true rfl) (F.2.2.2.2 (.fieldLink RX7 75 "LouderRoomModel" "rings" "I") (List.mem_of_getElem? (i := 2) rfl)) (fun _ h9 => h9) rfl dX7_about_19 ?_
      refine lv_icmp_ge (tgt := 61) hx hb dX7_about_22 (by decide) (fun hc => ?_) (fun hc => ?_)
      · replace hf := ite_t hf hc
        refine lv_iload_n hx hb dX7_about_61 rfl (lv_at hl 1 rfl) ?_
        by_cases hc0 : p1 = (0 : Int32)
        · replace hf := ite_t hf hc0
          refine lv_tableIn (tgt := 120) hx hb dX7_about_62 (by rw [hc0]; decide) (by rw [hc0]; decide) (by rw [hc0]; rfl) (by decide) ?_
          refine lv_aload_n hx hb dX7_about_120 rfl (lv_at hl 0 rfl) ?_
          refine va_get (D := D) (ci := 7) (C := RX7) (T := TX7) (N := 40) hx hb F.2.2.2.2 in_X7_about_X7 F.2.2.2.1 hK.1 hP 0 rfl rfl 4 (Nat.le_of_ble_eq_true rfl) (F.2.2.2.2 (.fieldLink RX7 75 "LouderRoomModel" "rings" "I") (List.mem_of_getElem? (i := 2) rfl)) (fun _ h9 => h9) rfl dX7_about_121 ?_
          obtain hf := hf
          obtain ⟨e0, e1⟩ := tup2 hf
          rw [e1] at hP hD
          exact CX_i F hr hlk hP hD hS e0 dX7_about_124
        replace hf := ite_f hf hc0
        by_cases hc1 : p1 = (1 : Int32)
        · replace hf := ite_t hf hc1
          refine lv_tableIn (tgt := 125) hx hb dX7_about_62 (by rw [hc1]; decide) (by rw [hc1]; decide) (by rw [hc1]; rfl) (by decide) ?_
          refine lv_iload_n hx hb dX7_about_125 rfl (lv_at hl 2 rfl) ?_
          obtain hf := hf
          obtain ⟨e0, e1⟩ := tup2 hf
          rw [e1] at hP hD
          exact CX_i F hr hlk hP hD hS e0 dX7_about_126
        replace hf := ite_f hf hc1
        by_cases hc2 : p1 = (2 : Int32)
        · replace hf := ite_t hf hc2
          refine lv_tableIn (tgt := 127) hx hb dX7_about_62 (by rw [hc2]; decide) (by rw [hc2]; decide) (by rw [hc2]; rfl) (by decide) ?_
          refine lv_aload_n hx hb dX7_about_127 rfl (lv_at hl 0 rfl) ?_
          refine va_get (D := D) (ci := 7) (C := RX7) (T := TX7) (N := 40) hx hb F.2.2.2.2 in_X7_about_X7 F.2.2.2.1 hK.1 hP 0 rfl rfl 10 (Nat.le_of_ble_eq_true rfl) (F.2.2.2.2 (.fieldLink RX7 125 "LouderRoomModel" "eats" "I") (List.mem_of_getElem? (i := 4) rfl)) (fun _ h9 => h9) rfl dX7_about_128 ?_
          obtain hf := hf
          obtain ⟨e0, e1⟩ := tup2 hf
          rw [e1] at hP hD
          exact CX_i F hr hlk hP hD hS e0 dX7_about_131
        replace hf := ite_f hf hc2
        by_cases hc3 : p1 = (3 : Int32)
        · replace hf := ite_t hf hc3
          refine lv_tableIn (tgt := 132) hx hb dX7_about_62 (by rw [hc3]; decide) (by rw [hc3]; decide) (by rw [hc3]; rfl) (by decide) ?_
          refine lv_aload_n hx hb dX7_about_132 rfl (lv_at hl 0 rfl) ?_
          refine va_get (D := D) (ci := 7) (C := RX7) (T := TX7) (N := 40) hx hb F.2.2.2.2 in_X7_about_X7 F.2.2.2.1 hK.1 hP 0 rfl rfl 11 (Nat.le_of_ble_eq_true rfl) (F.2.2.2.2 (.fieldLink RX7 128 "LouderRoomModel" "music" "I") (List.mem_of_getElem? (i := 5) rfl)) (fun _ h9 => h9) rfl dX7_about_133 ?_
          obtain hf := hf
          obtain ⟨e0, e1⟩ := tup2 hf
          rw [e1] at hP hD
          exact CX_i F hr hlk hP hD hS e0 dX7_about_136
        replace hf := ite_f hf hc3
        by_cases hc4 : p1 = (4 : Int32)
        · replace hf := ite_t hf hc4
          refine lv_tableIn (tgt := 137) hx hb dX7_about_62 (by rw [hc4]; decide) (by rw [hc4]; decide) (by rw [hc4]; rfl) (by decide) ?_
          refine lv_aload_n hx hb dX7_about_137 rfl (lv_at hl 0 rfl) ?_
          obtain ⟨v5, hv, hf⟩ := obd hf
          have hp1 : List.Perm [oX7 ty h0 a0 w0] ([oX7 ty h0 a0 w0] ++ []) := (List.Perm.refl _)
          refine ci_call (out := v5) (os := [oX7 ty h0 a0 w0]) (oc := [oX7 ty h0 a0 w0]) (oc' := [oX7 ty h0 a0 w0]) (or_ := []) (os' := [oX7 ty h0 a0 w0]) (va_runV (As := []) (rest := []) F (c_X7_echo l D ty h0 a0 _ _ hv _) (cwV 0 F.2.2.2.2 gX7_about_X7_echo rfl rfl rfl ⟨rfl, hd_X7_echo⟩ ⟨Nat.le_of_ble_eq_true rfl, Nat.le_of_ble_eq_true rfl⟩) (pre_v hK hP hD hp1 rfl rfl rfl) rfl rfl hl.1 rfl (lv_room (Nat.le_of_ble_eq_true rfl)) dX7_about_138 ⟨Nat.zero_le _, Nat.zero_le _⟩) hp1 (List.Perm.refl _) hP hD hS hA (fun H locs hP hD hS => ?_)
          clear hp1 hv
          obtain hf := hf
          obtain ⟨e0, e1⟩ := tup2 hf
          rw [e1] at hP hD
          exact CX_i F hr hlk hP hD hS e0 dX7_about_141
        replace hf := ite_f hf hc4
        by_cases hc5 : p1 = (5 : Int32)
        · replace hf := ite_t hf hc5
          refine lv_tableIn (tgt := 142) hx hb dX7_about_62 (by rw [hc5]; decide) (by rw [hc5]; decide) (by rw [hc5]; rfl) (by decide) ?_
          refine lv_aload_n hx hb dX7_about_142 rfl (lv_at hl 0 rfl) ?_
          obtain ⟨v6, hv, hf⟩ := obd hf
          have hp1 : List.Perm [oX7 ty h0 a0 w0] ([oX7 ty h0 a0 w0] ++ []) := (List.Perm.refl _)
          refine ci_call (out := v6) (os := [oX7 ty h0 a0 w0]) (oc := [oX7 ty h0 a0 w0]) (oc' := [oX7 ty h0 a0 w0]) (or_ := []) (os' := [oX7 ty h0 a0 w0]) (va_runV (As := []) (rest := []) F (c_X7_loudAll l D ty h0 a0 _ _ hv _) (cwV 0 F.2.2.2.2 gX7_about_X7_loudAll rfl rfl rfl ⟨rfl, hd_X7_loudAll⟩ ⟨Nat.le_of_ble_eq_true rfl, Nat.le_of_ble_eq_true rfl⟩) (pre_v hK hP hD hp1 rfl rfl rfl) rfl rfl hl.1 rfl (lv_room (Nat.le_of_ble_eq_true rfl)) dX7_about_143 ⟨Nat.zero_le _, Nat.zero_le _⟩) hp1 (List.Perm.refl _) hP hD hS hA (fun H locs hP hD hS => ?_)
          clear hp1 hv
          obtain hf := hf
          obtain ⟨e0, e1⟩ := tup2 hf
          rw [e1] at hP hD
          exact CX_i F hr hlk hP hD hS e0 dX7_about_146
        replace hf := ite_f hf hc5
        by_cases hc6 : p1 = (6 : Int32)
        · replace hf := ite_t hf hc6
          refine lv_tableIn (tgt := 147) hx hb dX7_about_62 (by rw [hc6]; decide) (by rw [hc6]; decide) (by rw [hc6]; rfl) (by decide) ?_
          refine lv_iload_n hx hb dX7_about_147 rfl (lv_at hl 3 rfl) ?_
          obtain hf := hf
          obtain ⟨e0, e1⟩ := tup2 hf
          rw [e1] at hP hD
          exact CX_i F hr hlk hP hD hS e0 dX7_about_148
        replace hf := ite_f hf hc6
        by_cases hc7 : p1 = (7 : Int32)
        · replace hf := ite_t hf hc7
          refine lv_tableIn (tgt := 149) hx hb dX7_about_62 (by rw [hc7]; decide) (by rw [hc7]; decide) (by rw [hc7]; rfl) (by decide) ?_
          refine lv_aload_n hx hb dX7_about_149 rfl (lv_at hl 0 rfl) ?_
          refine va_get (D := D) (ci := 7) (C := RX7) (T := TX7) (N := 40) hx hb F.2.2.2.2 in_X7_about_X7 F.2.2.2.1 hK.1 hP 0 rfl rfl 13 (Nat.le_of_ble_eq_true rfl) (F.2.2.2.2 (.fieldLink RX7 122 "LouderRoomModel" "stuffs" "I") (List.mem_of_getElem? (i := 6) rfl)) (fun _ h9 => h9) rfl dX7_about_150 ?_
          obtain hf := hf
          obtain ⟨e0, e1⟩ := tup2 hf
          rw [e1] at hP hD
          exact CX_i F hr hlk hP hD hS e0 dX7_about_153
        replace hf := ite_f hf hc7
        by_cases hc8 : p1 = (8 : Int32)
        · replace hf := ite_t hf hc8
          refine lv_tableIn (tgt := 154) hx hb dX7_about_62 (by rw [hc8]; decide) (by rw [hc8]; decide) (by rw [hc8]; rfl) (by decide) ?_
          refine lv_aload_n hx hb dX7_about_154 rfl (lv_at hl 0 rfl) ?_
          refine va_get (D := D) (ci := 7) (C := RX7) (T := TX7) (N := 40) hx hb F.2.2.2.2 in_X7_about_X7 F.2.2.2.1 hK.1 hP 0 rfl rfl 23 (Nat.le_of_ble_eq_true rfl) (F.2.2.2.2 (.fieldLink RX7 135 "LouderRoomModel" "acts" "I") (List.mem_of_getElem? (i := 7) rfl)) (fun _ h9 => h9) rfl dX7_about_155 ?_
          obtain hf := hf
          obtain ⟨e0, e1⟩ := tup2 hf
          rw [e1] at hP hD
          exact CX_i F hr hlk hP hD hS e0 dX7_about_158
        replace hf := ite_f hf hc8
        by_cases hc9 : p1 = (9 : Int32)
        · replace hf := ite_t hf hc9
          refine lv_tableIn (tgt := 159) hx hb dX7_about_62 (by rw [hc9]; decide) (by rw [hc9]; decide) (by rw [hc9]; rfl) (by decide) ?_
          refine lv_aload_n hx hb dX7_about_159 rfl (lv_at hl 0 rfl) ?_
          refine va_get (D := D) (ci := 7) (C := RX7) (T := TX7) (N := 40) hx hb F.2.2.2.2 in_X7_about_X7 F.2.2.2.1 hK.1 hP 0 rfl rfl 26 (Nat.le_of_ble_eq_true rfl) (F.2.2.2.2 (.fieldLink RX7 198 "LouderRoomModel" "meters" "I") (List.mem_of_getElem? (i := 8) rfl)) (fun _ h9 => h9) rfl dX7_about_160 ?_
          obtain hf := hf
          obtain ⟨e0, e1⟩ := tup2 hf
          rw [e1] at hP hD
          exact CX_i F hr hlk hP hD hS e0 dX7_about_163
        replace hf := ite_f hf hc9
        by_cases hc10 : p1 = (10 : Int32)
        · replace hf := ite_t hf hc10
          refine lv_tableIn (tgt := 164) hx hb dX7_about_62 (by rw [hc10]; decide) (by rw [hc10]; decide) (by rw [hc10]; rfl) (by decide) ?_
          refine lv_aload_n hx hb dX7_about_164 rfl (lv_at hl 0 rfl) ?_
          refine va_get (D := D) (ci := 7) (C := RX7) (T := TX7) (N := 40) hx hb F.2.2.2.2 in_X7_about_X7 F.2.2.2.1 hK.1 hP 0 rfl rfl 2 (Nat.le_of_ble_eq_true rfl) (F.2.2.2.2 (.fieldLink RX7 84 "LouderRoomModel" "textSize" "I") (List.mem_of_getElem? (i := 9) rfl)) (fun _ h9 => h9) rfl dX7_about_165 ?_
          obtain hf := hf
          obtain ⟨e0, e1⟩ := tup2 hf
          rw [e1] at hP hD
          exact CX_i F hr hlk hP hD hS e0 dX7_about_168
        replace hf := ite_f hf hc10
        refine lv_tableOut (tgt := 169) hx hb dX7_about_62 (sw_out11 hc0 hc1 hc2 hc3 hc4 hc5 hc6 hc7 hc8 hc9 hc10) (by decide) ?_
        refine lv_bipush (v := (-2 : Int32)) hx hb dX7_about_169 (by decide) ?_
        obtain hf := hf
        obtain ⟨e0, e1⟩ := tup2 hf
        rw [e1] at hP hD
        exact CX_i F hr hlk hP hD hS e0 dX7_about_171
      · replace hf := ite_f hf hc
        refine lv_iload_n hx hb dX7_about_25 rfl (lv_at hl 2 rfl) ?_
        refine lv_aload_n hx hb dX7_about_26 rfl (lv_at hl 0 rfl) ?_
        refine va_get (D := D) (ci := 7) (C := RX7) (T := TX7) (N := 40) hx hb F.2.2.2.2 in_X7_about_X7 F.2.2.2.1 hK.1 hP 0 rfl rfl 7 (Nat.le_of_ble_eq_true rfl) (F.2.2.2.2 (.fieldLink RX7 19 "LouderRoomModel" "people" "[I") (List.mem_of_getElem? (i := 3) rfl)) (fun _ h9 => h9) rfl dX7_about_27 ?_
        refine lv_iload hx hb dX7_about_30 (lv_at hl 4 rfl) ?_
        obtain ⟨hi, hf⟩ := grd hf
        refine va_iald hx hb hK.1 hP 4 0 rfl rfl (inb_in hi) dX7_about_32 ?_
        refine lv_iadd hx hb dX7_about_33 ?_
        refine lv_topi (fun x7 ex => ?_)
        replace hf := bnd_at hf ex; clear ex
        refine lv_istore_n (lv' := [(2, .int x7), (0, .ref h0), (1, .int p1), (3, .int y3), (4, .int y4)]) hx hb dX7_about_34 rfl hl (by decide) rfl (fun ls hl => ?_)
        refine lv_iload_n hx hb dX7_about_35 rfl (lv_at hl 3 rfl) ?_
        refine lv_aload_n hx hb dX7_about_36 rfl (lv_at hl 1 rfl) ?_
        refine lv_iload hx hb dX7_about_37 (lv_at hl 4 rfl) ?_
        obtain ⟨v8, hv, hf⟩ := obd hf
        have hp1 : List.Perm [oX7 ty h0 a0 w0] ([oX7 ty h0 a0 w0] ++ []) := (List.Perm.refl _)
        refine ci_call (out := v8) (os := [oX7 ty h0 a0 w0]) (oc := [oX7 ty h0 a0 w0]) (oc' := [oX7 ty h0 a0 w0]) (or_ := []) (os' := [oX7 ty h0 a0 w0]) (va_runV (As := [.int y4]) (rest := [.int y3]) F (c_X7_hears l D ty h0 a0 _ _ _ hv _) (cwV 1 F.2.2.2.2 gX7_about_X7_hears rfl rfl rfl ⟨rfl, hd_X7_hears⟩ ⟨Nat.le_of_ble_eq_true rfl, Nat.le_of_ble_eq_true rfl⟩) (pre_v hK hP hD hp1 rfl rfl rfl) rfl rfl hl.1 rfl (lv_room (Nat.le_of_ble_eq_true rfl)) dX7_about_39 ⟨Nat.zero_le _, Nat.zero_le _⟩) hp1 (List.Perm.refl _) hP hD hS hA (fun H locs hP hD hS => ?_)
        clear hp1 hv
        refine lv_if_eq (tgt := 52) hx hb dX7_about_42 (by decide) (fun hc => ?_) (fun hc => ?_)
        · replace hf := ite_t hf hc
          refine lv_iconst (v := (0 : Int32)) hx hb dX7_about_52 (by decide) ?_
          exact J_53 x7 y4 (0 : Int32) y3 _ _ _ hP hD hS (lv_sub hl [1, 2, 0, 4] rfl) hf
        · replace hf := ite_f hf hc
          refine lv_iconst (v := (1 : Int32)) hx hb dX7_about_45 (by decide) ?_
          refine lv_iload hx hb dX7_about_46 (lv_at hl 4 rfl) ?_
          refine lv_ishl hx hb dX7_about_48 ?_
          refine lv_goto (tgt := 53) hx hb dX7_about_49 (by decide) ?_
          exact J_53 x7 y4 ((1 : Int32) <<< (y4 &&& 31)) y3 _ _ _ hP hD hS (lv_sub hl [1, 2, 0, 4] rfl) hf
  exact L_16 g2 FU (0 : Int32) (0 : Int32) (0 : Int32) _ _ _ hP hD hS (lv_sub hl [3, 4, 2, 1, 0] rfl) hf
def f_X7_ring (z0 : Ob) (p1 : Int32) (p2 : Int32) : Option (Int32 × Ob) := bnd (sI z0 0 (0 : Int32)) (fun g1 => (f_X7_noRing g1 p1).bind (fun v2 => (if v2 = 0 then (f_X7_begin g1).bind (fun g3 => (if p2 = (0 : Int32) then (if inb p1 8 = true then some ((g3.2 5 p1.toNatClampNeg), g3) else none) else (if p2 = (1 : Int32) then (if inb p1 8 = true then some ((g3.2 6 p1.toNatClampNeg), g3) else none) else (if p2 = (2 : Int32) then (if inb p1 8 = true then some ((g3.2 7 p1.toNatClampNeg), g3) else none) else (if p2 = (3 : Int32) then (if inb p1 8 = true then some ((g3.2 8 p1.toNatClampNeg), g3) else none) else (if p2 = (4 : Int32) then (if inb p1 8 = true then some ((g3.2 9 p1.toNatClampNeg), g3) else none) else (if p2 = (5 : Int32) then (f_X7_loudOf g3 p1).bind (fun v4 => some (v4, g3)) else (if p2 = (6 : Int32) then (f_X7_loudOf g3 p1).bind (fun v5 => (f_X7_soundOf g3 p1 v5).bind (fun v6 => some (v6, g3))) else (if p2 = (7 : Int32) then (if inb p1 8 = true then (f_X7_noiseAt g3 (g3.2 6 p1.toNatClampNeg)).bind (fun v7 => some (v7, g3)) else none) else (if p2 = (8 : Int32) then (f_X7_hears g3 p1).bind (fun v8 => (if v8 = 0 then some ((0 : Int32), g3) else some ((1 : Int32), g3))) else some ((-2 : Int32), g3))))))))))) else some ((-1 : Int32), g1))))
abbrev rm_X7_ring : Room := { frames := 6, cells := 0, slots := 0, locals := 128 }
theorem hd_X7_ring : yX7_ring.cls ≠ "java/lang/invoke/MethodHandle" ∧ yX7_ring.cls ≠ "java/lang/invoke/VarHandle" ∧ (parseMethodDescriptor yX7_ring.desc).map (fun d => d.parameters.length) = some 2 := by decide +kernel
theorem in_X7_ring_X7 : ∀ w ∈ wsX70, w ∈ wsX7_ring := fun w h => List.mem_cons_of_mem _ (List.mem_append_right _ h)
set_option maxHeartbeats 4000000 in
set_option maxRecDepth 100000 in
theorem c_X7_ring (l : Launch) (D : va_G) (ty : TY) (h0 : Nat) (a0 : Nat → Nat) (z0 : Ob) (p1 : Int32) (p2 : Int32) (o0 : Int32) (o1 : Ob) (hf : f_X7_ring z0 p1 p2 = some (o0, o1)) (sz : Nat) : CX l yX7_ring wsX7_ring rm_X7_ring ([.ref h0, .int p1, .int p2] : List Value) D ty (fl [oX7 ty h0 a0 z0]) sz (qI D o0 (fl [oX7 ty h0 a0 o1])) 0 0 := by
  refine CX_of (cc := cX7_ring) (maxL := 3) (ret := (some .int)) (C := RX7) (by decide) rfl rfl (Nat.le_of_ble_eq_true rfl) ?_
  intro p e s m below meth c A ls F hr hlk _ hK hP hD hS hA hl
  have hx := F.1
  have hb := F.2.1
  replace hl : lv_has ls 3 [(0, .ref h0), (1, .int p1), (2, .int p2)] := hl
  unfold f_X7_ring at hf
  refine lv_aload_n hx hb dX7_ring_0 rfl (lv_at hl 0 rfl) ?_
  refine lv_iconst (v := (0 : Int32)) hx hb dX7_ring_1 (by decide) ?_
  refine pt_put (D := D) (ci := 7) (fty := .int) (C := RX7) (T := TX7) (N := 40) (w1 := fl [oX7 ty h0 a0 (sI z0 0 (0 : Int32))]) F in_X7_ring_X7 tyX7 tyX7_ok nmX7 hK.1 hP hD hS 0 rfl rfl 0 (Nat.le_of_ble_eq_true rfl) (F.2.2.2.2 (.fieldLink RX7 71 "LouderRoomModel" "thrown" "I") (List.mem_of_getElem? (i := 1) rfl)) (fun _ h9 => h9) rfl (by decide +kernel) rfl rfl (Nat.le_of_ble_eq_true rfl) rfl dX7_ring_2 (fun H locs hP hD hS => ?_)
  obtain ⟨g1, ex⟩ : ∃ y : Ob, y = (sI z0 0 (0 : Int32)) := ⟨_, rfl⟩
  replace hf := bnd_at hf ex; rw [← ex] at hP hD; clear ex
  refine lv_aload_n hx hb dX7_ring_5 rfl (lv_at hl 0 rfl) ?_
  refine lv_iload_n hx hb dX7_ring_6 rfl (lv_at hl 1 rfl) ?_
  obtain ⟨v2, hv, hf⟩ := obd hf
  have hp1 : List.Perm [oX7 ty h0 a0 g1] ([oX7 ty h0 a0 g1] ++ []) := (List.Perm.refl _)
  refine ci_call (out := v2) (os := [oX7 ty h0 a0 g1]) (oc := [oX7 ty h0 a0 g1]) (oc' := [oX7 ty h0 a0 g1]) (or_ := []) (os' := [oX7 ty h0 a0 g1]) (va_runV (As := [.int p1]) (rest := []) F (c_X7_noRing l D ty h0 a0 _ _ _ hv _) (cwV 1 F.2.2.2.2 gX7_ring_X7_noRing rfl rfl rfl ⟨rfl, hd_X7_noRing⟩ ⟨Nat.le_of_ble_eq_true rfl, Nat.le_of_ble_eq_true rfl⟩) (pre_v hK hP hD hp1 rfl rfl rfl) rfl rfl hl.1 rfl (lv_room (Nat.le_of_ble_eq_true rfl)) dX7_ring_7 ⟨Nat.zero_le _, Nat.zero_le _⟩) hp1 (List.Perm.refl _) hP hD hS hA (fun H locs hP hD hS => ?_)
  clear hp1 hv
  refine lv_if_eq (tgt := 15) hx hb dX7_ring_10 (by decide) (fun hc => ?_) (fun hc => ?_)
  · replace hf := ite_t hf hc
    refine lv_aload_n hx hb dX7_ring_15 rfl (lv_at hl 0 rfl) ?_
    obtain ⟨g3, hv, hf⟩ := obd hf
    have hp1 : List.Perm [oX7 ty h0 a0 g1] ([oX7 ty h0 a0 g1] ++ []) := (List.Perm.refl _)
    refine cv_call (os := [oX7 ty h0 a0 g1]) (oc := [oX7 ty h0 a0 g1]) (oc' := [oX7 ty h0 a0 g3]) (or_ := []) (os' := [oX7 ty h0 a0 g3]) (va_runV (As := []) (rest := []) F (c_X7_begin l D ty h0 a0 _ _ hv _) (cwV 0 F.2.2.2.2 gX7_ring_X7_begin rfl rfl rfl ⟨rfl, hd_X7_begin⟩ ⟨Nat.le_of_ble_eq_true rfl, Nat.le_of_ble_eq_true rfl⟩) (pre_v hK hP hD hp1 rfl rfl rfl) rfl rfl hl.1 rfl (lv_room (Nat.le_of_ble_eq_true rfl)) dX7_ring_16 ⟨Nat.zero_le _, Nat.zero_le _⟩) hp1 (List.Perm.refl _) hP hD hS hA (fun H locs hP hD hS => ?_)
    clear hp1 hv
    refine lv_iload_n hx hb dX7_ring_19 rfl (lv_at hl 2 rfl) ?_
    by_cases hc0 : p2 = (0 : Int32)
    · replace hf := ite_t hf hc0
      refine lv_tableIn (tgt := 72) hx hb dX7_ring_20 (by rw [hc0]; decide) (by rw [hc0]; decide) (by rw [hc0]; rfl) (by decide) ?_
      refine lv_aload_n hx hb dX7_ring_72 rfl (lv_at hl 0 rfl) ?_
      refine va_get (D := D) (ci := 7) (C := RX7) (T := TX7) (N := 40) hx hb F.2.2.2.2 in_X7_ring_X7 F.2.2.2.1 hK.1 hP 0 rfl rfl 5 (Nat.le_of_ble_eq_true rfl) (F.2.2.2.2 (.fieldLink RX7 13 "LouderRoomModel" "kind" "[I") (List.mem_of_getElem? (i := 2) rfl)) (fun _ h9 => h9) rfl dX7_ring_73 ?_
      refine lv_iload_n hx hb dX7_ring_76 rfl (lv_at hl 1 rfl) ?_
      obtain ⟨hi, hf⟩ := grd hf
      refine va_iald hx hb hK.1 hP 2 0 rfl rfl (inb_in hi) dX7_ring_77 ?_
      obtain hf := hf
      obtain ⟨e0, e1⟩ := tup2 hf
      rw [e1] at hP hD
      exact CX_i F hr hlk hP hD hS e0 dX7_ring_78
    replace hf := ite_f hf hc0
    by_cases hc1 : p2 = (1 : Int32)
    · replace hf := ite_t hf hc1
      refine lv_tableIn (tgt := 79) hx hb dX7_ring_20 (by rw [hc1]; decide) (by rw [hc1]; decide) (by rw [hc1]; rfl) (by decide) ?_
      refine lv_aload_n hx hb dX7_ring_79 rfl (lv_at hl 0 rfl) ?_
      refine va_get (D := D) (ci := 7) (C := RX7) (T := TX7) (N := 40) hx hb F.2.2.2.2 in_X7_ring_X7 F.2.2.2.1 hK.1 hP 0 rfl rfl 6 (Nat.le_of_ble_eq_true rfl) (F.2.2.2.2 (.fieldLink RX7 16 "LouderRoomModel" "cell" "[I") (List.mem_of_getElem? (i := 3) rfl)) (fun _ h9 => h9) rfl dX7_ring_80 ?_
      refine lv_iload_n hx hb dX7_ring_83 rfl (lv_at hl 1 rfl) ?_
      obtain ⟨hi, hf⟩ := grd hf
      refine va_iald hx hb hK.1 hP 3 0 rfl rfl (inb_in hi) dX7_ring_84 ?_
      obtain hf := hf
      obtain ⟨e0, e1⟩ := tup2 hf
      rw [e1] at hP hD
      exact CX_i F hr hlk hP hD hS e0 dX7_ring_85
    replace hf := ite_f hf hc1
    by_cases hc2 : p2 = (2 : Int32)
    · replace hf := ite_t hf hc2
      refine lv_tableIn (tgt := 86) hx hb dX7_ring_20 (by rw [hc2]; decide) (by rw [hc2]; decide) (by rw [hc2]; rfl) (by decide) ?_
      refine lv_aload_n hx hb dX7_ring_86 rfl (lv_at hl 0 rfl) ?_
      refine va_get (D := D) (ci := 7) (C := RX7) (T := TX7) (N := 40) hx hb F.2.2.2.2 in_X7_ring_X7 F.2.2.2.1 hK.1 hP 0 rfl rfl 7 (Nat.le_of_ble_eq_true rfl) (F.2.2.2.2 (.fieldLink RX7 19 "LouderRoomModel" "people" "[I") (List.mem_of_getElem? (i := 4) rfl)) (fun _ h9 => h9) rfl dX7_ring_87 ?_
      refine lv_iload_n hx hb dX7_ring_90 rfl (lv_at hl 1 rfl) ?_
      obtain ⟨hi, hf⟩ := grd hf
      refine va_iald hx hb hK.1 hP 4 0 rfl rfl (inb_in hi) dX7_ring_91 ?_
      obtain hf := hf
      obtain ⟨e0, e1⟩ := tup2 hf
      rw [e1] at hP hD
      exact CX_i F hr hlk hP hD hS e0 dX7_ring_92
    replace hf := ite_f hf hc2
    by_cases hc3 : p2 = (3 : Int32)
    · replace hf := ite_t hf hc3
      refine lv_tableIn (tgt := 93) hx hb dX7_ring_20 (by rw [hc3]; decide) (by rw [hc3]; decide) (by rw [hc3]; rfl) (by decide) ?_
      refine lv_aload_n hx hb dX7_ring_93 rfl (lv_at hl 0 rfl) ?_
      refine va_get (D := D) (ci := 7) (C := RX7) (T := TX7) (N := 40) hx hb F.2.2.2.2 in_X7_ring_X7 F.2.2.2.1 hK.1 hP 0 rfl rfl 8 (Nat.le_of_ble_eq_true rfl) (F.2.2.2.2 (.fieldLink RX7 22 "LouderRoomModel" "voice" "[I") (List.mem_of_getElem? (i := 5) rfl)) (fun _ h9 => h9) rfl dX7_ring_94 ?_
      refine lv_iload_n hx hb dX7_ring_97 rfl (lv_at hl 1 rfl) ?_
      obtain ⟨hi, hf⟩ := grd hf
      refine va_iald hx hb hK.1 hP 5 0 rfl rfl (inb_in hi) dX7_ring_98 ?_
      obtain hf := hf
      obtain ⟨e0, e1⟩ := tup2 hf
      rw [e1] at hP hD
      exact CX_i F hr hlk hP hD hS e0 dX7_ring_99
    replace hf := ite_f hf hc3
    by_cases hc4 : p2 = (4 : Int32)
    · replace hf := ite_t hf hc4
      refine lv_tableIn (tgt := 100) hx hb dX7_ring_20 (by rw [hc4]; decide) (by rw [hc4]; decide) (by rw [hc4]; rfl) (by decide) ?_
      refine lv_aload_n hx hb dX7_ring_100 rfl (lv_at hl 0 rfl) ?_
      refine va_get (D := D) (ci := 7) (C := RX7) (T := TX7) (N := 40) hx hb F.2.2.2.2 in_X7_ring_X7 F.2.2.2.1 hK.1 hP 0 rfl rfl 9 (Nat.le_of_ble_eq_true rfl) (F.2.2.2.2 (.fieldLink RX7 25 "LouderRoomModel" "age" "[I") (List.mem_of_getElem? (i := 6) rfl)) (fun _ h9 => h9) rfl dX7_ring_101 ?_
      refine lv_iload_n hx hb dX7_ring_104 rfl (lv_at hl 1 rfl) ?_
      obtain ⟨hi, hf⟩ := grd hf
      refine va_iald hx hb hK.1 hP 6 0 rfl rfl (inb_in hi) dX7_ring_105 ?_
      obtain hf := hf
      obtain ⟨e0, e1⟩ := tup2 hf
      rw [e1] at hP hD
      exact CX_i F hr hlk hP hD hS e0 dX7_ring_106
    replace hf := ite_f hf hc4
    by_cases hc5 : p2 = (5 : Int32)
    · replace hf := ite_t hf hc5
      refine lv_tableIn (tgt := 107) hx hb dX7_ring_20 (by rw [hc5]; decide) (by rw [hc5]; decide) (by rw [hc5]; rfl) (by decide) ?_
      refine lv_aload_n hx hb dX7_ring_107 rfl (lv_at hl 0 rfl) ?_
      refine lv_iload_n hx hb dX7_ring_108 rfl (lv_at hl 1 rfl) ?_
      obtain ⟨v4, hv, hf⟩ := obd hf
      have hp1 : List.Perm [oX7 ty h0 a0 g3] ([oX7 ty h0 a0 g3] ++ []) := (List.Perm.refl _)
      refine ci_call (out := v4) (os := [oX7 ty h0 a0 g3]) (oc := [oX7 ty h0 a0 g3]) (oc' := [oX7 ty h0 a0 g3]) (or_ := []) (os' := [oX7 ty h0 a0 g3]) (va_runV (As := [.int p1]) (rest := []) F (c_X7_loudOf l D ty h0 a0 _ _ _ hv _) (cwV 1 F.2.2.2.2 gX7_ring_X7_loudOf rfl rfl rfl ⟨rfl, hd_X7_loudOf⟩ ⟨Nat.le_of_ble_eq_true rfl, Nat.le_of_ble_eq_true rfl⟩) (pre_v hK hP hD hp1 rfl rfl rfl) rfl rfl hl.1 rfl (lv_room (Nat.le_of_ble_eq_true rfl)) dX7_ring_109 ⟨Nat.zero_le _, Nat.zero_le _⟩) hp1 (List.Perm.refl _) hP hD hS hA (fun H locs hP hD hS => ?_)
      clear hp1 hv
      obtain hf := hf
      obtain ⟨e0, e1⟩ := tup2 hf
      rw [e1] at hP hD
      exact CX_i F hr hlk hP hD hS e0 dX7_ring_112
    replace hf := ite_f hf hc5
    by_cases hc6 : p2 = (6 : Int32)
    · replace hf := ite_t hf hc6
      refine lv_tableIn (tgt := 113) hx hb dX7_ring_20 (by rw [hc6]; decide) (by rw [hc6]; decide) (by rw [hc6]; rfl) (by decide) ?_
      refine lv_aload_n hx hb dX7_ring_113 rfl (lv_at hl 0 rfl) ?_
      refine lv_iload_n hx hb dX7_ring_114 rfl (lv_at hl 1 rfl) ?_
      refine lv_aload_n hx hb dX7_ring_115 rfl (lv_at hl 0 rfl) ?_
      refine lv_iload_n hx hb dX7_ring_116 rfl (lv_at hl 1 rfl) ?_
      obtain ⟨v5, hv, hf⟩ := obd hf
      have hp1 : List.Perm [oX7 ty h0 a0 g3] ([oX7 ty h0 a0 g3] ++ []) := (List.Perm.refl _)
      refine ci_call (out := v5) (os := [oX7 ty h0 a0 g3]) (oc := [oX7 ty h0 a0 g3]) (oc' := [oX7 ty h0 a0 g3]) (or_ := []) (os' := [oX7 ty h0 a0 g3]) (va_runV (As := [.int p1]) (rest := [.int p1, .ref h0]) F (c_X7_loudOf l D ty h0 a0 _ _ _ hv _) (cwV 1 F.2.2.2.2 gX7_ring_X7_loudOf rfl rfl rfl ⟨rfl, hd_X7_loudOf⟩ ⟨Nat.le_of_ble_eq_true rfl, Nat.le_of_ble_eq_true rfl⟩) (pre_v hK hP hD hp1 rfl rfl rfl) rfl rfl hl.1 rfl (lv_room (Nat.le_of_ble_eq_true rfl)) dX7_ring_117 ⟨Nat.zero_le _, Nat.zero_le _⟩) hp1 (List.Perm.refl _) hP hD hS hA (fun H locs hP hD hS => ?_)
      clear hp1 hv
      obtain ⟨v6, hv, hf⟩ := obd hf
      have hp1 : List.Perm [oX7 ty h0 a0 g3] ([oX7 ty h0 a0 g3] ++ []) := (List.Perm.refl _)
      refine ci_call (out := v6) (os := [oX7 ty h0 a0 g3]) (oc := [oX7 ty h0 a0 g3]) (oc' := [oX7 ty h0 a0 g3]) (or_ := []) (os' := [oX7 ty h0 a0 g3]) (va_runV (As := [.int p1, .int v5]) (rest := []) F (c_X7_soundOf l D ty h0 a0 _ _ _ _ hv _) (cwV 2 F.2.2.2.2 gX7_ring_X7_soundOf rfl rfl rfl ⟨rfl, hd_X7_soundOf⟩ ⟨Nat.le_of_ble_eq_true rfl, Nat.le_of_ble_eq_true rfl⟩) (pre_v hK hP hD hp1 rfl rfl rfl) rfl rfl hl.1 rfl (lv_room (Nat.le_of_ble_eq_true rfl)) dX7_ring_120 ⟨Nat.zero_le _, Nat.zero_le _⟩) hp1 (List.Perm.refl _) hP hD hS hA (fun H locs hP hD hS => ?_)
      clear hp1 hv
      obtain hf := hf
      obtain ⟨e0, e1⟩ := tup2 hf
      rw [e1] at hP hD
      exact CX_i F hr hlk hP hD hS e0 dX7_ring_123
    replace hf := ite_f hf hc6
    by_cases hc7 : p2 = (7 : Int32)
    · replace hf := ite_t hf hc7
      refine lv_tableIn (tgt := 124) hx hb dX7_ring_20 (by rw [hc7]; decide) (by rw [hc7]; decide) (by rw [hc7]; rfl) (by decide) ?_
      refine lv_aload_n hx hb dX7_ring_124 rfl (lv_at hl 0 rfl) ?_
      refine lv_aload_n hx hb dX7_ring_125 rfl (lv_at hl 0 rfl) ?_
      refine va_get (D := D) (ci := 7) (C := RX7) (T := TX7) (N := 40) hx hb F.2.2.2.2 in_X7_ring_X7 F.2.2.2.1 hK.1 hP 0 rfl rfl 6 (Nat.le_of_ble_eq_true rfl) (F.2.2.2.2 (.fieldLink RX7 16 "LouderRoomModel" "cell" "[I") (List.mem_of_getElem? (i := 3) rfl)) (fun _ h9 => h9) rfl dX7_ring_126 ?_
      refine lv_iload_n hx hb dX7_ring_129 rfl (lv_at hl 1 rfl) ?_
      obtain ⟨hi, hf⟩ := grd hf
      refine va_iald hx hb hK.1 hP 3 0 rfl rfl (inb_in hi) dX7_ring_130 ?_
      obtain ⟨v7, hv, hf⟩ := obd hf
      have hp1 : List.Perm [oX7 ty h0 a0 g3] ([oX7 ty h0 a0 g3] ++ []) := (List.Perm.refl _)
      refine ci_call (out := v7) (os := [oX7 ty h0 a0 g3]) (oc := [oX7 ty h0 a0 g3]) (oc' := [oX7 ty h0 a0 g3]) (or_ := []) (os' := [oX7 ty h0 a0 g3]) (va_runV (As := [.int (g3.2 6 p1.toNatClampNeg)]) (rest := []) F (c_X7_noiseAt l D ty h0 a0 _ _ _ hv _) (cwV 1 F.2.2.2.2 gX7_ring_X7_noiseAt rfl rfl rfl ⟨rfl, hd_X7_noiseAt⟩ ⟨Nat.le_of_ble_eq_true rfl, Nat.le_of_ble_eq_true rfl⟩) (pre_v hK hP hD hp1 rfl rfl rfl) rfl rfl hl.1 rfl (lv_room (Nat.le_of_ble_eq_true rfl)) dX7_ring_131 ⟨Nat.zero_le _, Nat.zero_le _⟩) hp1 (List.Perm.refl _) hP hD hS hA (fun H locs hP hD hS => ?_)
      clear hp1 hv
      obtain hf := hf
      obtain ⟨e0, e1⟩ := tup2 hf
      rw [e1] at hP hD
      exact CX_i F hr hlk hP hD hS e0 dX7_ring_134
    replace hf := ite_f hf hc7
    by_cases hc8 : p2 = (8 : Int32)
    · replace hf := ite_t hf hc8
      refine lv_tableIn (tgt := 135) hx hb dX7_ring_20 (by rw [hc8]; decide) (by rw [hc8]; decide) (by rw [hc8]; rfl) (by decide) ?_
      refine lv_aload_n hx hb dX7_ring_135 rfl (lv_at hl 0 rfl) ?_
      refine lv_iload_n hx hb dX7_ring_136 rfl (lv_at hl 1 rfl) ?_
      obtain ⟨v8, hv, hf⟩ := obd hf
      have hp1 : List.Perm [oX7 ty h0 a0 g3] ([oX7 ty h0 a0 g3] ++ []) := (List.Perm.refl _)
      refine ci_call (out := v8) (os := [oX7 ty h0 a0 g3]) (oc := [oX7 ty h0 a0 g3]) (oc' := [oX7 ty h0 a0 g3]) (or_ := []) (os' := [oX7 ty h0 a0 g3]) (va_runV (As := [.int p1]) (rest := []) F (c_X7_hears l D ty h0 a0 _ _ _ hv _) (cwV 1 F.2.2.2.2 gX7_ring_X7_hears rfl rfl rfl ⟨rfl, hd_X7_hears⟩ ⟨Nat.le_of_ble_eq_true rfl, Nat.le_of_ble_eq_true rfl⟩) (pre_v hK hP hD hp1 rfl rfl rfl) rfl rfl hl.1 rfl (lv_room (Nat.le_of_ble_eq_true rfl)) dX7_ring_137 ⟨Nat.zero_le _, Nat.zero_le _⟩) hp1 (List.Perm.refl _) hP hD hS hA (fun H locs hP hD hS => ?_)
      clear hp1 hv
      refine lv_if_eq (tgt := 147) hx hb dX7_ring_140 (by decide) (fun hc => ?_) (fun hc => ?_)
      · replace hf := ite_t hf hc
        refine lv_iconst (v := (0 : Int32)) hx hb dX7_ring_147 (by decide) ?_
        obtain hf := hf
        obtain ⟨e0, e1⟩ := tup2 hf
        rw [e1] at hP hD
        exact CX_i F hr hlk hP hD hS e0 dX7_ring_148
      · replace hf := ite_f hf hc
        refine lv_iconst (v := (1 : Int32)) hx hb dX7_ring_143 (by decide) ?_
        refine lv_goto (tgt := 148) hx hb dX7_ring_144 (by decide) ?_
        obtain hf := hf
        obtain ⟨e0, e1⟩ := tup2 hf
        rw [e1] at hP hD
        exact CX_i F hr hlk hP hD hS e0 dX7_ring_148
    replace hf := ite_f hf hc8
    refine lv_tableOut (tgt := 149) hx hb dX7_ring_20 (sw_out9 hc0 hc1 hc2 hc3 hc4 hc5 hc6 hc7 hc8) (by decide) ?_
    refine lv_bipush (v := (-2 : Int32)) hx hb dX7_ring_149 (by decide) ?_
    obtain hf := hf
    obtain ⟨e0, e1⟩ := tup2 hf
    rw [e1] at hP hD
    exact CX_i F hr hlk hP hD hS e0 dX7_ring_151
  · replace hf := ite_f hf hc
    refine lv_iconst (v := (-1 : Int32)) hx hb dX7_ring_13 (by decide) ?_
    obtain hf := hf
    obtain ⟨e0, e1⟩ := tup2 hf
    rw [e1] at hP hD
    exact CX_i F hr hlk hP hD hS e0 dX7_ring_14
def f_X7_stuff (z0 : Ob) (p1 : Int32) (p2 : Int32) : Option (Int32 × Ob) := bnd (sI z0 0 (0 : Int32)) (fun g1 => (f_X7_in p1.toInt64 (0 : Int64) ((g1.1 13) - (1 : Int32)).toInt64).bind (fun v2 => (if v2 = 0 then some ((-1 : Int32), g1) else (if p2 = 0 then (if inb p1 5 = true then some ((g1.2 14 p1.toNatClampNeg), g1) else none) else (if p2 = (1 : Int32) then (if inb p1 5 = true then some ((g1.2 15 p1.toNatClampNeg), g1) else none) else some ((-2 : Int32), g1))))))
abbrev rm_X7_stuff : Room := { frames := 1, cells := 0, slots := 0, locals := 25 }
theorem hd_X7_stuff : yX7_stuff.cls ≠ "java/lang/invoke/MethodHandle" ∧ yX7_stuff.cls ≠ "java/lang/invoke/VarHandle" ∧ (parseMethodDescriptor yX7_stuff.desc).map (fun d => d.parameters.length) = some 2 := by decide +kernel
theorem in_X7_stuff_X7 : ∀ w ∈ wsX70, w ∈ wsX7_stuff := fun w h => List.mem_cons_of_mem _ (List.mem_append_right _ h)
set_option maxHeartbeats 4000000 in
set_option maxRecDepth 100000 in
theorem c_X7_stuff (l : Launch) (D : va_G) (ty : TY) (h0 : Nat) (a0 : Nat → Nat) (z0 : Ob) (p1 : Int32) (p2 : Int32) (o0 : Int32) (o1 : Ob) (hf : f_X7_stuff z0 p1 p2 = some (o0, o1)) (sz : Nat) : CX l yX7_stuff wsX7_stuff rm_X7_stuff ([.ref h0, .int p1, .int p2] : List Value) D ty (fl [oX7 ty h0 a0 z0]) sz (qI D o0 (fl [oX7 ty h0 a0 o1])) 0 0 := by
  refine CX_of (cc := cX7_stuff) (maxL := 3) (ret := (some .int)) (C := RX7) (by decide) rfl rfl (Nat.le_of_ble_eq_true rfl) ?_
  intro p e s m below meth c A ls F hr hlk _ hK hP hD hS hA hl
  have hx := F.1
  have hb := F.2.1
  replace hl : lv_has ls 3 [(0, .ref h0), (1, .int p1), (2, .int p2)] := hl
  unfold f_X7_stuff at hf
  refine lv_aload_n hx hb dX7_stuff_0 rfl (lv_at hl 0 rfl) ?_
  refine lv_iconst (v := (0 : Int32)) hx hb dX7_stuff_1 (by decide) ?_
  refine pt_put (D := D) (ci := 7) (fty := .int) (C := RX7) (T := TX7) (N := 40) (w1 := fl [oX7 ty h0 a0 (sI z0 0 (0 : Int32))]) F in_X7_stuff_X7 tyX7 tyX7_ok nmX7 hK.1 hP hD hS 0 rfl rfl 0 (Nat.le_of_ble_eq_true rfl) (F.2.2.2.2 (.fieldLink RX7 71 "LouderRoomModel" "thrown" "I") (List.mem_of_getElem? (i := 1) rfl)) (fun _ h9 => h9) rfl (by decide +kernel) rfl rfl (Nat.le_of_ble_eq_true rfl) rfl dX7_stuff_2 (fun H locs hP hD hS => ?_)
  obtain ⟨g1, ex⟩ : ∃ y : Ob, y = (sI z0 0 (0 : Int32)) := ⟨_, rfl⟩
  replace hf := bnd_at hf ex; rw [← ex] at hP hD; clear ex
  refine lv_iload_n hx hb dX7_stuff_5 rfl (lv_at hl 1 rfl) ?_
  refine lv_i2l hx hb dX7_stuff_6 rfl ?_
  refine lv_lconst (v := (0 : Int64)) hx hb dX7_stuff_7 (by decide) ?_
  refine lv_aload_n hx hb dX7_stuff_8 rfl (lv_at hl 0 rfl) ?_
  refine va_get (D := D) (ci := 7) (C := RX7) (T := TX7) (N := 40) hx hb F.2.2.2.2 in_X7_stuff_X7 F.2.2.2.1 hK.1 hP 0 rfl rfl 13 (Nat.le_of_ble_eq_true rfl) (F.2.2.2.2 (.fieldLink RX7 122 "LouderRoomModel" "stuffs" "I") (List.mem_of_getElem? (i := 2) rfl)) (fun _ h9 => h9) rfl dX7_stuff_9 ?_
  refine lv_iconst (v := (1 : Int32)) hx hb dX7_stuff_12 (by decide) ?_
  refine lv_isub hx hb dX7_stuff_13 ?_
  refine lv_i2l hx hb dX7_stuff_14 rfl ?_
  obtain ⟨v2, hv, hf⟩ := obd hf
  have hp1 : List.Perm [oX7 ty h0 a0 g1] ([] ++ [oX7 ty h0 a0 g1]) := (List.Perm.refl _)
  refine ci_call (out := v2) (os := [oX7 ty h0 a0 g1]) (oc := []) (oc' := []) (or_ := [oX7 ty h0 a0 g1]) (os' := [oX7 ty h0 a0 g1]) (va_runS (As := [.long p1.toInt64, .long (0 : Int64), .long ((g1.1 13) - (1 : Int32)).toInt64]) (rest := []) F (c_X7_in l D ty _ _ _ _ hv _) (va_cwS 3 F.2.2.2.2 gX7_stuff_X7_in rfl rfl rfl hd_X7_in ⟨Nat.le_of_ble_eq_true rfl, Nat.le_of_ble_eq_true rfl⟩) (pre_s hK hP hD hp1) rfl rfl hl.1 rfl (lv_room (Nat.le_of_ble_eq_true rfl)) dX7_stuff_15 ⟨Nat.zero_le _, Nat.zero_le _⟩) hp1 (List.Perm.refl _) hP hD hS hA (fun H locs hP hD hS => ?_)
  clear hp1 hv
  refine lv_if_ne (tgt := 23) hx hb dX7_stuff_18 (by decide) (fun hc => ?_) (fun hc => ?_)
  · replace hf := ite_f hf hc
    refine lv_iload_n hx hb dX7_stuff_23 rfl (lv_at hl 2 rfl) ?_
    refine lv_if_ne (tgt := 36) hx hb dX7_stuff_24 (by decide) (fun hc => ?_) (fun hc => ?_)
    · replace hf := ite_f hf hc
      refine lv_iload_n hx hb dX7_stuff_36 rfl (lv_at hl 2 rfl) ?_
      refine lv_iconst (v := (1 : Int32)) hx hb dX7_stuff_37 (by decide) ?_
      refine lv_icmp_ne (tgt := 50) hx hb dX7_stuff_38 (by decide) (fun hc => ?_) (fun hc => ?_)
      · replace hf := ite_f hf hc
        refine lv_bipush (v := (-2 : Int32)) hx hb dX7_stuff_50 (by decide) ?_
        obtain hf := hf
        obtain ⟨e0, e1⟩ := tup2 hf
        rw [e1] at hP hD
        exact CX_i F hr hlk hP hD hS e0 dX7_stuff_52
      · replace hf := ite_t hf hc
        refine lv_aload_n hx hb dX7_stuff_41 rfl (lv_at hl 0 rfl) ?_
        refine va_get (D := D) (ci := 7) (C := RX7) (T := TX7) (N := 40) hx hb F.2.2.2.2 in_X7_stuff_X7 F.2.2.2.1 hK.1 hP 0 rfl rfl 15 (Nat.le_of_ble_eq_true rfl) (F.2.2.2.2 (.fieldLink RX7 31 "LouderRoomModel" "more" "[I") (List.mem_of_getElem? (i := 4) rfl)) (fun _ h9 => h9) rfl dX7_stuff_42 ?_
        refine lv_iload_n hx hb dX7_stuff_45 rfl (lv_at hl 1 rfl) ?_
        obtain ⟨hi, hf⟩ := grd hf
        refine va_iald hx hb hK.1 hP 8 0 rfl rfl (inb_in hi) dX7_stuff_46 ?_
        refine lv_goto (tgt := 52) hx hb dX7_stuff_47 (by decide) ?_
        obtain hf := hf
        obtain ⟨e0, e1⟩ := tup2 hf
        rw [e1] at hP hD
        exact CX_i F hr hlk hP hD hS e0 dX7_stuff_52
    · replace hf := ite_t hf hc
      refine lv_aload_n hx hb dX7_stuff_27 rfl (lv_at hl 0 rfl) ?_
      refine va_get (D := D) (ci := 7) (C := RX7) (T := TX7) (N := 40) hx hb F.2.2.2.2 in_X7_stuff_X7 F.2.2.2.1 hK.1 hP 0 rfl rfl 14 (Nat.le_of_ble_eq_true rfl) (F.2.2.2.2 (.fieldLink RX7 28 "LouderRoomModel" "cost" "[I") (List.mem_of_getElem? (i := 3) rfl)) (fun _ h9 => h9) rfl dX7_stuff_28 ?_
      refine lv_iload_n hx hb dX7_stuff_31 rfl (lv_at hl 1 rfl) ?_
      obtain ⟨hi, hf⟩ := grd hf
      refine va_iald hx hb hK.1 hP 7 0 rfl rfl (inb_in hi) dX7_stuff_32 ?_
      refine lv_goto (tgt := 52) hx hb dX7_stuff_33 (by decide) ?_
      obtain hf := hf
      obtain ⟨e0, e1⟩ := tup2 hf
      rw [e1] at hP hD
      exact CX_i F hr hlk hP hD hS e0 dX7_stuff_52
  · replace hf := ite_t hf hc
    refine lv_iconst (v := (-1 : Int32)) hx hb dX7_stuff_21 (by decide) ?_
    obtain hf := hf
    obtain ⟨e0, e1⟩ := tup2 hf
    rw [e1] at hP hD
    exact CX_i F hr hlk hP hD hS e0 dX7_stuff_22
def f_X7_noise (z0 : Ob) (p1 : Int32) (p2 : Int32) : Option (Int32 × Ob) := bnd (sI z0 0 (0 : Int32)) (fun g1 => (f_X7_in p1.toInt64 (0 : Int64) (9 : Int64)).bind (fun v2 => (if v2 = 0 then some ((-2 : Int32), g1) else (f_X7_in p2.toInt64 (0 : Int64) (9 : Int64)).bind (fun v3 => (if v3 = 0 then some ((-2 : Int32), g1) else (f_X7_begin g1).bind (fun g4 => (f_X7_noiseAt g4 (((10 : Int32) * p2) + p1)).bind (fun v5 => some (v5, g4))))))))
abbrev rm_X7_noise : Room := { frames := 5, cells := 0, slots := 0, locals := 107 }
theorem hd_X7_noise : yX7_noise.cls ≠ "java/lang/invoke/MethodHandle" ∧ yX7_noise.cls ≠ "java/lang/invoke/VarHandle" ∧ (parseMethodDescriptor yX7_noise.desc).map (fun d => d.parameters.length) = some 2 := by decide +kernel
theorem in_X7_noise_X7 : ∀ w ∈ wsX70, w ∈ wsX7_noise := fun w h => List.mem_cons_of_mem _ (List.mem_append_right _ h)
set_option maxHeartbeats 4000000 in
set_option maxRecDepth 100000 in
theorem c_X7_noise (l : Launch) (D : va_G) (ty : TY) (h0 : Nat) (a0 : Nat → Nat) (z0 : Ob) (p1 : Int32) (p2 : Int32) (o0 : Int32) (o1 : Ob) (hf : f_X7_noise z0 p1 p2 = some (o0, o1)) (sz : Nat) : CX l yX7_noise wsX7_noise rm_X7_noise ([.ref h0, .int p1, .int p2] : List Value) D ty (fl [oX7 ty h0 a0 z0]) sz (qI D o0 (fl [oX7 ty h0 a0 o1])) 0 0 := by
  refine CX_of (cc := cX7_noise) (maxL := 3) (ret := (some .int)) (C := RX7) (by decide) rfl rfl (Nat.le_of_ble_eq_true rfl) ?_
  intro p e s m below meth c A ls F hr hlk _ hK hP hD hS hA hl
  have hx := F.1
  have hb := F.2.1
  replace hl : lv_has ls 3 [(0, .ref h0), (1, .int p1), (2, .int p2)] := hl
  unfold f_X7_noise at hf
  refine lv_aload_n hx hb dX7_noise_0 rfl (lv_at hl 0 rfl) ?_
  refine lv_iconst (v := (0 : Int32)) hx hb dX7_noise_1 (by decide) ?_
  refine pt_put (D := D) (ci := 7) (fty := .int) (C := RX7) (T := TX7) (N := 40) (w1 := fl [oX7 ty h0 a0 (sI z0 0 (0 : Int32))]) F in_X7_noise_X7 tyX7 tyX7_ok nmX7 hK.1 hP hD hS 0 rfl rfl 0 (Nat.le_of_ble_eq_true rfl) (F.2.2.2.2 (.fieldLink RX7 71 "LouderRoomModel" "thrown" "I") (List.mem_of_getElem? (i := 1) rfl)) (fun _ h9 => h9) rfl (by decide +kernel) rfl rfl (Nat.le_of_ble_eq_true rfl) rfl dX7_noise_2 (fun H locs hP hD hS => ?_)
  obtain ⟨g1, ex⟩ : ∃ y : Ob, y = (sI z0 0 (0 : Int32)) := ⟨_, rfl⟩
  replace hf := bnd_at hf ex; rw [← ex] at hP hD; clear ex
  refine lv_iload_n hx hb dX7_noise_5 rfl (lv_at hl 1 rfl) ?_
  refine lv_i2l hx hb dX7_noise_6 rfl ?_
  refine lv_lconst (v := (0 : Int64)) hx hb dX7_noise_7 (by decide) ?_
  refine lv_ldc2 hx hb F.2.2.2.1 (F.2.2.2.2 (.constantLong RX7 204 (9)) (List.mem_of_getElem? (i := 2) rfl)) dX7_noise_8 ?_
  obtain ⟨v2, hv, hf⟩ := obd hf
  have hp1 : List.Perm [oX7 ty h0 a0 g1] ([] ++ [oX7 ty h0 a0 g1]) := (List.Perm.refl _)
  refine ci_call (out := v2) (os := [oX7 ty h0 a0 g1]) (oc := []) (oc' := []) (or_ := [oX7 ty h0 a0 g1]) (os' := [oX7 ty h0 a0 g1]) (va_runS (As := [.long p1.toInt64, .long (0 : Int64), .long (9 : Int64)]) (rest := []) F (c_X7_in l D ty _ _ _ _ hv _) (va_cwS 3 F.2.2.2.2 gX7_noise_X7_in rfl rfl rfl hd_X7_in ⟨Nat.le_of_ble_eq_true rfl, Nat.le_of_ble_eq_true rfl⟩) (pre_s hK hP hD hp1) rfl rfl hl.1 rfl (lv_room (Nat.le_of_ble_eq_true rfl)) dX7_noise_11 ⟨Nat.zero_le _, Nat.zero_le _⟩) hp1 (List.Perm.refl _) hP hD hS hA (fun H locs hP hD hS => ?_)
  clear hp1 hv
  refine lv_if_eq (tgt := 29) hx hb dX7_noise_14 (by decide) (fun hc => ?_) (fun hc => ?_)
  · replace hf := ite_t hf hc
    refine lv_bipush (v := (-2 : Int32)) hx hb dX7_noise_29 (by decide) ?_
    obtain hf := hf
    obtain ⟨e0, e1⟩ := tup2 hf
    rw [e1] at hP hD
    exact CX_i F hr hlk hP hD hS e0 dX7_noise_31
  · replace hf := ite_f hf hc
    refine lv_iload_n hx hb dX7_noise_17 rfl (lv_at hl 2 rfl) ?_
    refine lv_i2l hx hb dX7_noise_18 rfl ?_
    refine lv_lconst (v := (0 : Int64)) hx hb dX7_noise_19 (by decide) ?_
    refine lv_ldc2 hx hb F.2.2.2.1 (F.2.2.2.2 (.constantLong RX7 204 (9)) (List.mem_of_getElem? (i := 2) rfl)) dX7_noise_20 ?_
    obtain ⟨v3, hv, hf⟩ := obd hf
    have hp1 : List.Perm [oX7 ty h0 a0 g1] ([] ++ [oX7 ty h0 a0 g1]) := (List.Perm.refl _)
    refine ci_call (out := v3) (os := [oX7 ty h0 a0 g1]) (oc := []) (oc' := []) (or_ := [oX7 ty h0 a0 g1]) (os' := [oX7 ty h0 a0 g1]) (va_runS (As := [.long p2.toInt64, .long (0 : Int64), .long (9 : Int64)]) (rest := []) F (c_X7_in l D ty _ _ _ _ hv _) (va_cwS 3 F.2.2.2.2 gX7_noise_X7_in rfl rfl rfl hd_X7_in ⟨Nat.le_of_ble_eq_true rfl, Nat.le_of_ble_eq_true rfl⟩) (pre_s hK hP hD hp1) rfl rfl hl.1 rfl (lv_room (Nat.le_of_ble_eq_true rfl)) dX7_noise_23 ⟨Nat.zero_le _, Nat.zero_le _⟩) hp1 (List.Perm.refl _) hP hD hS hA (fun H locs hP hD hS => ?_)
    clear hp1 hv
    refine lv_if_ne (tgt := 32) hx hb dX7_noise_26 (by decide) (fun hc => ?_) (fun hc => ?_)
    · replace hf := ite_f hf hc
      refine lv_aload_n hx hb dX7_noise_32 rfl (lv_at hl 0 rfl) ?_
      obtain ⟨g4, hv, hf⟩ := obd hf
      have hp1 : List.Perm [oX7 ty h0 a0 g1] ([oX7 ty h0 a0 g1] ++ []) := (List.Perm.refl _)
      refine cv_call (os := [oX7 ty h0 a0 g1]) (oc := [oX7 ty h0 a0 g1]) (oc' := [oX7 ty h0 a0 g4]) (or_ := []) (os' := [oX7 ty h0 a0 g4]) (va_runV (As := []) (rest := []) F (c_X7_begin l D ty h0 a0 _ _ hv _) (cwV 0 F.2.2.2.2 gX7_noise_X7_begin rfl rfl rfl ⟨rfl, hd_X7_begin⟩ ⟨Nat.le_of_ble_eq_true rfl, Nat.le_of_ble_eq_true rfl⟩) (pre_v hK hP hD hp1 rfl rfl rfl) rfl rfl hl.1 rfl (lv_room (Nat.le_of_ble_eq_true rfl)) dX7_noise_33 ⟨Nat.zero_le _, Nat.zero_le _⟩) hp1 (List.Perm.refl _) hP hD hS hA (fun H locs hP hD hS => ?_)
      clear hp1 hv
      refine lv_aload_n hx hb dX7_noise_36 rfl (lv_at hl 0 rfl) ?_
      refine lv_bipush (v := (10 : Int32)) hx hb dX7_noise_37 (by decide) ?_
      refine lv_iload_n hx hb dX7_noise_39 rfl (lv_at hl 2 rfl) ?_
      refine lv_imul hx hb dX7_noise_40 ?_
      refine lv_iload_n hx hb dX7_noise_41 rfl (lv_at hl 1 rfl) ?_
      refine lv_iadd hx hb dX7_noise_42 ?_
      obtain ⟨v5, hv, hf⟩ := obd hf
      have hp1 : List.Perm [oX7 ty h0 a0 g4] ([oX7 ty h0 a0 g4] ++ []) := (List.Perm.refl _)
      refine ci_call (out := v5) (os := [oX7 ty h0 a0 g4]) (oc := [oX7 ty h0 a0 g4]) (oc' := [oX7 ty h0 a0 g4]) (or_ := []) (os' := [oX7 ty h0 a0 g4]) (va_runV (As := [.int (((10 : Int32) * p2) + p1)]) (rest := []) F (c_X7_noiseAt l D ty h0 a0 _ _ _ hv _) (cwV 1 F.2.2.2.2 gX7_noise_X7_noiseAt rfl rfl rfl ⟨rfl, hd_X7_noiseAt⟩ ⟨Nat.le_of_ble_eq_true rfl, Nat.le_of_ble_eq_true rfl⟩) (pre_v hK hP hD hp1 rfl rfl rfl) rfl rfl hl.1 rfl (lv_room (Nat.le_of_ble_eq_true rfl)) dX7_noise_43 ⟨Nat.zero_le _, Nat.zero_le _⟩) hp1 (List.Perm.refl _) hP hD hS hA (fun H locs hP hD hS => ?_)
      clear hp1 hv
      obtain hf := hf
      obtain ⟨e0, e1⟩ := tup2 hf
      rw [e1] at hP hD
      exact CX_i F hr hlk hP hD hS e0 dX7_noise_46
    · replace hf := ite_t hf hc
      refine lv_bipush (v := (-2 : Int32)) hx hb dX7_noise_29 (by decide) ?_
      obtain hf := hf
      obtain ⟨e0, e1⟩ := tup2 hf
      rw [e1] at hP hD
      exact CX_i F hr hlk hP hD hS e0 dX7_noise_31
def f_X7_from (z0 : Ob) (p1 : Int32) (p2 : Int32) (p3 : Int32) : Option (Int32 × Ob) := bnd (sI z0 0 (0 : Int32)) (fun g1 => (f_X7_noRing g1 p1).bind (fun v2 => (if v2 = 0 then (f_X7_in p2.toInt64 (0 : Int64) (9 : Int64)).bind (fun v3 => (if v3 = 0 then some ((-2 : Int32), g1) else (f_X7_in p3.toInt64 (0 : Int64) (9 : Int64)).bind (fun v4 => (if v4 = 0 then some ((-2 : Int32), g1) else (f_X7_begin g1).bind (fun g5 => (f_X7_fromAt g5 p1 (((10 : Int32) * p3) + p2)).bind (fun v6 => some (v6, g5))))))) else some ((-1 : Int32), g1))))
abbrev rm_X7_from : Room := { frames := 3, cells := 0, slots := 0, locals := 64 }
theorem hd_X7_from : yX7_from.cls ≠ "java/lang/invoke/MethodHandle" ∧ yX7_from.cls ≠ "java/lang/invoke/VarHandle" ∧ (parseMethodDescriptor yX7_from.desc).map (fun d => d.parameters.length) = some 3 := by decide +kernel
theorem in_X7_from_X7 : ∀ w ∈ wsX70, w ∈ wsX7_from := fun w h => List.mem_cons_of_mem _ (List.mem_append_right _ h)
set_option maxHeartbeats 4000000 in
set_option maxRecDepth 100000 in
theorem c_X7_from (l : Launch) (D : va_G) (ty : TY) (h0 : Nat) (a0 : Nat → Nat) (z0 : Ob) (p1 : Int32) (p2 : Int32) (p3 : Int32) (o0 : Int32) (o1 : Ob) (hf : f_X7_from z0 p1 p2 p3 = some (o0, o1)) (sz : Nat) : CX l yX7_from wsX7_from rm_X7_from ([.ref h0, .int p1, .int p2, .int p3] : List Value) D ty (fl [oX7 ty h0 a0 z0]) sz (qI D o0 (fl [oX7 ty h0 a0 o1])) 0 0 := by
  refine CX_of (cc := cX7_from) (maxL := 4) (ret := (some .int)) (C := RX7) (by decide) rfl rfl (Nat.le_of_ble_eq_true rfl) ?_
  intro p e s m below meth c A ls F hr hlk _ hK hP hD hS hA hl
  have hx := F.1
  have hb := F.2.1
  replace hl : lv_has ls 4 [(0, .ref h0), (1, .int p1), (2, .int p2), (3, .int p3)] := hl
  unfold f_X7_from at hf
  refine lv_aload_n hx hb dX7_from_0 rfl (lv_at hl 0 rfl) ?_
  refine lv_iconst (v := (0 : Int32)) hx hb dX7_from_1 (by decide) ?_
  refine pt_put (D := D) (ci := 7) (fty := .int) (C := RX7) (T := TX7) (N := 40) (w1 := fl [oX7 ty h0 a0 (sI z0 0 (0 : Int32))]) F in_X7_from_X7 tyX7 tyX7_ok nmX7 hK.1 hP hD hS 0 rfl rfl 0 (Nat.le_of_ble_eq_true rfl) (F.2.2.2.2 (.fieldLink RX7 71 "LouderRoomModel" "thrown" "I") (List.mem_of_getElem? (i := 1) rfl)) (fun _ h9 => h9) rfl (by decide +kernel) rfl rfl (Nat.le_of_ble_eq_true rfl) rfl dX7_from_2 (fun H locs hP hD hS => ?_)
  obtain ⟨g1, ex⟩ : ∃ y : Ob, y = (sI z0 0 (0 : Int32)) := ⟨_, rfl⟩
  replace hf := bnd_at hf ex; rw [← ex] at hP hD; clear ex
  refine lv_aload_n hx hb dX7_from_5 rfl (lv_at hl 0 rfl) ?_
  refine lv_iload_n hx hb dX7_from_6 rfl (lv_at hl 1 rfl) ?_
  obtain ⟨v2, hv, hf⟩ := obd hf
  have hp1 : List.Perm [oX7 ty h0 a0 g1] ([oX7 ty h0 a0 g1] ++ []) := (List.Perm.refl _)
  refine ci_call (out := v2) (os := [oX7 ty h0 a0 g1]) (oc := [oX7 ty h0 a0 g1]) (oc' := [oX7 ty h0 a0 g1]) (or_ := []) (os' := [oX7 ty h0 a0 g1]) (va_runV (As := [.int p1]) (rest := []) F (c_X7_noRing l D ty h0 a0 _ _ _ hv _) (cwV 1 F.2.2.2.2 gX7_from_X7_noRing rfl rfl rfl ⟨rfl, hd_X7_noRing⟩ ⟨Nat.le_of_ble_eq_true rfl, Nat.le_of_ble_eq_true rfl⟩) (pre_v hK hP hD hp1 rfl rfl rfl) rfl rfl hl.1 rfl (lv_room (Nat.le_of_ble_eq_true rfl)) dX7_from_7 ⟨Nat.zero_le _, Nat.zero_le _⟩) hp1 (List.Perm.refl _) hP hD hS hA (fun H locs hP hD hS => ?_)
  clear hp1 hv
  refine lv_if_eq (tgt := 15) hx hb dX7_from_10 (by decide) (fun hc => ?_) (fun hc => ?_)
  · replace hf := ite_t hf hc
    refine lv_iload_n hx hb dX7_from_15 rfl (lv_at hl 2 rfl) ?_
    refine lv_i2l hx hb dX7_from_16 rfl ?_
    refine lv_lconst (v := (0 : Int64)) hx hb dX7_from_17 (by decide) ?_
    refine lv_ldc2 hx hb F.2.2.2.1 (F.2.2.2.2 (.constantLong RX7 204 (9)) (List.mem_of_getElem? (i := 2) rfl)) dX7_from_18 ?_
    obtain ⟨v3, hv, hf⟩ := obd hf
    have hp1 : List.Perm [oX7 ty h0 a0 g1] ([] ++ [oX7 ty h0 a0 g1]) := (List.Perm.refl _)
    refine ci_call (out := v3) (os := [oX7 ty h0 a0 g1]) (oc := []) (oc' := []) (or_ := [oX7 ty h0 a0 g1]) (os' := [oX7 ty h0 a0 g1]) (va_runS (As := [.long p2.toInt64, .long (0 : Int64), .long (9 : Int64)]) (rest := []) F (c_X7_in l D ty _ _ _ _ hv _) (va_cwS 3 F.2.2.2.2 gX7_from_X7_in rfl rfl rfl hd_X7_in ⟨Nat.le_of_ble_eq_true rfl, Nat.le_of_ble_eq_true rfl⟩) (pre_s hK hP hD hp1) rfl rfl hl.1 rfl (lv_room (Nat.le_of_ble_eq_true rfl)) dX7_from_21 ⟨Nat.zero_le _, Nat.zero_le _⟩) hp1 (List.Perm.refl _) hP hD hS hA (fun H locs hP hD hS => ?_)
    clear hp1 hv
    refine lv_if_eq (tgt := 39) hx hb dX7_from_24 (by decide) (fun hc => ?_) (fun hc => ?_)
    · replace hf := ite_t hf hc
      refine lv_bipush (v := (-2 : Int32)) hx hb dX7_from_39 (by decide) ?_
      obtain hf := hf
      obtain ⟨e0, e1⟩ := tup2 hf
      rw [e1] at hP hD
      exact CX_i F hr hlk hP hD hS e0 dX7_from_41
    · replace hf := ite_f hf hc
      refine lv_iload_n hx hb dX7_from_27 rfl (lv_at hl 3 rfl) ?_
      refine lv_i2l hx hb dX7_from_28 rfl ?_
      refine lv_lconst (v := (0 : Int64)) hx hb dX7_from_29 (by decide) ?_
      refine lv_ldc2 hx hb F.2.2.2.1 (F.2.2.2.2 (.constantLong RX7 204 (9)) (List.mem_of_getElem? (i := 2) rfl)) dX7_from_30 ?_
      obtain ⟨v4, hv, hf⟩ := obd hf
      have hp1 : List.Perm [oX7 ty h0 a0 g1] ([] ++ [oX7 ty h0 a0 g1]) := (List.Perm.refl _)
      refine ci_call (out := v4) (os := [oX7 ty h0 a0 g1]) (oc := []) (oc' := []) (or_ := [oX7 ty h0 a0 g1]) (os' := [oX7 ty h0 a0 g1]) (va_runS (As := [.long p3.toInt64, .long (0 : Int64), .long (9 : Int64)]) (rest := []) F (c_X7_in l D ty _ _ _ _ hv _) (va_cwS 3 F.2.2.2.2 gX7_from_X7_in rfl rfl rfl hd_X7_in ⟨Nat.le_of_ble_eq_true rfl, Nat.le_of_ble_eq_true rfl⟩) (pre_s hK hP hD hp1) rfl rfl hl.1 rfl (lv_room (Nat.le_of_ble_eq_true rfl)) dX7_from_33 ⟨Nat.zero_le _, Nat.zero_le _⟩) hp1 (List.Perm.refl _) hP hD hS hA (fun H locs hP hD hS => ?_)
      clear hp1 hv
      refine lv_if_ne (tgt := 42) hx hb dX7_from_36 (by decide) (fun hc => ?_) (fun hc => ?_)
      · replace hf := ite_f hf hc
        refine lv_aload_n hx hb dX7_from_42 rfl (lv_at hl 0 rfl) ?_
        obtain ⟨g5, hv, hf⟩ := obd hf
        have hp1 : List.Perm [oX7 ty h0 a0 g1] ([oX7 ty h0 a0 g1] ++ []) := (List.Perm.refl _)
        refine cv_call (os := [oX7 ty h0 a0 g1]) (oc := [oX7 ty h0 a0 g1]) (oc' := [oX7 ty h0 a0 g5]) (or_ := []) (os' := [oX7 ty h0 a0 g5]) (va_runV (As := []) (rest := []) F (c_X7_begin l D ty h0 a0 _ _ hv _) (cwV 0 F.2.2.2.2 gX7_from_X7_begin rfl rfl rfl ⟨rfl, hd_X7_begin⟩ ⟨Nat.le_of_ble_eq_true rfl, Nat.le_of_ble_eq_true rfl⟩) (pre_v hK hP hD hp1 rfl rfl rfl) rfl rfl hl.1 rfl (lv_room (Nat.le_of_ble_eq_true rfl)) dX7_from_43 ⟨Nat.zero_le _, Nat.zero_le _⟩) hp1 (List.Perm.refl _) hP hD hS hA (fun H locs hP hD hS => ?_)
        clear hp1 hv
        refine lv_aload_n hx hb dX7_from_46 rfl (lv_at hl 0 rfl) ?_
        refine lv_iload_n hx hb dX7_from_47 rfl (lv_at hl 1 rfl) ?_
        refine lv_bipush (v := (10 : Int32)) hx hb dX7_from_48 (by decide) ?_
        refine lv_iload_n hx hb dX7_from_50 rfl (lv_at hl 3 rfl) ?_
        refine lv_imul hx hb dX7_from_51 ?_
        refine lv_iload_n hx hb dX7_from_52 rfl (lv_at hl 2 rfl) ?_
        refine lv_iadd hx hb dX7_from_53 ?_
        obtain ⟨v6, hv, hf⟩ := obd hf
        have hp1 : List.Perm [oX7 ty h0 a0 g5] ([oX7 ty h0 a0 g5] ++ []) := (List.Perm.refl _)
        refine ci_call (out := v6) (os := [oX7 ty h0 a0 g5]) (oc := [oX7 ty h0 a0 g5]) (oc' := [oX7 ty h0 a0 g5]) (or_ := []) (os' := [oX7 ty h0 a0 g5]) (va_runV (As := [.int p1, .int (((10 : Int32) * p3) + p2)]) (rest := []) F (c_X7_fromAt l D ty h0 a0 _ _ _ _ hv _) (cwV 2 F.2.2.2.2 gX7_from_X7_fromAt rfl rfl rfl ⟨rfl, hd_X7_fromAt⟩ ⟨Nat.le_of_ble_eq_true rfl, Nat.le_of_ble_eq_true rfl⟩) (pre_v hK hP hD hp1 rfl rfl rfl) rfl rfl hl.1 rfl (lv_room (Nat.le_of_ble_eq_true rfl)) dX7_from_54 ⟨Nat.zero_le _, Nat.zero_le _⟩) hp1 (List.Perm.refl _) hP hD hS hA (fun H locs hP hD hS => ?_)
        clear hp1 hv
        obtain hf := hf
        obtain ⟨e0, e1⟩ := tup2 hf
        rw [e1] at hP hD
        exact CX_i F hr hlk hP hD hS e0 dX7_from_57
      · replace hf := ite_t hf hc
        refine lv_bipush (v := (-2 : Int32)) hx hb dX7_from_39 (by decide) ?_
        obtain hf := hf
        obtain ⟨e0, e1⟩ := tup2 hf
        rw [e1] at hP hD
        exact CX_i F hr hlk hP hD hS e0 dX7_from_41
  · replace hf := ite_f hf hc
    refine lv_iconst (v := (-1 : Int32)) hx hb dX7_from_13 (by decide) ?_
    obtain hf := hf
    obtain ⟨e0, e1⟩ := tup2 hf
    rw [e1] at hP hD
    exact CX_i F hr hlk hP hD hS e0 dX7_from_14
def f_X7_voice (z0 : Ob) (p1 : Int32) (p2 : Int32) : Option (Int32 × Ob) := bnd (sI z0 0 (0 : Int32)) (fun g1 => (f_X7_noRing g1 p1).bind (fun v2 => (if v2 = 0 then (f_X7_in p2.toInt64 (1 : Int64) (9 : Int64)).bind (fun v3 => (if v3 = 0 then some ((-2 : Int32), g1) else (if inb p1 8 = true then bnd (g1.2 8 p1.toNatClampNeg) (fun x4 => (if inb p1 8 = true then bnd (sA g1 8 (upd (g1.2 8) p1.toNatClampNeg p2)) (fun g5 => some (x4, g5)) else none)) else none))) else some ((-1 : Int32), g1))))
abbrev rm_X7_voice : Room := { frames := 2, cells := 0, slots := 0, locals := 46 }
theorem hd_X7_voice : yX7_voice.cls ≠ "java/lang/invoke/MethodHandle" ∧ yX7_voice.cls ≠ "java/lang/invoke/VarHandle" ∧ (parseMethodDescriptor yX7_voice.desc).map (fun d => d.parameters.length) = some 2 := by decide +kernel
theorem in_X7_voice_X7 : ∀ w ∈ wsX70, w ∈ wsX7_voice := fun w h => List.mem_cons_of_mem _ (List.mem_append_right _ h)
set_option maxHeartbeats 4000000 in
set_option maxRecDepth 100000 in
theorem c_X7_voice (l : Launch) (D : va_G) (ty : TY) (h0 : Nat) (a0 : Nat → Nat) (z0 : Ob) (p1 : Int32) (p2 : Int32) (o0 : Int32) (o1 : Ob) (hf : f_X7_voice z0 p1 p2 = some (o0, o1)) (sz : Nat) : CX l yX7_voice wsX7_voice rm_X7_voice ([.ref h0, .int p1, .int p2] : List Value) D ty (fl [oX7 ty h0 a0 z0]) sz (qI D o0 (fl [oX7 ty h0 a0 o1])) 0 0 := by
  refine CX_of (cc := cX7_voice) (maxL := 4) (ret := (some .int)) (C := RX7) (by decide) rfl rfl (Nat.le_of_ble_eq_true rfl) ?_
  intro p e s m below meth c A ls F hr hlk _ hK hP hD hS hA hl
  have hx := F.1
  have hb := F.2.1
  replace hl : lv_has ls 4 [(0, .ref h0), (1, .int p1), (2, .int p2)] := hl
  unfold f_X7_voice at hf
  refine lv_aload_n hx hb dX7_voice_0 rfl (lv_at hl 0 rfl) ?_
  refine lv_iconst (v := (0 : Int32)) hx hb dX7_voice_1 (by decide) ?_
  refine pt_put (D := D) (ci := 7) (fty := .int) (C := RX7) (T := TX7) (N := 40) (w1 := fl [oX7 ty h0 a0 (sI z0 0 (0 : Int32))]) F in_X7_voice_X7 tyX7 tyX7_ok nmX7 hK.1 hP hD hS 0 rfl rfl 0 (Nat.le_of_ble_eq_true rfl) (F.2.2.2.2 (.fieldLink RX7 71 "LouderRoomModel" "thrown" "I") (List.mem_of_getElem? (i := 1) rfl)) (fun _ h9 => h9) rfl (by decide +kernel) rfl rfl (Nat.le_of_ble_eq_true rfl) rfl dX7_voice_2 (fun H locs hP hD hS => ?_)
  obtain ⟨g1, ex⟩ : ∃ y : Ob, y = (sI z0 0 (0 : Int32)) := ⟨_, rfl⟩
  replace hf := bnd_at hf ex; rw [← ex] at hP hD; clear ex
  refine lv_aload_n hx hb dX7_voice_5 rfl (lv_at hl 0 rfl) ?_
  refine lv_iload_n hx hb dX7_voice_6 rfl (lv_at hl 1 rfl) ?_
  obtain ⟨v2, hv, hf⟩ := obd hf
  have hp1 : List.Perm [oX7 ty h0 a0 g1] ([oX7 ty h0 a0 g1] ++ []) := (List.Perm.refl _)
  refine ci_call (out := v2) (os := [oX7 ty h0 a0 g1]) (oc := [oX7 ty h0 a0 g1]) (oc' := [oX7 ty h0 a0 g1]) (or_ := []) (os' := [oX7 ty h0 a0 g1]) (va_runV (As := [.int p1]) (rest := []) F (c_X7_noRing l D ty h0 a0 _ _ _ hv _) (cwV 1 F.2.2.2.2 gX7_voice_X7_noRing rfl rfl rfl ⟨rfl, hd_X7_noRing⟩ ⟨Nat.le_of_ble_eq_true rfl, Nat.le_of_ble_eq_true rfl⟩) (pre_v hK hP hD hp1 rfl rfl rfl) rfl rfl hl.1 rfl (lv_room (Nat.le_of_ble_eq_true rfl)) dX7_voice_7 ⟨Nat.zero_le _, Nat.zero_le _⟩) hp1 (List.Perm.refl _) hP hD hS hA (fun H locs hP hD hS => ?_)
  clear hp1 hv
  refine lv_if_eq (tgt := 15) hx hb dX7_voice_10 (by decide) (fun hc => ?_) (fun hc => ?_)
  · replace hf := ite_t hf hc
    refine lv_iload_n hx hb dX7_voice_15 rfl (lv_at hl 2 rfl) ?_
    refine lv_i2l hx hb dX7_voice_16 rfl ?_
    refine lv_lconst (v := (1 : Int64)) hx hb dX7_voice_17 (by decide) ?_
    refine lv_ldc2 hx hb F.2.2.2.1 (F.2.2.2.2 (.constantLong RX7 204 (9)) (List.mem_of_getElem? (i := 2) rfl)) dX7_voice_18 ?_
    obtain ⟨v3, hv, hf⟩ := obd hf
    have hp1 : List.Perm [oX7 ty h0 a0 g1] ([] ++ [oX7 ty h0 a0 g1]) := (List.Perm.refl _)
    refine ci_call (out := v3) (os := [oX7 ty h0 a0 g1]) (oc := []) (oc' := []) (or_ := [oX7 ty h0 a0 g1]) (os' := [oX7 ty h0 a0 g1]) (va_runS (As := [.long p2.toInt64, .long (1 : Int64), .long (9 : Int64)]) (rest := []) F (c_X7_in l D ty _ _ _ _ hv _) (va_cwS 3 F.2.2.2.2 gX7_voice_X7_in rfl rfl rfl hd_X7_in ⟨Nat.le_of_ble_eq_true rfl, Nat.le_of_ble_eq_true rfl⟩) (pre_s hK hP hD hp1) rfl rfl hl.1 rfl (lv_room (Nat.le_of_ble_eq_true rfl)) dX7_voice_21 ⟨Nat.zero_le _, Nat.zero_le _⟩) hp1 (List.Perm.refl _) hP hD hS hA (fun H locs hP hD hS => ?_)
    clear hp1 hv
    refine lv_if_ne (tgt := 30) hx hb dX7_voice_24 (by decide) (fun hc => ?_) (fun hc => ?_)
    · replace hf := ite_f hf hc
      refine lv_aload_n hx hb dX7_voice_30 rfl (lv_at hl 0 rfl) ?_
      refine va_get (D := D) (ci := 7) (C := RX7) (T := TX7) (N := 40) hx hb F.2.2.2.2 in_X7_voice_X7 F.2.2.2.1 hK.1 hP 0 rfl rfl 8 (Nat.le_of_ble_eq_true rfl) (F.2.2.2.2 (.fieldLink RX7 22 "LouderRoomModel" "voice" "[I") (List.mem_of_getElem? (i := 3) rfl)) (fun _ h9 => h9) rfl dX7_voice_31 ?_
      refine lv_iload_n hx hb dX7_voice_34 rfl (lv_at hl 1 rfl) ?_
      obtain ⟨hi, hf⟩ := grd hf
      refine va_iald hx hb hK.1 hP 5 0 rfl rfl (inb_in hi) dX7_voice_35 ?_
      refine lv_topi (fun x4 ex => ?_)
      replace hf := bnd_at hf ex; clear ex
      refine lv_istore_n (lv' := [(3, .int x4), (0, .ref h0), (1, .int p1), (2, .int p2)]) hx hb dX7_voice_36 rfl hl (by decide) rfl (fun ls hl => ?_)
      refine lv_aload_n hx hb dX7_voice_37 rfl (lv_at hl 1 rfl) ?_
      refine va_get (D := D) (ci := 7) (C := RX7) (T := TX7) (N := 40) hx hb F.2.2.2.2 in_X7_voice_X7 F.2.2.2.1 hK.1 hP 0 rfl rfl 8 (Nat.le_of_ble_eq_true rfl) (F.2.2.2.2 (.fieldLink RX7 22 "LouderRoomModel" "voice" "[I") (List.mem_of_getElem? (i := 3) rfl)) (fun _ h9 => h9) rfl dX7_voice_38 ?_
      refine lv_iload_n hx hb dX7_voice_41 rfl (lv_at hl 2 rfl) ?_
      refine lv_iload_n hx hb dX7_voice_42 rfl (lv_at hl 3 rfl) ?_
      obtain ⟨hi, hf⟩ := grd hf
      refine pt_iast (w1 := fl [oX7 ty h0 a0 (sA g1 8 (upd (g1.2 8) p1.toNatClampNeg p2))]) F hK.1 hP hD hS 5 0 rfl rfl (inb_in hi) rfl dX7_voice_43 (fun H locs hP hD hS => ?_)
      obtain ⟨g5, ex⟩ : ∃ y : Ob, y = (sA g1 8 (upd (g1.2 8) p1.toNatClampNeg p2)) := ⟨_, rfl⟩
      replace hf := bnd_at hf ex; rw [← ex] at hP hD; clear ex
      refine lv_iload_n hx hb dX7_voice_44 rfl (lv_at hl 0 rfl) ?_
      obtain hf := hf
      obtain ⟨e0, e1⟩ := tup2 hf
      rw [e1] at hP hD
      exact CX_i F hr hlk hP hD hS e0 dX7_voice_45
    · replace hf := ite_t hf hc
      refine lv_bipush (v := (-2 : Int32)) hx hb dX7_voice_27 (by decide) ?_
      obtain hf := hf
      obtain ⟨e0, e1⟩ := tup2 hf
      rw [e1] at hP hD
      exact CX_i F hr hlk hP hD hS e0 dX7_voice_29
  · replace hf := ite_f hf hc
    refine lv_iconst (v := (-1 : Int32)) hx hb dX7_voice_13 (by decide) ?_
    obtain hf := hf
    obtain ⟨e0, e1⟩ := tup2 hf
    rw [e1] at hP hD
    exact CX_i F hr hlk hP hD hS e0 dX7_voice_14
def f_X7_music (z0 : Ob) (p1 : Int32) (p2 : Int32) : Option (Int32 × Ob) := bnd (sI z0 0 (0 : Int32)) (fun g1 => (f_X7_in p1.toInt64 (0 : Int64) (9 : Int64)).bind (fun v2 => (if v2 = 0 then some ((-2 : Int32), g1) else bnd (g1.1 11) (fun x3 => bnd (sI g1 11 p1) (fun g4 => (if isb p2 = true then bnd (sI g4 12 p2) (fun g5 => some (x3, g5)) else none))))))
abbrev rm_X7_music : Room := { frames := 1, cells := 0, slots := 0, locals := 25 }
theorem hd_X7_music : yX7_music.cls ≠ "java/lang/invoke/MethodHandle" ∧ yX7_music.cls ≠ "java/lang/invoke/VarHandle" ∧ (parseMethodDescriptor yX7_music.desc).map (fun d => d.parameters.length) = some 2 := by decide +kernel
theorem in_X7_music_X7 : ∀ w ∈ wsX70, w ∈ wsX7_music := fun w h => List.mem_cons_of_mem _ (List.mem_append_right _ h)
set_option maxHeartbeats 4000000 in
set_option maxRecDepth 100000 in
theorem c_X7_music (l : Launch) (D : va_G) (ty : TY) (h0 : Nat) (a0 : Nat → Nat) (z0 : Ob) (p1 : Int32) (p2 : Int32) (o0 : Int32) (o1 : Ob) (hf : f_X7_music z0 p1 p2 = some (o0, o1)) (sz : Nat) : CX l yX7_music wsX7_music rm_X7_music ([.ref h0, .int p1, .int p2] : List Value) D ty (fl [oX7 ty h0 a0 z0]) sz (qI D o0 (fl [oX7 ty h0 a0 o1])) 0 0 := by
  refine CX_of (cc := cX7_music) (maxL := 4) (ret := (some .int)) (C := RX7) (by decide) rfl rfl (Nat.le_of_ble_eq_true rfl) ?_
  intro p e s m below meth c A ls F hr hlk _ hK hP hD hS hA hl
  have hx := F.1
  have hb := F.2.1
  replace hl : lv_has ls 4 [(0, .ref h0), (1, .int p1), (2, .int p2)] := hl
  unfold f_X7_music at hf
  refine lv_aload_n hx hb dX7_music_0 rfl (lv_at hl 0 rfl) ?_
  refine lv_iconst (v := (0 : Int32)) hx hb dX7_music_1 (by decide) ?_
  refine pt_put (D := D) (ci := 7) (fty := .int) (C := RX7) (T := TX7) (N := 40) (w1 := fl [oX7 ty h0 a0 (sI z0 0 (0 : Int32))]) F in_X7_music_X7 tyX7 tyX7_ok nmX7 hK.1 hP hD hS 0 rfl rfl 0 (Nat.le_of_ble_eq_true rfl) (F.2.2.2.2 (.fieldLink RX7 71 "LouderRoomModel" "thrown" "I") (List.mem_of_getElem? (i := 1) rfl)) (fun _ h9 => h9) rfl (by decide +kernel) rfl rfl (Nat.le_of_ble_eq_true rfl) rfl dX7_music_2 (fun H locs hP hD hS => ?_)
  obtain ⟨g1, ex⟩ : ∃ y : Ob, y = (sI z0 0 (0 : Int32)) := ⟨_, rfl⟩
  replace hf := bnd_at hf ex; rw [← ex] at hP hD; clear ex
  refine lv_iload_n hx hb dX7_music_5 rfl (lv_at hl 1 rfl) ?_
  refine lv_i2l hx hb dX7_music_6 rfl ?_
  refine lv_lconst (v := (0 : Int64)) hx hb dX7_music_7 (by decide) ?_
  refine lv_ldc2 hx hb F.2.2.2.1 (F.2.2.2.2 (.constantLong RX7 204 (9)) (List.mem_of_getElem? (i := 2) rfl)) dX7_music_8 ?_
  obtain ⟨v2, hv, hf⟩ := obd hf
  have hp1 : List.Perm [oX7 ty h0 a0 g1] ([] ++ [oX7 ty h0 a0 g1]) := (List.Perm.refl _)
  refine ci_call (out := v2) (os := [oX7 ty h0 a0 g1]) (oc := []) (oc' := []) (or_ := [oX7 ty h0 a0 g1]) (os' := [oX7 ty h0 a0 g1]) (va_runS (As := [.long p1.toInt64, .long (0 : Int64), .long (9 : Int64)]) (rest := []) F (c_X7_in l D ty _ _ _ _ hv _) (va_cwS 3 F.2.2.2.2 gX7_music_X7_in rfl rfl rfl hd_X7_in ⟨Nat.le_of_ble_eq_true rfl, Nat.le_of_ble_eq_true rfl⟩) (pre_s hK hP hD hp1) rfl rfl hl.1 rfl (lv_room (Nat.le_of_ble_eq_true rfl)) dX7_music_11 ⟨Nat.zero_le _, Nat.zero_le _⟩) hp1 (List.Perm.refl _) hP hD hS hA (fun H locs hP hD hS => ?_)
  clear hp1 hv
  refine lv_if_ne (tgt := 20) hx hb dX7_music_14 (by decide) (fun hc => ?_) (fun hc => ?_)
  · replace hf := ite_f hf hc
    refine lv_aload_n hx hb dX7_music_20 rfl (lv_at hl 0 rfl) ?_
    refine va_get (D := D) (ci := 7) (C := RX7) (T := TX7) (N := 40) hx hb F.2.2.2.2 in_X7_music_X7 F.2.2.2.1 hK.1 hP 0 rfl rfl 11 (Nat.le_of_ble_eq_true rfl) (F.2.2.2.2 (.fieldLink RX7 128 "LouderRoomModel" "music" "I") (List.mem_of_getElem? (i := 3) rfl)) (fun _ h9 => h9) rfl dX7_music_21 ?_
    refine lv_topi (fun x3 ex => ?_)
    replace hf := bnd_at hf ex; clear ex
    refine lv_istore_n (lv' := [(3, .int x3), (0, .ref h0), (1, .int p1), (2, .int p2)]) hx hb dX7_music_24 rfl hl (by decide) rfl (fun ls hl => ?_)
    refine lv_aload_n hx hb dX7_music_25 rfl (lv_at hl 1 rfl) ?_
    refine lv_iload_n hx hb dX7_music_26 rfl (lv_at hl 2 rfl) ?_
    refine pt_put (D := D) (ci := 7) (fty := .int) (C := RX7) (T := TX7) (N := 40) (w1 := fl [oX7 ty h0 a0 (sI g1 11 p1)]) F in_X7_music_X7 tyX7 tyX7_ok nmX7 hK.1 hP hD hS 0 rfl rfl 11 (Nat.le_of_ble_eq_true rfl) (F.2.2.2.2 (.fieldLink RX7 128 "LouderRoomModel" "music" "I") (List.mem_of_getElem? (i := 3) rfl)) (fun _ h9 => h9) rfl (by decide +kernel) rfl rfl (Nat.le_of_ble_eq_true rfl) rfl dX7_music_27 (fun H locs hP hD hS => ?_)
    obtain ⟨g4, ex⟩ : ∃ y : Ob, y = (sI g1 11 p1) := ⟨_, rfl⟩
    replace hf := bnd_at hf ex; rw [← ex] at hP hD; clear ex
    refine lv_aload_n hx hb dX7_music_30 rfl (lv_at hl 1 rfl) ?_
    refine lv_iload_n hx hb dX7_music_31 rfl (lv_at hl 3 rfl) ?_
    obtain ⟨hz, hf⟩ := grd hf
    refine pt_put (D := D) (ci := 7) (fty := .boolean) (C := RX7) (T := TX7) (N := 40) (w1 := fl [oX7 ty h0 a0 (sI g4 12 p2)]) F in_X7_music_X7 tyX7 tyX7_ok nmX7 hK.1 hP hD hS 0 rfl rfl 12 (Nat.le_of_ble_eq_true rfl) (F.2.2.2.2 (.fieldLink RX7 131 "LouderRoomModel" "follows" "Z") (List.mem_of_getElem? (i := 4) rfl)) (fun _ h9 => h9) rfl (by decide +kernel) (isb_n hz) (isb_f hz) (Nat.le_of_ble_eq_true rfl) rfl dX7_music_32 (fun H locs hP hD hS => ?_)
    obtain ⟨g5, ex⟩ : ∃ y : Ob, y = (sI g4 12 p2) := ⟨_, rfl⟩
    replace hf := bnd_at hf ex; rw [← ex] at hP hD; clear ex
    refine lv_iload_n hx hb dX7_music_35 rfl (lv_at hl 0 rfl) ?_
    obtain hf := hf
    obtain ⟨e0, e1⟩ := tup2 hf
    rw [e1] at hP hD
    exact CX_i F hr hlk hP hD hS e0 dX7_music_36
  · replace hf := ite_t hf hc
    refine lv_bipush (v := (-2 : Int32)) hx hb dX7_music_17 (by decide) ?_
    obtain hf := hf
    obtain ⟨e0, e1⟩ := tup2 hf
    rw [e1] at hP hD
    exact CX_i F hr hlk hP hD hS e0 dX7_music_19
def f_X7_eats (z0 : Ob) (p1 : Int32) : Option (Int32 × Ob) := bnd (sI z0 0 (0 : Int32)) (fun g1 => (f_X7_in p1.toInt64 (0 : Int64) (9 : Int64)).bind (fun v2 => (if v2 = 0 then some ((-2 : Int32), g1) else bnd (g1.1 10) (fun x3 => bnd (sI g1 10 p1) (fun g4 => some (x3, g4))))))
abbrev rm_X7_eats : Room := { frames := 1, cells := 0, slots := 0, locals := 25 }
theorem hd_X7_eats : yX7_eats.cls ≠ "java/lang/invoke/MethodHandle" ∧ yX7_eats.cls ≠ "java/lang/invoke/VarHandle" ∧ (parseMethodDescriptor yX7_eats.desc).map (fun d => d.parameters.length) = some 1 := by decide +kernel
theorem in_X7_eats_X7 : ∀ w ∈ wsX70, w ∈ wsX7_eats := fun w h => List.mem_cons_of_mem _ (List.mem_append_right _ h)
set_option maxHeartbeats 4000000 in
set_option maxRecDepth 100000 in
theorem c_X7_eats (l : Launch) (D : va_G) (ty : TY) (h0 : Nat) (a0 : Nat → Nat) (z0 : Ob) (p1 : Int32) (o0 : Int32) (o1 : Ob) (hf : f_X7_eats z0 p1 = some (o0, o1)) (sz : Nat) : CX l yX7_eats wsX7_eats rm_X7_eats ([.ref h0, .int p1] : List Value) D ty (fl [oX7 ty h0 a0 z0]) sz (qI D o0 (fl [oX7 ty h0 a0 o1])) 0 0 := by
  refine CX_of (cc := cX7_eats) (maxL := 3) (ret := (some .int)) (C := RX7) (by decide) rfl rfl (Nat.le_of_ble_eq_true rfl) ?_
  intro p e s m below meth c A ls F hr hlk _ hK hP hD hS hA hl
  have hx := F.1
  have hb := F.2.1
  replace hl : lv_has ls 3 [(0, .ref h0), (1, .int p1)] := hl
  unfold f_X7_eats at hf
  refine lv_aload_n hx hb dX7_eats_0 rfl (lv_at hl 0 rfl) ?_
  refine lv_iconst (v := (0 : Int32)) hx hb dX7_eats_1 (by decide) ?_
  refine pt_put (D := D) (ci := 7) (fty := .int) (C := RX7) (T := TX7) (N := 40) (w1 := fl [oX7 ty h0 a0 (sI z0 0 (0 : Int32))]) F in_X7_eats_X7 tyX7 tyX7_ok nmX7 hK.1 hP hD hS 0 rfl rfl 0 (Nat.le_of_ble_eq_true rfl) (F.2.2.2.2 (.fieldLink RX7 71 "LouderRoomModel" "thrown" "I") (List.mem_of_getElem? (i := 1) rfl)) (fun _ h9 => h9) rfl (by decide +kernel) rfl rfl (Nat.le_of_ble_eq_true rfl) rfl dX7_eats_2 (fun H locs hP hD hS => ?_)
  obtain ⟨g1, ex⟩ : ∃ y : Ob, y = (sI z0 0 (0 : Int32)) := ⟨_, rfl⟩
  replace hf := bnd_at hf ex; rw [← ex] at hP hD; clear ex
  refine lv_iload_n hx hb dX7_eats_5 rfl (lv_at hl 1 rfl) ?_
  refine lv_i2l hx hb dX7_eats_6 rfl ?_
  refine lv_lconst (v := (0 : Int64)) hx hb dX7_eats_7 (by decide) ?_
  refine lv_ldc2 hx hb F.2.2.2.1 (F.2.2.2.2 (.constantLong RX7 204 (9)) (List.mem_of_getElem? (i := 2) rfl)) dX7_eats_8 ?_
  obtain ⟨v2, hv, hf⟩ := obd hf
  have hp1 : List.Perm [oX7 ty h0 a0 g1] ([] ++ [oX7 ty h0 a0 g1]) := (List.Perm.refl _)
  refine ci_call (out := v2) (os := [oX7 ty h0 a0 g1]) (oc := []) (oc' := []) (or_ := [oX7 ty h0 a0 g1]) (os' := [oX7 ty h0 a0 g1]) (va_runS (As := [.long p1.toInt64, .long (0 : Int64), .long (9 : Int64)]) (rest := []) F (c_X7_in l D ty _ _ _ _ hv _) (va_cwS 3 F.2.2.2.2 gX7_eats_X7_in rfl rfl rfl hd_X7_in ⟨Nat.le_of_ble_eq_true rfl, Nat.le_of_ble_eq_true rfl⟩) (pre_s hK hP hD hp1) rfl rfl hl.1 rfl (lv_room (Nat.le_of_ble_eq_true rfl)) dX7_eats_11 ⟨Nat.zero_le _, Nat.zero_le _⟩) hp1 (List.Perm.refl _) hP hD hS hA (fun H locs hP hD hS => ?_)
  clear hp1 hv
  refine lv_if_ne (tgt := 20) hx hb dX7_eats_14 (by decide) (fun hc => ?_) (fun hc => ?_)
  · replace hf := ite_f hf hc
    refine lv_aload_n hx hb dX7_eats_20 rfl (lv_at hl 0 rfl) ?_
    refine va_get (D := D) (ci := 7) (C := RX7) (T := TX7) (N := 40) hx hb F.2.2.2.2 in_X7_eats_X7 F.2.2.2.1 hK.1 hP 0 rfl rfl 10 (Nat.le_of_ble_eq_true rfl) (F.2.2.2.2 (.fieldLink RX7 125 "LouderRoomModel" "eats" "I") (List.mem_of_getElem? (i := 3) rfl)) (fun _ h9 => h9) rfl dX7_eats_21 ?_
    refine lv_topi (fun x3 ex => ?_)
    replace hf := bnd_at hf ex; clear ex
    refine lv_istore_n (lv' := [(2, .int x3), (0, .ref h0), (1, .int p1)]) hx hb dX7_eats_24 rfl hl (by decide) rfl (fun ls hl => ?_)
    refine lv_aload_n hx hb dX7_eats_25 rfl (lv_at hl 1 rfl) ?_
    refine lv_iload_n hx hb dX7_eats_26 rfl (lv_at hl 2 rfl) ?_
    refine pt_put (D := D) (ci := 7) (fty := .int) (C := RX7) (T := TX7) (N := 40) (w1 := fl [oX7 ty h0 a0 (sI g1 10 p1)]) F in_X7_eats_X7 tyX7 tyX7_ok nmX7 hK.1 hP hD hS 0 rfl rfl 10 (Nat.le_of_ble_eq_true rfl) (F.2.2.2.2 (.fieldLink RX7 125 "LouderRoomModel" "eats" "I") (List.mem_of_getElem? (i := 3) rfl)) (fun _ h9 => h9) rfl (by decide +kernel) rfl rfl (Nat.le_of_ble_eq_true rfl) rfl dX7_eats_27 (fun H locs hP hD hS => ?_)
    obtain ⟨g4, ex⟩ : ∃ y : Ob, y = (sI g1 10 p1) := ⟨_, rfl⟩
    replace hf := bnd_at hf ex; rw [← ex] at hP hD; clear ex
    refine lv_iload_n hx hb dX7_eats_30 rfl (lv_at hl 0 rfl) ?_
    obtain hf := hf
    obtain ⟨e0, e1⟩ := tup2 hf
    rw [e1] at hP hD
    exact CX_i F hr hlk hP hD hS e0 dX7_eats_31
  · replace hf := ite_t hf hc
    refine lv_bipush (v := (-2 : Int32)) hx hb dX7_eats_17 (by decide) ?_
    obtain hf := hf
    obtain ⟨e0, e1⟩ := tup2 hf
    rw [e1] at hP hD
    exact CX_i F hr hlk hP hD hS e0 dX7_eats_19
