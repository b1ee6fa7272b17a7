theorem pt_astq {p : Program} {l : Launch} {e : Env} {R : Room} {s : State} {m : MethodId} {args : Array Value} {below : List Frame} {meth : Method} {c : Code} {H : Heap} {locs : List Loc} {cells slots : Nat} {Q : State → Prop} {cc : ByteArray} {nL pc : Nat} {ls : Array Slot} {rest : List Value} {Ts : List Cond} {own : String} {D : va_G} {A : Nat → Prop} {H0 : Heap} {a : Nat} {cl : List vw_C} {tys : List (ClassId × FieldType)} {ws w1 : va_W} (F : CallFix p m c cc nL s args Ts own) (hK : va_K D cl tys s) (hP : va_P D cl ws H) (hD : va_D A ws) (hS : va_S A H0 H locs) (q0 t0 qk ci : Nat) {cA : ClassId} {r : vw_C} {n v : Nat} {vs : List Value} {f : Nat → Option Nat} (ha : ws[q0]? = some (a, .inl (cA, n, .inr (.inr (.inr (.inr f)))))) (ht : tys[t0]? = some (cA, .object r.1)) (hv : ws[qk]? = some (v, .inr (ci, vs))) (hc : cl[ci]? = some r) {i : Int32} (hin : vp_in i n) (hw : ws.set q0 (a, .inl (cA, n, .inr (.inr (.inr (.inr (va_up f i.toNatClampNeg (some v))))))) = w1) (hdg : decode cc pc = .ok (.aastore, 1))
    (kk : ∀ (H1 : Heap) (locs1 : List Loc), va_P D cl w1 H1 → va_D A w1 → va_S A H0 H1 locs1 → W p l e R s m args below meth c H1 locs1 cells slots Q (F0 m (pc + 1) ls rest)) : W p l e R s m args below meth c H locs cells slots Q (F0 m pc ls (.ref v :: .int i :: .ref a :: rest)) := by
  subst hw
  exact va_astq F.1 F.2.1 hK hP hD hS q0 t0 qk ci ha ht hv hc hin hdg kk
theorem va_D_fst {A : Nat → Prop} {w w' : va_W} (h : w.map Prod.fst = w'.map Prod.fst) (hD : va_D A w) : va_D A w' := by
  obtain ⟨h1, h2⟩ := va_D_iff.mp hD
  refine va_D_iff.mpr ⟨h ▸ h1, fun q hq => ?_⟩
  have hm : q.1 ∈ w.map Prod.fst := by rw [h]; exact List.mem_map_of_mem hq
  obtain ⟨x, hx, ex⟩ := List.mem_map.mp hm
  exact ex ▸ h2 x hx
theorem arrV_congr {cA : ClassId} {n : Nat} {f g : Nat → Value} (h : ∀ j, j < n → f j = g j) : arrV cA n f = arrV cA n g := by
  have e : (fun j : Fin n => f j.val) = (fun j : Fin n => g j.val) := funext fun j => h j.val j.isLt
  unfold arrV
  rw [e]
theorem xa_swap {D : va_G} {ty : TY} {h aa n ci : Nat} {v : List Value} {f f' : Nat → Option Nat} {os : List va_W} {H : Heap} (hf : ∀ j, j < n → f j = f' j) (hP : va_P D vwC (fl ([(h, .inr (ci, v)), (aa, .inl (ty.2.2.2, n, .inr (.inr (.inr (.inr f)))))] :: os)) H) : va_P D vwC (fl ([(h, .inr (ci, v)), (aa, .inl (ty.2.2.2, n, .inr (.inr (.inr (.inr f')))))] :: os)) H := by
  rw [va_P_mem] at hP ⊢
  intro q hq
  rw [show fl ([(h, .inr (ci, v)), (aa, .inl (ty.2.2.2, n, .inr (.inr (.inr (.inr f')))))] :: os) = (h, .inr (ci, v)) :: (aa, .inl (ty.2.2.2, n, .inr (.inr (.inr (.inr f'))))) :: fl os from rfl] at hq
  rcases List.mem_cons.mp hq with rfl | hq
  · exact hP _ List.mem_cons_self
  rcases List.mem_cons.mp hq with rfl | hq
  · have h1 := hP _ (List.mem_cons_of_mem _ List.mem_cons_self)
    have h2 : H[aa]? = some (vp_cell ty.2.2.2 (n, .inr (.inr (.inr (.inr f))))) := h1
    show H[aa]? = some (vp_cell ty.2.2.2 (n, .inr (.inr (.inr (.inr f')))))
    rw [h2, vp_cell_q, vp_cell_q, arrV_congr (fun j hj => by rw [hf j hj])]
  · exact hP _ (List.mem_cons_of_mem _ (List.mem_cons_of_mem _ hq))
def f_X0_forgetFirst (z0 : AS) : Option AS := some ((9 : Int32), fun j => z0.2 (cond (Nat.beq j 9) 0 (j + 1)))
abbrev rm_X0_forgetFirst : Room := { frames := 0, cells := 0, slots := 0, locals := 0 }
theorem hd_X0_forgetFirst : yX0_forgetFirst.cls ≠ "java/lang/invoke/MethodHandle" ∧ yX0_forgetFirst.cls ≠ "java/lang/invoke/VarHandle" ∧ (parseMethodDescriptor yX0_forgetFirst.desc).map (fun d => d.parameters.length) = some 0 := by decide +kernel
theorem in_X0_forgetFirst_X0 : ∀ w ∈ wsX00, w ∈ wsX0_forgetFirst := fun w h => List.mem_cons_of_mem _ (List.mem_append_right _ h)
set_option maxHeartbeats 4000000 in
set_option maxRecDepth 100000 in
theorem c_X0_forgetFirst (l : Launch) (D : va_G) (ty : TY) (h0 : Nat) (aa0 : Nat) (z0 : AS) (o0 : AS) (hf : f_X0_forgetFirst z0 = some o0) (sz : Nat) : CX l yX0_forgetFirst wsX0_forgetFirst rm_X0_forgetFirst ([.ref h0] : List Value) D ty (fl [oXA ty h0 aa0 z0, oCB ty (z0.2 0), oCB ty (z0.2 1), oCB ty (z0.2 2), oCB ty (z0.2 3), oCB ty (z0.2 4), oCB ty (z0.2 5), oCB ty (z0.2 6), oCB ty (z0.2 7), oCB ty (z0.2 8), oCB ty (z0.2 9)]) sz (qV D (fl [oXA ty h0 aa0 o0, oCB ty (o0.2 0), oCB ty (o0.2 1), oCB ty (o0.2 2), oCB ty (o0.2 3), oCB ty (o0.2 4), oCB ty (o0.2 5), oCB ty (o0.2 6), oCB ty (o0.2 7), oCB ty (o0.2 8), oCB ty (o0.2 9)])) 0 0 := by
  refine CX_of (cc := cX0_forgetFirst) (maxL := 3) (ret := none) (C := RX0) (by decide) rfl rfl (Nat.le_of_ble_eq_true rfl) ?_
  intro p e s m below meth c A ls F hr hlk _ hK hP hD hS hA hl
  have hx := F.1
  have hb := F.2.1
  replace hl : lv_has ls 3 [(0, .ref h0)] := hl
  replace hP : va_P D vwC (fl [[(h0, .inr (0, [.ref aa0, .int z0.1])), (aa0, .inl (ty.2.2.2, 10, .inr (.inr (.inr (.inr (fun j => some (z0.2 j).1.1))))))], oCB ty (z0.2 0), oCB ty (z0.2 1), oCB ty (z0.2 2), oCB ty (z0.2 3), oCB ty (z0.2 4), oCB ty (z0.2 5), oCB ty (z0.2 6), oCB ty (z0.2 7), oCB ty (z0.2 8), oCB ty (z0.2 9)]) s.heap := hP
  replace hD : va_D A (fl [[(h0, .inr (0, [.ref aa0, .int z0.1])), (aa0, .inl (ty.2.2.2, 10, .inr (.inr (.inr (.inr (fun j => some (z0.2 j).1.1))))))], oCB ty (z0.2 0), oCB ty (z0.2 1), oCB ty (z0.2 2), oCB ty (z0.2 3), oCB ty (z0.2 4), oCB ty (z0.2 5), oCB ty (z0.2 6), oCB ty (z0.2 7), oCB ty (z0.2 8), oCB ty (z0.2 9)]) := hD
  refine lv_aload_n hx hb dX0_forgetFirst_0 rfl (lv_at hl 0 rfl) ?_
  refine va_get (D := D) (ci := 0) (C := RX0) (T := TX0) (N := 2) hx hb F.2.2.2.2 in_X0_forgetFirst_X0 F.2.2.2.1 hK.1 hP 0 rfl rfl 0 (Nat.le_of_ble_eq_true rfl) (F.2.2.2.2 (.fieldLink RX0 11 "LouderRoom$Acts" "ahead" "[LLouderRoom$Crowd;") (List.mem_of_getElem? (i := 1) rfl)) (fun _ h9 => h9) rfl dX0_forgetFirst_1 ?_
  refine lv_iconst (v := (0 : Int32)) hx hb dX0_forgetFirst_4 (by decide) ?_
  refine va_aldq hx hb hK.1 hP 1 3 rfl rfl (inb_in (n := 10) (by decide)) dX0_forgetFirst_5 ?_
  refine W.eq (g2 := F0 m 6 ls [.ref (z0.2 0).1.1]) rfl ?_
  refine lv_astore_n (lv' := [(1, .ref (z0.2 0).1.1), (0, .ref h0)]) hx hb dX0_forgetFirst_6 rfl hl (by decide) rfl (fun ls hl => ?_)
  refine lv_iconst (v := (0 : Int32)) hx hb dX0_forgetFirst_7 (by decide) ?_
  refine lv_istore_n (lv' := [(2, .int (0 : Int32)), (1, .ref (z0.2 0).1.1), (0, .ref h0)]) hx hb dX0_forgetFirst_8 rfl hl (by decide) rfl (fun ls hl => ?_)
  refine lv_iload_n hx hb dX0_forgetFirst_9 rfl (lv_at hl 0 rfl) ?_
  refine lv_bipush (v := (9 : Int32)) hx hb dX0_forgetFirst_10 (by decide) ?_
  refine lv_icmp_ge (tgt := 35) hx hb dX0_forgetFirst_12 (by decide) (fun hc => absurd hc (by decide)) (fun hc => ?_)
  refine lv_aload_n hx hb dX0_forgetFirst_15 rfl (lv_at hl 2 rfl) ?_
  refine va_get (D := D) (ci := 0) (C := RX0) (T := TX0) (N := 2) hx hb F.2.2.2.2 in_X0_forgetFirst_X0 F.2.2.2.1 hK.1 hP 0 rfl rfl 0 (Nat.le_of_ble_eq_true rfl) (F.2.2.2.2 (.fieldLink RX0 11 "LouderRoom$Acts" "ahead" "[LLouderRoom$Crowd;") (List.mem_of_getElem? (i := 1) rfl)) (fun _ h9 => h9) rfl dX0_forgetFirst_16 ?_
  refine lv_iload_n hx hb dX0_forgetFirst_19 rfl (lv_at hl 0 rfl) ?_
  refine lv_aload_n hx hb dX0_forgetFirst_20 rfl (lv_at hl 2 rfl) ?_
  refine va_get (D := D) (ci := 0) (C := RX0) (T := TX0) (N := 2) hx hb F.2.2.2.2 in_X0_forgetFirst_X0 F.2.2.2.1 hK.1 hP 0 rfl rfl 0 (Nat.le_of_ble_eq_true rfl) (F.2.2.2.2 (.fieldLink RX0 11 "LouderRoom$Acts" "ahead" "[LLouderRoom$Crowd;") (List.mem_of_getElem? (i := 1) rfl)) (fun _ h9 => h9) rfl dX0_forgetFirst_21 ?_
  refine lv_iload_n hx hb dX0_forgetFirst_24 rfl (lv_at hl 0 rfl) ?_
  refine lv_iconst (v := (1 : Int32)) hx hb dX0_forgetFirst_25 (by decide) ?_
  refine lv_iadd hx hb dX0_forgetFirst_26 ?_
  refine W.eq (g2 := F0 m 27 ls [.int (1 : Int32), .ref aa0, .int (0 : Int32), .ref aa0]) rfl ?_
  refine va_aldq hx hb hK.1 hP 1 3 rfl rfl (inb_in (n := 10) (by decide)) dX0_forgetFirst_27 ?_
  refine W.eq (g2 := F0 m 28 ls [.ref (z0.2 1).1.1, .int (0 : Int32), .ref aa0]) rfl ?_
  refine pt_astq (w1 := fl [[(h0, .inr (0, [.ref aa0, .int z0.1])), (aa0, .inl (ty.2.2.2, 10, .inr (.inr (.inr (.inr (va_up (fun j => some (z0.2 j).1.1) 0 (some (z0.2 1).1.1)))))))], oCB ty (z0.2 0), oCB ty (z0.2 1), oCB ty (z0.2 2), oCB ty (z0.2 3), oCB ty (z0.2 4), oCB ty (z0.2 5), oCB ty (z0.2 6), oCB ty (z0.2 7), oCB ty (z0.2 8), oCB ty (z0.2 9)]) (r := (RX1, TX1, 12)) F hK.1 hP hD hS 1 3 9 1 rfl rfl rfl rfl (inb_in (n := 10) (by decide)) rfl dX0_forgetFirst_28 (fun H locs hP hD hS => ?_)
  refine lv_iinc (v := (1 : Int32)) (lv' := [(2, .int (1 : Int32)), (1, .ref (z0.2 0).1.1), (0, .ref h0)]) hx hb dX0_forgetFirst_29 hl (k := 0) rfl (by decide) (by decide) rfl (fun ls hl => ?_)
  refine lv_goto (tgt := 9) hx hb dX0_forgetFirst_32 (by decide) ?_
  refine lv_iload_n hx hb dX0_forgetFirst_9 rfl (lv_at hl 0 rfl) ?_
  refine lv_bipush (v := (9 : Int32)) hx hb dX0_forgetFirst_10 (by decide) ?_
  refine lv_icmp_ge (tgt := 35) hx hb dX0_forgetFirst_12 (by decide) (fun hc => absurd hc (by decide)) (fun hc => ?_)
  refine lv_aload_n hx hb dX0_forgetFirst_15 rfl (lv_at hl 2 rfl) ?_
  refine va_get (D := D) (ci := 0) (C := RX0) (T := TX0) (N := 2) hx hb F.2.2.2.2 in_X0_forgetFirst_X0 F.2.2.2.1 hK.1 hP 0 rfl rfl 0 (Nat.le_of_ble_eq_true rfl) (F.2.2.2.2 (.fieldLink RX0 11 "LouderRoom$Acts" "ahead" "[LLouderRoom$Crowd;") (List.mem_of_getElem? (i := 1) rfl)) (fun _ h9 => h9) rfl dX0_forgetFirst_16 ?_
  refine lv_iload_n hx hb dX0_forgetFirst_19 rfl (lv_at hl 0 rfl) ?_
  refine lv_aload_n hx hb dX0_forgetFirst_20 rfl (lv_at hl 2 rfl) ?_
  refine va_get (D := D) (ci := 0) (C := RX0) (T := TX0) (N := 2) hx hb F.2.2.2.2 in_X0_forgetFirst_X0 F.2.2.2.1 hK.1 hP 0 rfl rfl 0 (Nat.le_of_ble_eq_true rfl) (F.2.2.2.2 (.fieldLink RX0 11 "LouderRoom$Acts" "ahead" "[LLouderRoom$Crowd;") (List.mem_of_getElem? (i := 1) rfl)) (fun _ h9 => h9) rfl dX0_forgetFirst_21 ?_
  refine lv_iload_n hx hb dX0_forgetFirst_24 rfl (lv_at hl 0 rfl) ?_
  refine lv_iconst (v := (1 : Int32)) hx hb dX0_forgetFirst_25 (by decide) ?_
  refine lv_iadd hx hb dX0_forgetFirst_26 ?_
  refine W.eq (g2 := F0 m 27 ls [.int (2 : Int32), .ref aa0, .int (1 : Int32), .ref aa0]) rfl ?_
  refine va_aldq hx hb hK.1 hP 1 3 rfl rfl (inb_in (n := 10) (by decide)) dX0_forgetFirst_27 ?_
  refine W.eq (g2 := F0 m 28 ls [.ref (z0.2 2).1.1, .int (1 : Int32), .ref aa0]) rfl ?_
  refine pt_astq (w1 := fl [[(h0, .inr (0, [.ref aa0, .int z0.1])), (aa0, .inl (ty.2.2.2, 10, .inr (.inr (.inr (.inr (va_up (va_up (fun j => some (z0.2 j).1.1) 0 (some (z0.2 1).1.1)) 1 (some (z0.2 2).1.1)))))))], oCB ty (z0.2 0), oCB ty (z0.2 1), oCB ty (z0.2 2), oCB ty (z0.2 3), oCB ty (z0.2 4), oCB ty (z0.2 5), oCB ty (z0.2 6), oCB ty (z0.2 7), oCB ty (z0.2 8), oCB ty (z0.2 9)]) (r := (RX1, TX1, 12)) F hK.1 hP hD hS 1 3 16 1 rfl rfl rfl rfl (inb_in (n := 10) (by decide)) rfl dX0_forgetFirst_28 (fun H locs hP hD hS => ?_)
  refine lv_iinc (v := (2 : Int32)) (lv' := [(2, .int (2 : Int32)), (1, .ref (z0.2 0).1.1), (0, .ref h0)]) hx hb dX0_forgetFirst_29 hl (k := 0) rfl (by decide) (by decide) rfl (fun ls hl => ?_)
  refine lv_goto (tgt := 9) hx hb dX0_forgetFirst_32 (by decide) ?_
  refine lv_iload_n hx hb dX0_forgetFirst_9 rfl (lv_at hl 0 rfl) ?_
  refine lv_bipush (v := (9 : Int32)) hx hb dX0_forgetFirst_10 (by decide) ?_
  refine lv_icmp_ge (tgt := 35) hx hb dX0_forgetFirst_12 (by decide) (fun hc => absurd hc (by decide)) (fun hc => ?_)
  refine lv_aload_n hx hb dX0_forgetFirst_15 rfl (lv_at hl 2 rfl) ?_
  refine va_get (D := D) (ci := 0) (C := RX0) (T := TX0) (N := 2) hx hb F.2.2.2.2 in_X0_forgetFirst_X0 F.2.2.2.1 hK.1 hP 0 rfl rfl 0 (Nat.le_of_ble_eq_true rfl) (F.2.2.2.2 (.fieldLink RX0 11 "LouderRoom$Acts" "ahead" "[LLouderRoom$Crowd;") (List.mem_of_getElem? (i := 1) rfl)) (fun _ h9 => h9) rfl dX0_forgetFirst_16 ?_
  refine lv_iload_n hx hb dX0_forgetFirst_19 rfl (lv_at hl 0 rfl) ?_
  refine lv_aload_n hx hb dX0_forgetFirst_20 rfl (lv_at hl 2 rfl) ?_
  refine va_get (D := D) (ci := 0) (C := RX0) (T := TX0) (N := 2) hx hb F.2.2.2.2 in_X0_forgetFirst_X0 F.2.2.2.1 hK.1 hP 0 rfl rfl 0 (Nat.le_of_ble_eq_true rfl) (F.2.2.2.2 (.fieldLink RX0 11 "LouderRoom$Acts" "ahead" "[LLouderRoom$Crowd;") (List.mem_of_getElem? (i := 1) rfl)) (fun _ h9 => h9) rfl dX0_forgetFirst_21 ?_
  refine lv_iload_n hx hb dX0_forgetFirst_24 rfl (lv_at hl 0 rfl) ?_
  refine lv_iconst (v := (1 : Int32)) hx hb dX0_forgetFirst_25 (by decide) ?_
  refine lv_iadd hx hb dX0_forgetFirst_26 ?_
  refine W.eq (g2 := F0 m 27 ls [.int (3 : Int32), .ref aa0, .int (2 : Int32), .ref aa0]) rfl ?_
  refine va_aldq hx hb hK.1 hP 1 3 rfl rfl (inb_in (n := 10) (by decide)) dX0_forgetFirst_27 ?_
  refine W.eq (g2 := F0 m 28 ls [.ref (z0.2 3).1.1, .int (2 : Int32), .ref aa0]) rfl ?_
  refine pt_astq (w1 := fl [[(h0, .inr (0, [.ref aa0, .int z0.1])), (aa0, .inl (ty.2.2.2, 10, .inr (.inr (.inr (.inr (va_up (va_up (va_up (fun j => some (z0.2 j).1.1) 0 (some (z0.2 1).1.1)) 1 (some (z0.2 2).1.1)) 2 (some (z0.2 3).1.1)))))))], oCB ty (z0.2 0), oCB ty (z0.2 1), oCB ty (z0.2 2), oCB ty (z0.2 3), oCB ty (z0.2 4), oCB ty (z0.2 5), oCB ty (z0.2 6), oCB ty (z0.2 7), oCB ty (z0.2 8), oCB ty (z0.2 9)]) (r := (RX1, TX1, 12)) F hK.1 hP hD hS 1 3 23 1 rfl rfl rfl rfl (inb_in (n := 10) (by decide)) rfl dX0_forgetFirst_28 (fun H locs hP hD hS => ?_)
  refine lv_iinc (v := (3 : Int32)) (lv' := [(2, .int (3 : Int32)), (1, .ref (z0.2 0).1.1), (0, .ref h0)]) hx hb dX0_forgetFirst_29 hl (k := 0) rfl (by decide) (by decide) rfl (fun ls hl => ?_)
  refine lv_goto (tgt := 9) hx hb dX0_forgetFirst_32 (by decide) ?_
  refine lv_iload_n hx hb dX0_forgetFirst_9 rfl (lv_at hl 0 rfl) ?_
  refine lv_bipush (v := (9 : Int32)) hx hb dX0_forgetFirst_10 (by decide) ?_
  refine lv_icmp_ge (tgt := 35) hx hb dX0_forgetFirst_12 (by decide) (fun hc => absurd hc (by decide)) (fun hc => ?_)
  refine lv_aload_n hx hb dX0_forgetFirst_15 rfl (lv_at hl 2 rfl) ?_
  refine va_get (D := D) (ci := 0) (C := RX0) (T := TX0) (N := 2) hx hb F.2.2.2.2 in_X0_forgetFirst_X0 F.2.2.2.1 hK.1 hP 0 rfl rfl 0 (Nat.le_of_ble_eq_true rfl) (F.2.2.2.2 (.fieldLink RX0 11 "LouderRoom$Acts" "ahead" "[LLouderRoom$Crowd;") (List.mem_of_getElem? (i := 1) rfl)) (fun _ h9 => h9) rfl dX0_forgetFirst_16 ?_
  refine lv_iload_n hx hb dX0_forgetFirst_19 rfl (lv_at hl 0 rfl) ?_
  refine lv_aload_n hx hb dX0_forgetFirst_20 rfl (lv_at hl 2 rfl) ?_
  refine va_get (D := D) (ci := 0) (C := RX0) (T := TX0) (N := 2) hx hb F.2.2.2.2 in_X0_forgetFirst_X0 F.2.2.2.1 hK.1 hP 0 rfl rfl 0 (Nat.le_of_ble_eq_true rfl) (F.2.2.2.2 (.fieldLink RX0 11 "LouderRoom$Acts" "ahead" "[LLouderRoom$Crowd;") (List.mem_of_getElem? (i := 1) rfl)) (fun _ h9 => h9) rfl dX0_forgetFirst_21 ?_
  refine lv_iload_n hx hb dX0_forgetFirst_24 rfl (lv_at hl 0 rfl) ?_
  refine lv_iconst (v := (1 : Int32)) hx hb dX0_forgetFirst_25 (by decide) ?_
  refine lv_iadd hx hb dX0_forgetFirst_26 ?_
  refine W.eq (g2 := F0 m 27 ls [.int (4 : Int32), .ref aa0, .int (3 : Int32), .ref aa0]) rfl ?_
  refine va_aldq hx hb hK.1 hP 1 3 rfl rfl (inb_in (n := 10) (by decide)) dX0_forgetFirst_27 ?_
  refine W.eq (g2 := F0 m 28 ls [.ref (z0.2 4).1.1, .int (3 : Int32), .ref aa0]) rfl ?_
  refine pt_astq (w1 := fl [[(h0, .inr (0, [.ref aa0, .int z0.1])), (aa0, .inl (ty.2.2.2, 10, .inr (.inr (.inr (.inr (va_up (va_up (va_up (va_up (fun j => some (z0.2 j).1.1) 0 (some (z0.2 1).1.1)) 1 (some (z0.2 2).1.1)) 2 (some (z0.2 3).1.1)) 3 (some (z0.2 4).1.1)))))))], oCB ty (z0.2 0), oCB ty (z0.2 1), oCB ty (z0.2 2), oCB ty (z0.2 3), oCB ty (z0.2 4), oCB ty (z0.2 5), oCB ty (z0.2 6), oCB ty (z0.2 7), oCB ty (z0.2 8), oCB ty (z0.2 9)]) (r := (RX1, TX1, 12)) F hK.1 hP hD hS 1 3 30 1 rfl rfl rfl rfl (inb_in (n := 10) (by decide)) rfl dX0_forgetFirst_28 (fun H locs hP hD hS => ?_)
  refine lv_iinc (v := (4 : Int32)) (lv' := [(2, .int (4 : Int32)), (1, .ref (z0.2 0).1.1), (0, .ref h0)]) hx hb dX0_forgetFirst_29 hl (k := 0) rfl (by decide) (by decide) rfl (fun ls hl => ?_)
  refine lv_goto (tgt := 9) hx hb dX0_forgetFirst_32 (by decide) ?_
  refine lv_iload_n hx hb dX0_forgetFirst_9 rfl (lv_at hl 0 rfl) ?_
  refine lv_bipush (v := (9 : Int32)) hx hb dX0_forgetFirst_10 (by decide) ?_
  refine lv_icmp_ge (tgt := 35) hx hb dX0_forgetFirst_12 (by decide) (fun hc => absurd hc (by decide)) (fun hc => ?_)
  refine lv_aload_n hx hb dX0_forgetFirst_15 rfl (lv_at hl 2 rfl) ?_
  refine va_get (D := D) (ci := 0) (C := RX0) (T := TX0) (N := 2) hx hb F.2.2.2.2 in_X0_forgetFirst_X0 F.2.2.2.1 hK.1 hP 0 rfl rfl 0 (Nat.le_of_ble_eq_true rfl) (F.2.2.2.2 (.fieldLink RX0 11 "LouderRoom$Acts" "ahead" "[LLouderRoom$Crowd;") (List.mem_of_getElem? (i := 1) rfl)) (fun _ h9 => h9) rfl dX0_forgetFirst_16 ?_
  refine lv_iload_n hx hb dX0_forgetFirst_19 rfl (lv_at hl 0 rfl) ?_
  refine lv_aload_n hx hb dX0_forgetFirst_20 rfl (lv_at hl 2 rfl) ?_
  refine va_get (D := D) (ci := 0) (C := RX0) (T := TX0) (N := 2) hx hb F.2.2.2.2 in_X0_forgetFirst_X0 F.2.2.2.1 hK.1 hP 0 rfl rfl 0 (Nat.le_of_ble_eq_true rfl) (F.2.2.2.2 (.fieldLink RX0 11 "LouderRoom$Acts" "ahead" "[LLouderRoom$Crowd;") (List.mem_of_getElem? (i := 1) rfl)) (fun _ h9 => h9) rfl dX0_forgetFirst_21 ?_
  refine lv_iload_n hx hb dX0_forgetFirst_24 rfl (lv_at hl 0 rfl) ?_
  refine lv_iconst (v := (1 : Int32)) hx hb dX0_forgetFirst_25 (by decide) ?_
  refine lv_iadd hx hb dX0_forgetFirst_26 ?_
  refine W.eq (g2 := F0 m 27 ls [.int (5 : Int32), .ref aa0, .int (4 : Int32), .ref aa0]) rfl ?_
  refine va_aldq hx hb hK.1 hP 1 3 rfl rfl (inb_in (n := 10) (by decide)) dX0_forgetFirst_27 ?_
  refine W.eq (g2 := F0 m 28 ls [.ref (z0.2 5).1.1, .int (4 : Int32), .ref aa0]) rfl ?_
  refine pt_astq (w1 := fl [[(h0, .inr (0, [.ref aa0, .int z0.1])), (aa0, .inl (ty.2.2.2, 10, .inr (.inr (.inr (.inr (va_up (va_up (va_up (va_up (va_up (fun j => some (z0.2 j).1.1) 0 (some (z0.2 1).1.1)) 1 (some (z0.2 2).1.1)) 2 (some (z0.2 3).1.1)) 3 (some (z0.2 4).1.1)) 4 (some (z0.2 5).1.1)))))))], oCB ty (z0.2 0), oCB ty (z0.2 1), oCB ty (z0.2 2), oCB ty (z0.2 3), oCB ty (z0.2 4), oCB ty (z0.2 5), oCB ty (z0.2 6), oCB ty (z0.2 7), oCB ty (z0.2 8), oCB ty (z0.2 9)]) (r := (RX1, TX1, 12)) F hK.1 hP hD hS 1 3 37 1 rfl rfl rfl rfl (inb_in (n := 10) (by decide)) rfl dX0_forgetFirst_28 (fun H locs hP hD hS => ?_)
  refine lv_iinc (v := (5 : Int32)) (lv' := [(2, .int (5 : Int32)), (1, .ref (z0.2 0).1.1), (0, .ref h0)]) hx hb dX0_forgetFirst_29 hl (k := 0) rfl (by decide) (by decide) rfl (fun ls hl => ?_)
  refine lv_goto (tgt := 9) hx hb dX0_forgetFirst_32 (by decide) ?_
  refine lv_iload_n hx hb dX0_forgetFirst_9 rfl (lv_at hl 0 rfl) ?_
  refine lv_bipush (v := (9 : Int32)) hx hb dX0_forgetFirst_10 (by decide) ?_
  refine lv_icmp_ge (tgt := 35) hx hb dX0_forgetFirst_12 (by decide) (fun hc => absurd hc (by decide)) (fun hc => ?_)
  refine lv_aload_n hx hb dX0_forgetFirst_15 rfl (lv_at hl 2 rfl) ?_
  refine va_get (D := D) (ci := 0) (C := RX0) (T := TX0) (N := 2) hx hb F.2.2.2.2 in_X0_forgetFirst_X0 F.2.2.2.1 hK.1 hP 0 rfl rfl 0 (Nat.le_of_ble_eq_true rfl) (F.2.2.2.2 (.fieldLink RX0 11 "LouderRoom$Acts" "ahead" "[LLouderRoom$Crowd;") (List.mem_of_getElem? (i := 1) rfl)) (fun _ h9 => h9) rfl dX0_forgetFirst_16 ?_
  refine lv_iload_n hx hb dX0_forgetFirst_19 rfl (lv_at hl 0 rfl) ?_
  refine lv_aload_n hx hb dX0_forgetFirst_20 rfl (lv_at hl 2 rfl) ?_
  refine va_get (D := D) (ci := 0) (C := RX0) (T := TX0) (N := 2) hx hb F.2.2.2.2 in_X0_forgetFirst_X0 F.2.2.2.1 hK.1 hP 0 rfl rfl 0 (Nat.le_of_ble_eq_true rfl) (F.2.2.2.2 (.fieldLink RX0 11 "LouderRoom$Acts" "ahead" "[LLouderRoom$Crowd;") (List.mem_of_getElem? (i := 1) rfl)) (fun _ h9 => h9) rfl dX0_forgetFirst_21 ?_
  refine lv_iload_n hx hb dX0_forgetFirst_24 rfl (lv_at hl 0 rfl) ?_
  refine lv_iconst (v := (1 : Int32)) hx hb dX0_forgetFirst_25 (by decide) ?_
  refine lv_iadd hx hb dX0_forgetFirst_26 ?_
  refine W.eq (g2 := F0 m 27 ls [.int (6 : Int32), .ref aa0, .int (5 : Int32), .ref aa0]) rfl ?_
  refine va_aldq hx hb hK.1 hP 1 3 rfl rfl (inb_in (n := 10) (by decide)) dX0_forgetFirst_27 ?_
  refine W.eq (g2 := F0 m 28 ls [.ref (z0.2 6).1.1, .int (5 : Int32), .ref aa0]) rfl ?_
  refine pt_astq (w1 := fl [[(h0, .inr (0, [.ref aa0, .int z0.1])), (aa0, .inl (ty.2.2.2, 10, .inr (.inr (.inr (.inr (va_up (va_up (va_up (va_up (va_up (va_up (fun j => some (z0.2 j).1.1) 0 (some (z0.2 1).1.1)) 1 (some (z0.2 2).1.1)) 2 (some (z0.2 3).1.1)) 3 (some (z0.2 4).1.1)) 4 (some (z0.2 5).1.1)) 5 (some (z0.2 6).1.1)))))))], oCB ty (z0.2 0), oCB ty (z0.2 1), oCB ty (z0.2 2), oCB ty (z0.2 3), oCB ty (z0.2 4), oCB ty (z0.2 5), oCB ty (z0.2 6), oCB ty (z0.2 7), oCB ty (z0.2 8), oCB ty (z0.2 9)]) (r := (RX1, TX1, 12)) F hK.1 hP hD hS 1 3 44 1 rfl rfl rfl rfl (inb_in (n := 10) (by decide)) rfl dX0_forgetFirst_28 (fun H locs hP hD hS => ?_)
  refine lv_iinc (v := (6 : Int32)) (lv' := [(2, .int (6 : Int32)), (1, .ref (z0.2 0).1.1), (0, .ref h0)]) hx hb dX0_forgetFirst_29 hl (k := 0) rfl (by decide) (by decide) rfl (fun ls hl => ?_)
  refine lv_goto (tgt := 9) hx hb dX0_forgetFirst_32 (by decide) ?_
  refine lv_iload_n hx hb dX0_forgetFirst_9 rfl (lv_at hl 0 rfl) ?_
  refine lv_bipush (v := (9 : Int32)) hx hb dX0_forgetFirst_10 (by decide) ?_
  refine lv_icmp_ge (tgt := 35) hx hb dX0_forgetFirst_12 (by decide) (fun hc => absurd hc (by decide)) (fun hc => ?_)
  refine lv_aload_n hx hb dX0_forgetFirst_15 rfl (lv_at hl 2 rfl) ?_
  refine va_get (D := D) (ci := 0) (C := RX0) (T := TX0) (N := 2) hx hb F.2.2.2.2 in_X0_forgetFirst_X0 F.2.2.2.1 hK.1 hP 0 rfl rfl 0 (Nat.le_of_ble_eq_true rfl) (F.2.2.2.2 (.fieldLink RX0 11 "LouderRoom$Acts" "ahead" "[LLouderRoom$Crowd;") (List.mem_of_getElem? (i := 1) rfl)) (fun _ h9 => h9) rfl dX0_forgetFirst_16 ?_
  refine lv_iload_n hx hb dX0_forgetFirst_19 rfl (lv_at hl 0 rfl) ?_
  refine lv_aload_n hx hb dX0_forgetFirst_20 rfl (lv_at hl 2 rfl) ?_
  refine va_get (D := D) (ci := 0) (C := RX0) (T := TX0) (N := 2) hx hb F.2.2.2.2 in_X0_forgetFirst_X0 F.2.2.2.1 hK.1 hP 0 rfl rfl 0 (Nat.le_of_ble_eq_true rfl) (F.2.2.2.2 (.fieldLink RX0 11 "LouderRoom$Acts" "ahead" "[LLouderRoom$Crowd;") (List.mem_of_getElem? (i := 1) rfl)) (fun _ h9 => h9) rfl dX0_forgetFirst_21 ?_
  refine lv_iload_n hx hb dX0_forgetFirst_24 rfl (lv_at hl 0 rfl) ?_
  refine lv_iconst (v := (1 : Int32)) hx hb dX0_forgetFirst_25 (by decide) ?_
  refine lv_iadd hx hb dX0_forgetFirst_26 ?_
  refine W.eq (g2 := F0 m 27 ls [.int (7 : Int32), .ref aa0, .int (6 : Int32), .ref aa0]) rfl ?_
  refine va_aldq hx hb hK.1 hP 1 3 rfl rfl (inb_in (n := 10) (by decide)) dX0_forgetFirst_27 ?_
  refine W.eq (g2 := F0 m 28 ls [.ref (z0.2 7).1.1, .int (6 : Int32), .ref aa0]) rfl ?_
  refine pt_astq (w1 := fl [[(h0, .inr (0, [.ref aa0, .int z0.1])), (aa0, .inl (ty.2.2.2, 10, .inr (.inr (.inr (.inr (va_up (va_up (va_up (va_up (va_up (va_up (va_up (fun j => some (z0.2 j).1.1) 0 (some (z0.2 1).1.1)) 1 (some (z0.2 2).1.1)) 2 (some (z0.2 3).1.1)) 3 (some (z0.2 4).1.1)) 4 (some (z0.2 5).1.1)) 5 (some (z0.2 6).1.1)) 6 (some (z0.2 7).1.1)))))))], oCB ty (z0.2 0), oCB ty (z0.2 1), oCB ty (z0.2 2), oCB ty (z0.2 3), oCB ty (z0.2 4), oCB ty (z0.2 5), oCB ty (z0.2 6), oCB ty (z0.2 7), oCB ty (z0.2 8), oCB ty (z0.2 9)]) (r := (RX1, TX1, 12)) F hK.1 hP hD hS 1 3 51 1 rfl rfl rfl rfl (inb_in (n := 10) (by decide)) rfl dX0_forgetFirst_28 (fun H locs hP hD hS => ?_)
  refine lv_iinc (v := (7 : Int32)) (lv' := [(2, .int (7 : Int32)), (1, .ref (z0.2 0).1.1), (0, .ref h0)]) hx hb dX0_forgetFirst_29 hl (k := 0) rfl (by decide) (by decide) rfl (fun ls hl => ?_)
  refine lv_goto (tgt := 9) hx hb dX0_forgetFirst_32 (by decide) ?_
  refine lv_iload_n hx hb dX0_forgetFirst_9 rfl (lv_at hl 0 rfl) ?_
  refine lv_bipush (v := (9 : Int32)) hx hb dX0_forgetFirst_10 (by decide) ?_
  refine lv_icmp_ge (tgt := 35) hx hb dX0_forgetFirst_12 (by decide) (fun hc => absurd hc (by decide)) (fun hc => ?_)
  refine lv_aload_n hx hb dX0_forgetFirst_15 rfl (lv_at hl 2 rfl) ?_
  refine va_get (D := D) (ci := 0) (C := RX0) (T := TX0) (N := 2) hx hb F.2.2.2.2 in_X0_forgetFirst_X0 F.2.2.2.1 hK.1 hP 0 rfl rfl 0 (Nat.le_of_ble_eq_true rfl) (F.2.2.2.2 (.fieldLink RX0 11 "LouderRoom$Acts" "ahead" "[LLouderRoom$Crowd;") (List.mem_of_getElem? (i := 1) rfl)) (fun _ h9 => h9) rfl dX0_forgetFirst_16 ?_
  refine lv_iload_n hx hb dX0_forgetFirst_19 rfl (lv_at hl 0 rfl) ?_
  refine lv_aload_n hx hb dX0_forgetFirst_20 rfl (lv_at hl 2 rfl) ?_
  refine va_get (D := D) (ci := 0) (C := RX0) (T := TX0) (N := 2) hx hb F.2.2.2.2 in_X0_forgetFirst_X0 F.2.2.2.1 hK.1 hP 0 rfl rfl 0 (Nat.le_of_ble_eq_true rfl) (F.2.2.2.2 (.fieldLink RX0 11 "LouderRoom$Acts" "ahead" "[LLouderRoom$Crowd;") (List.mem_of_getElem? (i := 1) rfl)) (fun _ h9 => h9) rfl dX0_forgetFirst_21 ?_
  refine lv_iload_n hx hb dX0_forgetFirst_24 rfl (lv_at hl 0 rfl) ?_
  refine lv_iconst (v := (1 : Int32)) hx hb dX0_forgetFirst_25 (by decide) ?_
  refine lv_iadd hx hb dX0_forgetFirst_26 ?_
  refine W.eq (g2 := F0 m 27 ls [.int (8 : Int32), .ref aa0, .int (7 : Int32), .ref aa0]) rfl ?_
  refine va_aldq hx hb hK.1 hP 1 3 rfl rfl (inb_in (n := 10) (by decide)) dX0_forgetFirst_27 ?_
  refine W.eq (g2 := F0 m 28 ls [.ref (z0.2 8).1.1, .int (7 : Int32), .ref aa0]) rfl ?_
  refine pt_astq (w1 := fl [[(h0, .inr (0, [.ref aa0, .int z0.1])), (aa0, .inl (ty.2.2.2, 10, .inr (.inr (.inr (.inr (va_up (va_up (va_up (va_up (va_up (va_up (va_up (va_up (fun j => some (z0.2 j).1.1) 0 (some (z0.2 1).1.1)) 1 (some (z0.2 2).1.1)) 2 (some (z0.2 3).1.1)) 3 (some (z0.2 4).1.1)) 4 (some (z0.2 5).1.1)) 5 (some (z0.2 6).1.1)) 6 (some (z0.2 7).1.1)) 7 (some (z0.2 8).1.1)))))))], oCB ty (z0.2 0), oCB ty (z0.2 1), oCB ty (z0.2 2), oCB ty (z0.2 3), oCB ty (z0.2 4), oCB ty (z0.2 5), oCB ty (z0.2 6), oCB ty (z0.2 7), oCB ty (z0.2 8), oCB ty (z0.2 9)]) (r := (RX1, TX1, 12)) F hK.1 hP hD hS 1 3 58 1 rfl rfl rfl rfl (inb_in (n := 10) (by decide)) rfl dX0_forgetFirst_28 (fun H locs hP hD hS => ?_)
  refine lv_iinc (v := (8 : Int32)) (lv' := [(2, .int (8 : Int32)), (1, .ref (z0.2 0).1.1), (0, .ref h0)]) hx hb dX0_forgetFirst_29 hl (k := 0) rfl (by decide) (by decide) rfl (fun ls hl => ?_)
  refine lv_goto (tgt := 9) hx hb dX0_forgetFirst_32 (by decide) ?_
  refine lv_iload_n hx hb dX0_forgetFirst_9 rfl (lv_at hl 0 rfl) ?_
  refine lv_bipush (v := (9 : Int32)) hx hb dX0_forgetFirst_10 (by decide) ?_
  refine lv_icmp_ge (tgt := 35) hx hb dX0_forgetFirst_12 (by decide) (fun hc => absurd hc (by decide)) (fun hc => ?_)
  refine lv_aload_n hx hb dX0_forgetFirst_15 rfl (lv_at hl 2 rfl) ?_
  refine va_get (D := D) (ci := 0) (C := RX0) (T := TX0) (N := 2) hx hb F.2.2.2.2 in_X0_forgetFirst_X0 F.2.2.2.1 hK.1 hP 0 rfl rfl 0 (Nat.le_of_ble_eq_true rfl) (F.2.2.2.2 (.fieldLink RX0 11 "LouderRoom$Acts" "ahead" "[LLouderRoom$Crowd;") (List.mem_of_getElem? (i := 1) rfl)) (fun _ h9 => h9) rfl dX0_forgetFirst_16 ?_
  refine lv_iload_n hx hb dX0_forgetFirst_19 rfl (lv_at hl 0 rfl) ?_
  refine lv_aload_n hx hb dX0_forgetFirst_20 rfl (lv_at hl 2 rfl) ?_
  refine va_get (D := D) (ci := 0) (C := RX0) (T := TX0) (N := 2) hx hb F.2.2.2.2 in_X0_forgetFirst_X0 F.2.2.2.1 hK.1 hP 0 rfl rfl 0 (Nat.le_of_ble_eq_true rfl) (F.2.2.2.2 (.fieldLink RX0 11 "LouderRoom$Acts" "ahead" "[LLouderRoom$Crowd;") (List.mem_of_getElem? (i := 1) rfl)) (fun _ h9 => h9) rfl dX0_forgetFirst_21 ?_
  refine lv_iload_n hx hb dX0_forgetFirst_24 rfl (lv_at hl 0 rfl) ?_
  refine lv_iconst (v := (1 : Int32)) hx hb dX0_forgetFirst_25 (by decide) ?_
  refine lv_iadd hx hb dX0_forgetFirst_26 ?_
  refine W.eq (g2 := F0 m 27 ls [.int (9 : Int32), .ref aa0, .int (8 : Int32), .ref aa0]) rfl ?_
  refine va_aldq hx hb hK.1 hP 1 3 rfl rfl (inb_in (n := 10) (by decide)) dX0_forgetFirst_27 ?_
  refine W.eq (g2 := F0 m 28 ls [.ref (z0.2 9).1.1, .int (8 : Int32), .ref aa0]) rfl ?_
  refine pt_astq (w1 := fl [[(h0, .inr (0, [.ref aa0, .int z0.1])), (aa0, .inl (ty.2.2.2, 10, .inr (.inr (.inr (.inr (va_up (va_up (va_up (va_up (va_up (va_up (va_up (va_up (va_up (fun j => some (z0.2 j).1.1) 0 (some (z0.2 1).1.1)) 1 (some (z0.2 2).1.1)) 2 (some (z0.2 3).1.1)) 3 (some (z0.2 4).1.1)) 4 (some (z0.2 5).1.1)) 5 (some (z0.2 6).1.1)) 6 (some (z0.2 7).1.1)) 7 (some (z0.2 8).1.1)) 8 (some (z0.2 9).1.1)))))))], oCB ty (z0.2 0), oCB ty (z0.2 1), oCB ty (z0.2 2), oCB ty (z0.2 3), oCB ty (z0.2 4), oCB ty (z0.2 5), oCB ty (z0.2 6), oCB ty (z0.2 7), oCB ty (z0.2 8), oCB ty (z0.2 9)]) (r := (RX1, TX1, 12)) F hK.1 hP hD hS 1 3 65 1 rfl rfl rfl rfl (inb_in (n := 10) (by decide)) rfl dX0_forgetFirst_28 (fun H locs hP hD hS => ?_)
  refine lv_iinc (v := (9 : Int32)) (lv' := [(2, .int (9 : Int32)), (1, .ref (z0.2 0).1.1), (0, .ref h0)]) hx hb dX0_forgetFirst_29 hl (k := 0) rfl (by decide) (by decide) rfl (fun ls hl => ?_)
  refine lv_goto (tgt := 9) hx hb dX0_forgetFirst_32 (by decide) ?_
  refine lv_iload_n hx hb dX0_forgetFirst_9 rfl (lv_at hl 0 rfl) ?_
  refine lv_bipush (v := (9 : Int32)) hx hb dX0_forgetFirst_10 (by decide) ?_
  refine lv_icmp_ge (tgt := 35) hx hb dX0_forgetFirst_12 (by decide) (fun hc => ?_) (fun hc => absurd (by decide) hc)
  refine lv_aload_n hx hb dX0_forgetFirst_35 rfl (lv_at hl 2 rfl) ?_
  refine va_get (D := D) (ci := 0) (C := RX0) (T := TX0) (N := 2) hx hb F.2.2.2.2 in_X0_forgetFirst_X0 F.2.2.2.1 hK.1 hP 0 rfl rfl 0 (Nat.le_of_ble_eq_true rfl) (F.2.2.2.2 (.fieldLink RX0 11 "LouderRoom$Acts" "ahead" "[LLouderRoom$Crowd;") (List.mem_of_getElem? (i := 1) rfl)) (fun _ h9 => h9) rfl dX0_forgetFirst_36 ?_
  refine lv_bipush (v := (9 : Int32)) hx hb dX0_forgetFirst_39 (by decide) ?_
  refine lv_aload_n hx hb dX0_forgetFirst_41 rfl (lv_at hl 1 rfl) ?_
  refine pt_astq (w1 := fl [[(h0, .inr (0, [.ref aa0, .int z0.1])), (aa0, .inl (ty.2.2.2, 10, .inr (.inr (.inr (.inr (va_up (va_up (va_up (va_up (va_up (va_up (va_up (va_up (va_up (va_up (fun j => some (z0.2 j).1.1) 0 (some (z0.2 1).1.1)) 1 (some (z0.2 2).1.1)) 2 (some (z0.2 3).1.1)) 3 (some (z0.2 4).1.1)) 4 (some (z0.2 5).1.1)) 5 (some (z0.2 6).1.1)) 6 (some (z0.2 7).1.1)) 7 (some (z0.2 8).1.1)) 8 (some (z0.2 9).1.1)) 9 (some (z0.2 0).1.1)))))))], oCB ty (z0.2 0), oCB ty (z0.2 1), oCB ty (z0.2 2), oCB ty (z0.2 3), oCB ty (z0.2 4), oCB ty (z0.2 5), oCB ty (z0.2 6), oCB ty (z0.2 7), oCB ty (z0.2 8), oCB ty (z0.2 9)]) (r := (RX1, TX1, 12)) F hK.1 hP hD hS 1 3 2 1 rfl rfl rfl rfl (inb_in (n := 10) (by decide)) rfl dX0_forgetFirst_42 (fun H locs hP hD hS => ?_)
  refine lv_aload_n hx hb dX0_forgetFirst_43 rfl (lv_at hl 2 rfl) ?_
  refine lv_bipush (v := (9 : Int32)) hx hb dX0_forgetFirst_44 (by decide) ?_
  refine pt_put (D := D) (ci := 0) (fty := .int) (C := RX0) (T := TX0) (N := 2) (w1 := fl [[(h0, .inr (0, [.ref aa0, .int (9 : Int32)])), (aa0, .inl (ty.2.2.2, 10, .inr (.inr (.inr (.inr (va_up (va_up (va_up (va_up (va_up (va_up (va_up (va_up (va_up (va_up (fun j => some (z0.2 j).1.1) 0 (some (z0.2 1).1.1)) 1 (some (z0.2 2).1.1)) 2 (some (z0.2 3).1.1)) 3 (some (z0.2 4).1.1)) 4 (some (z0.2 5).1.1)) 5 (some (z0.2 6).1.1)) 6 (some (z0.2 7).1.1)) 7 (some (z0.2 8).1.1)) 8 (some (z0.2 9).1.1)) 9 (some (z0.2 0).1.1)))))))], oCB ty (z0.2 0), oCB ty (z0.2 1), oCB ty (z0.2 2), oCB ty (z0.2 3), oCB ty (z0.2 4), oCB ty (z0.2 5), oCB ty (z0.2 6), oCB ty (z0.2 7), oCB ty (z0.2 8), oCB ty (z0.2 9)]) F in_X0_forgetFirst_X0 tyX0 tyX0_ok nmX0 hK.1 hP hD hS 0 rfl rfl 1 (Nat.le_of_ble_eq_true rfl) (F.2.2.2.2 (.fieldLink RX0 18 "LouderRoom$Acts" "count" "I") (List.mem_of_getElem? (i := 2) rfl)) (fun _ h9 => h9) rfl (by decide +kernel) rfl rfl (Nat.le_of_ble_eq_true rfl) rfl dX0_forgetFirst_46 (fun H locs hP hD hS => ?_)
  have e0 := Option.some.inj hf
  subst e0
  replace hP : va_P D vwC (fl ([(h0, .inr (0, [.ref aa0, .int (9 : Int32)])), (aa0, .inl (ty.2.2.2, 10, .inr (.inr (.inr (.inr (va_up (va_up (va_up (va_up (va_up (va_up (va_up (va_up (va_up (va_up (fun j => some (z0.2 j).1.1) 0 (some (z0.2 1).1.1)) 1 (some (z0.2 2).1.1)) 2 (some (z0.2 3).1.1)) 3 (some (z0.2 4).1.1)) 4 (some (z0.2 5).1.1)) 5 (some (z0.2 6).1.1)) 6 (some (z0.2 7).1.1)) 7 (some (z0.2 8).1.1)) 8 (some (z0.2 9).1.1)) 9 (some (z0.2 0).1.1)))))))] :: [oCB ty (z0.2 0), oCB ty (z0.2 1), oCB ty (z0.2 2), oCB ty (z0.2 3), oCB ty (z0.2 4), oCB ty (z0.2 5), oCB ty (z0.2 6), oCB ty (z0.2 7), oCB ty (z0.2 8), oCB ty (z0.2 9)])) H := hP
  replace hP := xa_swap (f' := (fun j => some (z0.2 (cond (Nat.beq j 9) 0 (j + 1))).1.1)) (fun j hj => by rcases (show j = 0 ∨ j = 1 ∨ j = 2 ∨ j = 3 ∨ j = 4 ∨ j = 5 ∨ j = 6 ∨ j = 7 ∨ j = 8 ∨ j = 9 by omega) with rfl | rfl | rfl | rfl | rfl | rfl | rfl | rfl | rfl | rfl <;> rfl) hP
  replace hP : va_P D vwC (fl [[(h0, .inr (0, [.ref aa0, .int (9 : Int32)])), (aa0, .inl (ty.2.2.2, 10, .inr (.inr (.inr (.inr (fun j => some (z0.2 (cond (Nat.beq j 9) 0 (j + 1))).1.1))))))], oCB ty (z0.2 0), oCB ty (z0.2 1), oCB ty (z0.2 2), oCB ty (z0.2 3), oCB ty (z0.2 4), oCB ty (z0.2 5), oCB ty (z0.2 6), oCB ty (z0.2 7), oCB ty (z0.2 8), oCB ty (z0.2 9)]) H := hP
  replace hD : va_D A (fl [[(h0, .inr (0, [.ref aa0, .int (9 : Int32)])), (aa0, .inl (ty.2.2.2, 10, .inr (.inr (.inr (.inr (fun j => some (z0.2 (cond (Nat.beq j 9) 0 (j + 1))).1.1))))))], oCB ty (z0.2 0), oCB ty (z0.2 1), oCB ty (z0.2 2), oCB ty (z0.2 3), oCB ty (z0.2 4), oCB ty (z0.2 5), oCB ty (z0.2 6), oCB ty (z0.2 7), oCB ty (z0.2 8), oCB ty (z0.2 9)]) := va_D_fst (by rfl) hD
  have hp : List.Perm [[(h0, .inr (0, [.ref aa0, .int (9 : Int32)])), (aa0, .inl (ty.2.2.2, 10, .inr (.inr (.inr (.inr (fun j => some (z0.2 (cond (Nat.beq j 9) 0 (j + 1))).1.1))))))], oCB ty (z0.2 0), oCB ty (z0.2 1), oCB ty (z0.2 2), oCB ty (z0.2 3), oCB ty (z0.2 4), oCB ty (z0.2 5), oCB ty (z0.2 6), oCB ty (z0.2 7), oCB ty (z0.2 8), oCB ty (z0.2 9)] [[(h0, .inr (0, [.ref aa0, .int (9 : Int32)])), (aa0, .inl (ty.2.2.2, 10, .inr (.inr (.inr (.inr (fun j => some (z0.2 (cond (Nat.beq j 9) 0 (j + 1))).1.1))))))], oCB ty (z0.2 1), oCB ty (z0.2 2), oCB ty (z0.2 3), oCB ty (z0.2 4), oCB ty (z0.2 5), oCB ty (z0.2 6), oCB ty (z0.2 7), oCB ty (z0.2 8), oCB ty (z0.2 9), oCB ty (z0.2 0)] := List.Perm.cons _ ((List.Perm.refl _).trans (List.perm_append_comm (l₁ := [oCB ty (z0.2 0)]) (l₂ := [oCB ty (z0.2 1), oCB ty (z0.2 2), oCB ty (z0.2 3), oCB ty (z0.2 4), oCB ty (z0.2 5), oCB ty (z0.2 6), oCB ty (z0.2 7), oCB ty (z0.2 8), oCB ty (z0.2 9)])))
  exact CX_v F hr hlk (va_P_perm hp.flatten hP) (va_D_perm hp.flatten hD) hS dX0_forgetFirst_49
def f_X0_clear (z0 : AS) : Option (AS) := bnd (((0 : Int32), z0.2) : AS) (fun g1 => some g1)
abbrev rm_X0_clear : Room := { frames := 0, cells := 0, slots := 0, locals := 0 }
theorem hd_X0_clear : yX0_clear.cls ≠ "java/lang/invoke/MethodHandle" ∧ yX0_clear.cls ≠ "java/lang/invoke/VarHandle" ∧ (parseMethodDescriptor yX0_clear.desc).map (fun d => d.parameters.length) = some 0 := by decide +kernel
theorem in_X0_clear_X0 : ∀ w ∈ wsX00, w ∈ wsX0_clear := fun w h => List.mem_cons_of_mem _ (List.mem_append_right _ h)
set_option maxHeartbeats 4000000 in
set_option maxRecDepth 100000 in
theorem c_X0_clear (l : Launch) (D : va_G) (ty : TY) (h0 : Nat) (aa0 : Nat) (z0 : AS) (o0 : AS) (hf : f_X0_clear z0 = some o0) (sz : Nat) : CX l yX0_clear wsX0_clear rm_X0_clear ([.ref h0] : List Value) D ty (fl [oX0 ty h0 aa0 z0]) sz (qV D (fl [oX0 ty h0 aa0 o0])) 0 0 := by
  refine CX_of (cc := cX0_clear) (maxL := 1) (ret := none) (C := RX0) (by decide) rfl rfl (Nat.le_of_ble_eq_true rfl) ?_
  intro p e s m below meth c A ls F hr hlk _ hK hP hD hS hA hl
  have hx := F.1
  have hb := F.2.1
  replace hl : lv_has ls 1 [(0, .ref h0)] := hl
  replace hP : va_P D vwC (fl [oXA ty h0 aa0 z0, oCB ty (z0.2 0), oCB ty (z0.2 1), oCB ty (z0.2 2), oCB ty (z0.2 3), oCB ty (z0.2 4), oCB ty (z0.2 5), oCB ty (z0.2 6), oCB ty (z0.2 7), oCB ty (z0.2 8), oCB ty (z0.2 9)]) s.heap := hP
  replace hD : va_D A (fl [oXA ty h0 aa0 z0, oCB ty (z0.2 0), oCB ty (z0.2 1), oCB ty (z0.2 2), oCB ty (z0.2 3), oCB ty (z0.2 4), oCB ty (z0.2 5), oCB ty (z0.2 6), oCB ty (z0.2 7), oCB ty (z0.2 8), oCB ty (z0.2 9)]) := hD
  unfold f_X0_clear at hf
  refine lv_aload_n hx hb dX0_clear_0 rfl (lv_at hl 0 rfl) ?_
  refine lv_iconst (v := (0 : Int32)) hx hb dX0_clear_1 (by decide) ?_
  refine pt_put (D := D) (ci := 0) (fty := .int) (C := RX0) (T := TX0) (N := 2) (w1 := fl [oXA ty h0 aa0 (((0 : Int32), z0.2) : AS), oCB ty ((((0 : Int32), z0.2) : AS).2 0), oCB ty ((((0 : Int32), z0.2) : AS).2 1), oCB ty ((((0 : Int32), z0.2) : AS).2 2), oCB ty ((((0 : Int32), z0.2) : AS).2 3), oCB ty ((((0 : Int32), z0.2) : AS).2 4), oCB ty ((((0 : Int32), z0.2) : AS).2 5), oCB ty ((((0 : Int32), z0.2) : AS).2 6), oCB ty ((((0 : Int32), z0.2) : AS).2 7), oCB ty ((((0 : Int32), z0.2) : AS).2 8), oCB ty ((((0 : Int32), z0.2) : AS).2 9)]) F in_X0_clear_X0 tyX0 tyX0_ok nmX0 hK.1 hP hD hS 0 rfl rfl 1 (Nat.le_of_ble_eq_true rfl) (F.2.2.2.2 (.fieldLink RX0 18 "LouderRoom$Acts" "count" "I") (List.mem_of_getElem? (i := 1) rfl)) (fun _ h9 => h9) rfl (by decide +kernel) rfl rfl (Nat.le_of_ble_eq_true rfl) rfl dX0_clear_2 (fun H locs hP hD hS => ?_)
  obtain ⟨g1, ex⟩ : ∃ y : AS, y = (((0 : Int32), z0.2) : AS) := ⟨_, rfl⟩
  replace hf := bnd_at hf ex; rw [← ex] at hP hD; clear ex
  obtain hf := hf
  have e0 := Option.some.inj hf
  rw [e0] at hP hD
  exact CX_v F hr hlk hP hD hS dX0_clear_5
def j_X0_add_13 (z11 : Ob) (w0 : AS) : Option (AS) := (if inb w0.1 10 = true then (if w0.1 = (0 : Int32) then (f_X1_copyRings (w0.2 0).2 z11).bind (fun g1 => bnd ((w0.1, pI w0.2 0 ((w0.2 0).1, g1)) : AS) (fun g2 => bnd (((g2.1 + (1 : Int32)), g2.2) : AS) (fun g3 => some g3))) else (if w0.1 = (1 : Int32) then (f_X1_copyRings (w0.2 1).2 z11).bind (fun g4 => bnd ((w0.1, pI w0.2 1 ((w0.2 1).1, g4)) : AS) (fun g5 => bnd (((g5.1 + (1 : Int32)), g5.2) : AS) (fun g6 => some g6))) else (if w0.1 = (2 : Int32) then (f_X1_copyRings (w0.2 2).2 z11).bind (fun g7 => bnd ((w0.1, pI w0.2 2 ((w0.2 2).1, g7)) : AS) (fun g8 => bnd (((g8.1 + (1 : Int32)), g8.2) : AS) (fun g9 => some g9))) else (if w0.1 = (3 : Int32) then (f_X1_copyRings (w0.2 3).2 z11).bind (fun g10 => bnd ((w0.1, pI w0.2 3 ((w0.2 3).1, g10)) : AS) (fun g11 => bnd (((g11.1 + (1 : Int32)), g11.2) : AS) (fun g12 => some g12))) else (if w0.1 = (4 : Int32) then (f_X1_copyRings (w0.2 4).2 z11).bind (fun g13 => bnd ((w0.1, pI w0.2 4 ((w0.2 4).1, g13)) : AS) (fun g14 => bnd (((g14.1 + (1 : Int32)), g14.2) : AS) (fun g15 => some g15))) else (if w0.1 = (5 : Int32) then (f_X1_copyRings (w0.2 5).2 z11).bind (fun g16 => bnd ((w0.1, pI w0.2 5 ((w0.2 5).1, g16)) : AS) (fun g17 => bnd (((g17.1 + (1 : Int32)), g17.2) : AS) (fun g18 => some g18))) else (if w0.1 = (6 : Int32) then (f_X1_copyRings (w0.2 6).2 z11).bind (fun g19 => bnd ((w0.1, pI w0.2 6 ((w0.2 6).1, g19)) : AS) (fun g20 => bnd (((g20.1 + (1 : Int32)), g20.2) : AS) (fun g21 => some g21))) else (if w0.1 = (7 : Int32) then (f_X1_copyRings (w0.2 7).2 z11).bind (fun g22 => bnd ((w0.1, pI w0.2 7 ((w0.2 7).1, g22)) : AS) (fun g23 => bnd (((g23.1 + (1 : Int32)), g23.2) : AS) (fun g24 => some g24))) else (if w0.1 = (8 : Int32) then (f_X1_copyRings (w0.2 8).2 z11).bind (fun g25 => bnd ((w0.1, pI w0.2 8 ((w0.2 8).1, g25)) : AS) (fun g26 => bnd (((g26.1 + (1 : Int32)), g26.2) : AS) (fun g27 => some g27))) else (if w0.1 = (9 : Int32) then (f_X1_copyRings (w0.2 9).2 z11).bind (fun g28 => bnd ((w0.1, pI w0.2 9 ((w0.2 9).1, g28)) : AS) (fun g29 => bnd (((g29.1 + (1 : Int32)), g29.2) : AS) (fun g30 => some g30))) else none)))))))))) else none)
def f_X0_add (z0 : AS) (z11 : Ob) : Option (AS) := (if z0.1 < (10 : Int32) then j_X0_add_13 z11 z0 else (f_X0_forgetFirst z0).bind (fun g31 => j_X0_add_13 z11 g31))
abbrev rm_X0_add : Room := { frames := 1, cells := 0, slots := 0, locals := 22 }
theorem hd_X0_add : yX0_add.cls ≠ "java/lang/invoke/MethodHandle" ∧ yX0_add.cls ≠ "java/lang/invoke/VarHandle" ∧ (parseMethodDescriptor yX0_add.desc).map (fun d => d.parameters.length) = some 1 := by decide +kernel
theorem in_X0_add_X0 : ∀ w ∈ wsX00, w ∈ wsX0_add := fun w h => List.mem_cons_of_mem _ (List.mem_append_left _ (List.mem_append_right _ h))
set_option maxHeartbeats 4000000 in
set_option maxRecDepth 100000 in
theorem c_X0_add (l : Launch) (D : va_G) (ty : TY) (h0 : Nat) (aa0 : Nat) (h11 : Nat) (a11 : Nat → Nat) (z0 : AS) (z11 : Ob) (o0 : AS) (hf : f_X0_add z0 z11 = some o0) (sz : Nat) : CX l yX0_add wsX0_add rm_X0_add ([.ref h0, .ref h11] : List Value) D ty (fl [oX0 ty h0 aa0 z0, oX1 ty h11 a11 z11]) sz (qV D (fl [oX0 ty h0 aa0 o0, oX1 ty h11 a11 z11])) 0 0 := by
  refine CX_of (cc := cX0_add) (maxL := 2) (ret := none) (C := RX0) (by decide) rfl rfl (Nat.le_of_ble_eq_true rfl) ?_
  intro p e s m below meth c A ls F hr hlk _ hK hP hD hS hA hl
  have hx := F.1
  have hb := F.2.1
  replace hl : lv_has ls 2 [(0, .ref h0), (1, .ref h11)] := hl
  replace hP : va_P D vwC (fl [oXA ty h0 aa0 z0, oCB ty (z0.2 0), oCB ty (z0.2 1), oCB ty (z0.2 2), oCB ty (z0.2 3), oCB ty (z0.2 4), oCB ty (z0.2 5), oCB ty (z0.2 6), oCB ty (z0.2 7), oCB ty (z0.2 8), oCB ty (z0.2 9), oX1 ty h11 a11 z11]) s.heap := hP
  replace hD : va_D A (fl [oXA ty h0 aa0 z0, oCB ty (z0.2 0), oCB ty (z0.2 1), oCB ty (z0.2 2), oCB ty (z0.2 3), oCB ty (z0.2 4), oCB ty (z0.2 5), oCB ty (z0.2 6), oCB ty (z0.2 7), oCB ty (z0.2 8), oCB ty (z0.2 9), oX1 ty h11 a11 z11]) := hD
  unfold f_X0_add at hf
  have J_13 : ∀ (w0 : AS) (H : Heap) (locs : List Loc) (ls : Array Slot), va_P D vwC (fl [oXA ty h0 aa0 w0, oCB ty (w0.2 0), oCB ty (w0.2 1), oCB ty (w0.2 2), oCB ty (w0.2 3), oCB ty (w0.2 4), oCB ty (w0.2 5), oCB ty (w0.2 6), oCB ty (w0.2 7), oCB ty (w0.2 8), oCB ty (w0.2 9), oX1 ty h11 a11 z11]) H → va_D A (fl [oXA ty h0 aa0 w0, oCB ty (w0.2 0), oCB ty (w0.2 1), oCB ty (w0.2 2), oCB ty (w0.2 3), oCB ty (w0.2 4), oCB ty (w0.2 5), oCB ty (w0.2 6), oCB ty (w0.2 7), oCB ty (w0.2 8), oCB ty (w0.2 9), oX1 ty h11 a11 z11]) → va_S A s.heap H locs → lv_has ls 2 [(0, .ref h0), (1, .ref h11)] → j_X0_add_13 z11 w0 = some o0 → W p l e rm_X0_add s m ([.ref h0, .ref h11] : List Value).toArray below meth c H locs 0 0 (MQ below (qV D (fl [oX0 ty h0 aa0 o0, oX1 ty h11 a11 z11]) A) ([.ref h0, .ref h11] : List Value).toArray s 0 0 A) (F0 m 13 ls []) := by
    intro w0 H locs ls hP hD hS hl hf
    unfold j_X0_add_13 at hf
    refine lv_aload_n hx hb dX0_add_13 rfl (lv_at hl 0 rfl) ?_
    refine va_get (D := D) (ci := 0) (C := RX0) (T := TX0) (N := 2) hx hb F.2.2.2.2 in_X0_add_X0 F.2.2.2.1 hK.1 hP 0 rfl rfl 0 (Nat.le_of_ble_eq_true rfl) (F.2.2.2.2 (.fieldLink RX0 11 "LouderRoom$Acts" "ahead" "[LLouderRoom$Crowd;") (List.mem_of_getElem? (i := 2) rfl)) (fun _ h9 => h9) rfl dX0_add_14 ?_
    refine lv_aload_n hx hb dX0_add_17 rfl (lv_at hl 0 rfl) ?_
    refine va_get (D := D) (ci := 0) (C := RX0) (T := TX0) (N := 2) hx hb F.2.2.2.2 in_X0_add_X0 F.2.2.2.1 hK.1 hP 0 rfl rfl 1 (Nat.le_of_ble_eq_true rfl) (F.2.2.2.2 (.fieldLink RX0 18 "LouderRoom$Acts" "count" "I") (List.mem_of_getElem? (i := 1) rfl)) (fun _ h9 => h9) rfl dX0_add_18 ?_
    obtain ⟨hi, hf⟩ := grd hf
    refine va_aldq hx hb hK.1 hP 1 3 rfl rfl (inb_in hi) dX0_add_21 ?_
    by_cases hc0 : w0.1 = (0 : Int32)
    · replace hf := ite_t hf hc0
      refine W.eq (g2 := F0 m 22 ls [.ref (w0.2 0).1.1]) (by rw [hc0]; rfl) ?_
      refine lv_aload_n hx hb dX0_add_22 rfl (lv_at hl 1 rfl) ?_
      obtain ⟨g1, hv, hf⟩ := obd hf
      have hp1 : List.Perm [oXA ty h0 aa0 w0, oX1 ty (w0.2 0).1.1 (w0.2 0).1.2 (w0.2 0).2, oCB ty (w0.2 1), oCB ty (w0.2 2), oCB ty (w0.2 3), oCB ty (w0.2 4), oCB ty (w0.2 5), oCB ty (w0.2 6), oCB ty (w0.2 7), oCB ty (w0.2 8), oCB ty (w0.2 9), oX1 ty h11 a11 z11] ([oX1 ty (w0.2 0).1.1 (w0.2 0).1.2 (w0.2 0).2, oX1 ty h11 a11 z11] ++ [oXA ty h0 aa0 w0, oCB ty (w0.2 1), oCB ty (w0.2 2), oCB ty (w0.2 3), oCB ty (w0.2 4), oCB ty (w0.2 5), oCB ty (w0.2 6), oCB ty (w0.2 7), oCB ty (w0.2 8), oCB ty (w0.2 9)]) := (((List.perm_middle (a := (oX1 ty (w0.2 0).1.1 (w0.2 0).1.2 (w0.2 0).2 : va_W)) (l₁ := ([oXA ty h0 aa0 w0] : List va_W)) (l₂ := ([oCB ty (w0.2 1), oCB ty (w0.2 2), oCB ty (w0.2 3), oCB ty (w0.2 4), oCB ty (w0.2 5), oCB ty (w0.2 6), oCB ty (w0.2 7), oCB ty (w0.2 8), oCB ty (w0.2 9), oX1 ty h11 a11 z11] : List va_W))).trans (List.Perm.cons _ (List.perm_middle (a := (oX1 ty h11 a11 z11 : va_W)) (l₁ := ([oXA ty h0 aa0 w0, oCB ty (w0.2 1), oCB ty (w0.2 2), oCB ty (w0.2 3), oCB ty (w0.2 4), oCB ty (w0.2 5), oCB ty (w0.2 6), oCB ty (w0.2 7), oCB ty (w0.2 8), oCB ty (w0.2 9)] : List va_W)) (l₂ := ([] : List va_W))))) : List.Perm ([oXA ty h0 aa0 w0, oX1 ty (w0.2 0).1.1 (w0.2 0).1.2 (w0.2 0).2, oCB ty (w0.2 1), oCB ty (w0.2 2), oCB ty (w0.2 3), oCB ty (w0.2 4), oCB ty (w0.2 5), oCB ty (w0.2 6), oCB ty (w0.2 7), oCB ty (w0.2 8), oCB ty (w0.2 9), oX1 ty h11 a11 z11] : List va_W) ([oX1 ty (w0.2 0).1.1 (w0.2 0).1.2 (w0.2 0).2, oX1 ty h11 a11 z11, oXA ty h0 aa0 w0, oCB ty (w0.2 1), oCB ty (w0.2 2), oCB ty (w0.2 3), oCB ty (w0.2 4), oCB ty (w0.2 5), oCB ty (w0.2 6), oCB ty (w0.2 7), oCB ty (w0.2 8), oCB ty (w0.2 9)] : List va_W))
      refine cv_call (os := [oXA ty h0 aa0 w0, oX1 ty (w0.2 0).1.1 (w0.2 0).1.2 (w0.2 0).2, oCB ty (w0.2 1), oCB ty (w0.2 2), oCB ty (w0.2 3), oCB ty (w0.2 4), oCB ty (w0.2 5), oCB ty (w0.2 6), oCB ty (w0.2 7), oCB ty (w0.2 8), oCB ty (w0.2 9), oX1 ty h11 a11 z11]) (oc := [oX1 ty (w0.2 0).1.1 (w0.2 0).1.2 (w0.2 0).2, oX1 ty h11 a11 z11]) (oc' := [oX1 ty (w0.2 0).1.1 (w0.2 0).1.2 g1, oX1 ty h11 a11 z11]) (or_ := [oXA ty h0 aa0 w0, oCB ty (w0.2 1), oCB ty (w0.2 2), oCB ty (w0.2 3), oCB ty (w0.2 4), oCB ty (w0.2 5), oCB ty (w0.2 6), oCB ty (w0.2 7), oCB ty (w0.2 8), oCB ty (w0.2 9)]) (os' := [oXA ty h0 aa0 w0, oX1 ty (w0.2 0).1.1 (w0.2 0).1.2 g1, oCB ty (w0.2 1), oCB ty (w0.2 2), oCB ty (w0.2 3), oCB ty (w0.2 4), oCB ty (w0.2 5), oCB ty (w0.2 6), oCB ty (w0.2 7), oCB ty (w0.2 8), oCB ty (w0.2 9), oX1 ty h11 a11 z11]) (va_runV (As := [.ref h11]) (rest := []) F (c_X1_copyRings l D ty (w0.2 0).1.1 (w0.2 0).1.2 h11 a11 _ _ _ hv _) (cwV 1 F.2.2.2.2 gX0_add_X1_copyRings rfl rfl rfl ⟨rfl, hd_X1_copyRings⟩ ⟨Nat.le_of_ble_eq_true rfl, Nat.le_of_ble_eq_true rfl⟩) (pre_v hK hP hD hp1 rfl rfl rfl) rfl rfl hl.1 rfl (lv_room (Nat.le_of_ble_eq_true rfl)) dX0_add_23 ⟨Nat.zero_le _, Nat.zero_le _⟩) hp1 (((List.perm_middle (a := (oXA ty h0 aa0 w0 : va_W)) (l₁ := ([oX1 ty (w0.2 0).1.1 (w0.2 0).1.2 g1, oX1 ty h11 a11 z11] : List va_W)) (l₂ := ([oCB ty (w0.2 1), oCB ty (w0.2 2), oCB ty (w0.2 3), oCB ty (w0.2 4), oCB ty (w0.2 5), oCB ty (w0.2 6), oCB ty (w0.2 7), oCB ty (w0.2 8), oCB ty (w0.2 9)] : List va_W))).trans (List.Perm.cons _ (List.Perm.cons _ ((List.perm_middle (a := (oCB ty (w0.2 1) : va_W)) (l₁ := ([oX1 ty h11 a11 z11] : List va_W)) (l₂ := ([oCB ty (w0.2 2), oCB ty (w0.2 3), oCB ty (w0.2 4), oCB ty (w0.2 5), oCB ty (w0.2 6), oCB ty (w0.2 7), oCB ty (w0.2 8), oCB ty (w0.2 9)] : List va_W))).trans (List.Perm.cons _ ((List.perm_middle (a := (oCB ty (w0.2 2) : va_W)) (l₁ := ([oX1 ty h11 a11 z11] : List va_W)) (l₂ := ([oCB ty (w0.2 3), oCB ty (w0.2 4), oCB ty (w0.2 5), oCB ty (w0.2 6), oCB ty (w0.2 7), oCB ty (w0.2 8), oCB ty (w0.2 9)] : List va_W))).trans (List.Perm.cons _ ((List.perm_middle (a := (oCB ty (w0.2 3) : va_W)) (l₁ := ([oX1 ty h11 a11 z11] : List va_W)) (l₂ := ([oCB ty (w0.2 4), oCB ty (w0.2 5), oCB ty (w0.2 6), oCB ty (w0.2 7), oCB ty (w0.2 8), oCB ty (w0.2 9)] : List va_W))).trans (List.Perm.cons _ ((List.perm_middle (a := (oCB ty (w0.2 4) : va_W)) (l₁ := ([oX1 ty h11 a11 z11] : List va_W)) (l₂ := ([oCB ty (w0.2 5), oCB ty (w0.2 6), oCB ty (w0.2 7), oCB ty (w0.2 8), oCB ty (w0.2 9)] : List va_W))).trans (List.Perm.cons _ ((List.perm_middle (a := (oCB ty (w0.2 5) : va_W)) (l₁ := ([oX1 ty h11 a11 z11] : List va_W)) (l₂ := ([oCB ty (w0.2 6), oCB ty (w0.2 7), oCB ty (w0.2 8), oCB ty (w0.2 9)] : List va_W))).trans (List.Perm.cons _ ((List.perm_middle (a := (oCB ty (w0.2 6) : va_W)) (l₁ := ([oX1 ty h11 a11 z11] : List va_W)) (l₂ := ([oCB ty (w0.2 7), oCB ty (w0.2 8), oCB ty (w0.2 9)] : List va_W))).trans (List.Perm.cons _ ((List.perm_middle (a := (oCB ty (w0.2 7) : va_W)) (l₁ := ([oX1 ty h11 a11 z11] : List va_W)) (l₂ := ([oCB ty (w0.2 8), oCB ty (w0.2 9)] : List va_W))).trans (List.Perm.cons _ ((List.perm_middle (a := (oCB ty (w0.2 8) : va_W)) (l₁ := ([oX1 ty h11 a11 z11] : List va_W)) (l₂ := ([oCB ty (w0.2 9)] : List va_W))).trans (List.Perm.cons _ (List.perm_middle (a := (oCB ty (w0.2 9) : va_W)) (l₁ := ([oX1 ty h11 a11 z11] : List va_W)) (l₂ := ([] : List va_W)))))))))))))))))))))) : List.Perm ([oX1 ty (w0.2 0).1.1 (w0.2 0).1.2 g1, oX1 ty h11 a11 z11, oXA ty h0 aa0 w0, oCB ty (w0.2 1), oCB ty (w0.2 2), oCB ty (w0.2 3), oCB ty (w0.2 4), oCB ty (w0.2 5), oCB ty (w0.2 6), oCB ty (w0.2 7), oCB ty (w0.2 8), oCB ty (w0.2 9)] : List va_W) ([oXA ty h0 aa0 w0, oX1 ty (w0.2 0).1.1 (w0.2 0).1.2 g1, oCB ty (w0.2 1), oCB ty (w0.2 2), oCB ty (w0.2 3), oCB ty (w0.2 4), oCB ty (w0.2 5), oCB ty (w0.2 6), oCB ty (w0.2 7), oCB ty (w0.2 8), oCB ty (w0.2 9), oX1 ty h11 a11 z11] : List va_W)) hP hD hS hA (fun H locs hP hD hS => ?_)
      clear hp1 hv
      rw [← oXA_up ty h0 aa0 w0 0 g1] at hP hD
      replace hP : va_P D vwC (fl [oXA ty h0 aa0 ((w0.1, pI w0.2 0 ((w0.2 0).1, g1)) : AS), oCB ty (((w0.1, pI w0.2 0 ((w0.2 0).1, g1)) : AS).2 0), oCB ty (((w0.1, pI w0.2 0 ((w0.2 0).1, g1)) : AS).2 1), oCB ty (((w0.1, pI w0.2 0 ((w0.2 0).1, g1)) : AS).2 2), oCB ty (((w0.1, pI w0.2 0 ((w0.2 0).1, g1)) : AS).2 3), oCB ty (((w0.1, pI w0.2 0 ((w0.2 0).1, g1)) : AS).2 4), oCB ty (((w0.1, pI w0.2 0 ((w0.2 0).1, g1)) : AS).2 5), oCB ty (((w0.1, pI w0.2 0 ((w0.2 0).1, g1)) : AS).2 6), oCB ty (((w0.1, pI w0.2 0 ((w0.2 0).1, g1)) : AS).2 7), oCB ty (((w0.1, pI w0.2 0 ((w0.2 0).1, g1)) : AS).2 8), oCB ty (((w0.1, pI w0.2 0 ((w0.2 0).1, g1)) : AS).2 9), oX1 ty h11 a11 z11]) H := hP
      replace hD : va_D A (fl [oXA ty h0 aa0 ((w0.1, pI w0.2 0 ((w0.2 0).1, g1)) : AS), oCB ty (((w0.1, pI w0.2 0 ((w0.2 0).1, g1)) : AS).2 0), oCB ty (((w0.1, pI w0.2 0 ((w0.2 0).1, g1)) : AS).2 1), oCB ty (((w0.1, pI w0.2 0 ((w0.2 0).1, g1)) : AS).2 2), oCB ty (((w0.1, pI w0.2 0 ((w0.2 0).1, g1)) : AS).2 3), oCB ty (((w0.1, pI w0.2 0 ((w0.2 0).1, g1)) : AS).2 4), oCB ty (((w0.1, pI w0.2 0 ((w0.2 0).1, g1)) : AS).2 5), oCB ty (((w0.1, pI w0.2 0 ((w0.2 0).1, g1)) : AS).2 6), oCB ty (((w0.1, pI w0.2 0 ((w0.2 0).1, g1)) : AS).2 7), oCB ty (((w0.1, pI w0.2 0 ((w0.2 0).1, g1)) : AS).2 8), oCB ty (((w0.1, pI w0.2 0 ((w0.2 0).1, g1)) : AS).2 9), oX1 ty h11 a11 z11]) := hD
      obtain ⟨g2, ex⟩ : ∃ y : AS, y = ((w0.1, pI w0.2 0 ((w0.2 0).1, g1)) : AS) := ⟨_, rfl⟩
      replace hf := bnd_at hf ex; rw [← ex] at hP hD; clear ex
      refine lv_aload_n hx hb dX0_add_26 rfl (lv_at hl 0 rfl) ?_
      refine lv_dup hx hb dX0_add_27 rfl ?_
      refine va_get (D := D) (ci := 0) (C := RX0) (T := TX0) (N := 2) hx hb F.2.2.2.2 in_X0_add_X0 F.2.2.2.1 hK.1 hP 0 rfl rfl 1 (Nat.le_of_ble_eq_true rfl) (F.2.2.2.2 (.fieldLink RX0 18 "LouderRoom$Acts" "count" "I") (List.mem_of_getElem? (i := 1) rfl)) (fun _ h9 => h9) rfl dX0_add_28 ?_
      refine lv_iconst (v := (1 : Int32)) hx hb dX0_add_31 (by decide) ?_
      refine lv_iadd hx hb dX0_add_32 ?_
      refine pt_put (D := D) (ci := 0) (fty := .int) (C := RX0) (T := TX0) (N := 2) (w1 := fl [oXA ty h0 aa0 (((g2.1 + (1 : Int32)), g2.2) : AS), oCB ty ((((g2.1 + (1 : Int32)), g2.2) : AS).2 0), oCB ty ((((g2.1 + (1 : Int32)), g2.2) : AS).2 1), oCB ty ((((g2.1 + (1 : Int32)), g2.2) : AS).2 2), oCB ty ((((g2.1 + (1 : Int32)), g2.2) : AS).2 3), oCB ty ((((g2.1 + (1 : Int32)), g2.2) : AS).2 4), oCB ty ((((g2.1 + (1 : Int32)), g2.2) : AS).2 5), oCB ty ((((g2.1 + (1 : Int32)), g2.2) : AS).2 6), oCB ty ((((g2.1 + (1 : Int32)), g2.2) : AS).2 7), oCB ty ((((g2.1 + (1 : Int32)), g2.2) : AS).2 8), oCB ty ((((g2.1 + (1 : Int32)), g2.2) : AS).2 9), oX1 ty h11 a11 z11]) F in_X0_add_X0 tyX0 tyX0_ok nmX0 hK.1 hP hD hS 0 rfl rfl 1 (Nat.le_of_ble_eq_true rfl) (F.2.2.2.2 (.fieldLink RX0 18 "LouderRoom$Acts" "count" "I") (List.mem_of_getElem? (i := 1) rfl)) (fun _ h9 => h9) rfl (by decide +kernel) rfl rfl (Nat.le_of_ble_eq_true rfl) rfl dX0_add_33 (fun H locs hP hD hS => ?_)
      obtain ⟨g3, ex⟩ : ∃ y : AS, y = (((g2.1 + (1 : Int32)), g2.2) : AS) := ⟨_, rfl⟩
      replace hf := bnd_at hf ex; rw [← ex] at hP hD; clear ex
      obtain hf := hf
      have e0 := Option.some.inj hf
      rw [e0] at hP hD
      exact CX_v F hr hlk hP hD hS dX0_add_36
    replace hf := ite_f hf hc0
    by_cases hc1 : w0.1 = (1 : Int32)
    · replace hf := ite_t hf hc1
      refine W.eq (g2 := F0 m 22 ls [.ref (w0.2 1).1.1]) (by rw [hc1]; rfl) ?_
      refine lv_aload_n hx hb dX0_add_22 rfl (lv_at hl 1 rfl) ?_
      obtain ⟨g4, hv, hf⟩ := obd hf
      have hp1 : List.Perm [oXA ty h0 aa0 w0, oCB ty (w0.2 0), oX1 ty (w0.2 1).1.1 (w0.2 1).1.2 (w0.2 1).2, oCB ty (w0.2 2), oCB ty (w0.2 3), oCB ty (w0.2 4), oCB ty (w0.2 5), oCB ty (w0.2 6), oCB ty (w0.2 7), oCB ty (w0.2 8), oCB ty (w0.2 9), oX1 ty h11 a11 z11] ([oX1 ty (w0.2 1).1.1 (w0.2 1).1.2 (w0.2 1).2, oX1 ty h11 a11 z11] ++ [oXA ty h0 aa0 w0, oCB ty (w0.2 0), oCB ty (w0.2 2), oCB ty (w0.2 3), oCB ty (w0.2 4), oCB ty (w0.2 5), oCB ty (w0.2 6), oCB ty (w0.2 7), oCB ty (w0.2 8), oCB ty (w0.2 9)]) := (((List.perm_middle (a := (oX1 ty (w0.2 1).1.1 (w0.2 1).1.2 (w0.2 1).2 : va_W)) (l₁ := ([oXA ty h0 aa0 w0, oCB ty (w0.2 0)] : List va_W)) (l₂ := ([oCB ty (w0.2 2), oCB ty (w0.2 3), oCB ty (w0.2 4), oCB ty (w0.2 5), oCB ty (w0.2 6), oCB ty (w0.2 7), oCB ty (w0.2 8), oCB ty (w0.2 9), oX1 ty h11 a11 z11] : List va_W))).trans (List.Perm.cons _ (List.perm_middle (a := (oX1 ty h11 a11 z11 : va_W)) (l₁ := ([oXA ty h0 aa0 w0, oCB ty (w0.2 0), oCB ty (w0.2 2), oCB ty (w0.2 3), oCB ty (w0.2 4), oCB ty (w0.2 5), oCB ty (w0.2 6), oCB ty (w0.2 7), oCB ty (w0.2 8), oCB ty (w0.2 9)] : List va_W)) (l₂ := ([] : List va_W))))) : List.Perm ([oXA ty h0 aa0 w0, oCB ty (w0.2 0), oX1 ty (w0.2 1).1.1 (w0.2 1).1.2 (w0.2 1).2, oCB ty (w0.2 2), oCB ty (w0.2 3), oCB ty (w0.2 4), oCB ty (w0.2 5), oCB ty (w0.2 6), oCB ty (w0.2 7), oCB ty (w0.2 8), oCB ty (w0.2 9), oX1 ty h11 a11 z11] : List va_W) ([oX1 ty (w0.2 1).1.1 (w0.2 1).1.2 (w0.2 1).2, oX1 ty h11 a11 z11, oXA ty h0 aa0 w0, oCB ty (w0.2 0), oCB ty (w0.2 2), oCB ty (w0.2 3), oCB ty (w0.2 4), oCB ty (w0.2 5), oCB ty (w0.2 6), oCB ty (w0.2 7), oCB ty (w0.2 8), oCB ty (w0.2 9)] : List va_W))
      refine cv_call (os := [oXA ty h0 aa0 w0, oCB ty (w0.2 0), oX1 ty (w0.2 1).1.1 (w0.2 1).1.2 (w0.2 1).2, oCB ty (w0.2 2), oCB ty (w0.2 3), oCB ty (w0.2 4), oCB ty (w0.2 5), oCB ty (w0.2 6), oCB ty (w0.2 7), oCB ty (w0.2 8), oCB ty (w0.2 9), oX1 ty h11 a11 z11]) (oc := [oX1 ty (w0.2 1).1.1 (w0.2 1).1.2 (w0.2 1).2, oX1 ty h11 a11 z11]) (oc' := [oX1 ty (w0.2 1).1.1 (w0.2 1).1.2 g4, oX1 ty h11 a11 z11]) (or_ := [oXA ty h0 aa0 w0, oCB ty (w0.2 0), oCB ty (w0.2 2), oCB ty (w0.2 3), oCB ty (w0.2 4), oCB ty (w0.2 5), oCB ty (w0.2 6), oCB ty (w0.2 7), oCB ty (w0.2 8), oCB ty (w0.2 9)]) (os' := [oXA ty h0 aa0 w0, oCB ty (w0.2 0), oX1 ty (w0.2 1).1.1 (w0.2 1).1.2 g4, oCB ty (w0.2 2), oCB ty (w0.2 3), oCB ty (w0.2 4), oCB ty (w0.2 5), oCB ty (w0.2 6), oCB ty (w0.2 7), oCB ty (w0.2 8), oCB ty (w0.2 9), oX1 ty h11 a11 z11]) (va_runV (As := [.ref h11]) (rest := []) F (c_X1_copyRings l D ty (w0.2 1).1.1 (w0.2 1).1.2 h11 a11 _ _ _ hv _) (cwV 1 F.2.2.2.2 gX0_add_X1_copyRings rfl rfl rfl ⟨rfl, hd_X1_copyRings⟩ ⟨Nat.le_of_ble_eq_true rfl, Nat.le_of_ble_eq_true rfl⟩) (pre_v hK hP hD hp1 rfl rfl rfl) rfl rfl hl.1 rfl (lv_room (Nat.le_of_ble_eq_true rfl)) dX0_add_23 ⟨Nat.zero_le _, Nat.zero_le _⟩) hp1 (((List.perm_middle (a := (oXA ty h0 aa0 w0 : va_W)) (l₁ := ([oX1 ty (w0.2 1).1.1 (w0.2 1).1.2 g4, oX1 ty h11 a11 z11] : List va_W)) (l₂ := ([oCB ty (w0.2 0), oCB ty (w0.2 2), oCB ty (w0.2 3), oCB ty (w0.2 4), oCB ty (w0.2 5), oCB ty (w0.2 6), oCB ty (w0.2 7), oCB ty (w0.2 8), oCB ty (w0.2 9)] : List va_W))).trans (List.Perm.cons _ ((List.perm_middle (a := (oCB ty (w0.2 0) : va_W)) (l₁ := ([oX1 ty (w0.2 1).1.1 (w0.2 1).1.2 g4, oX1 ty h11 a11 z11] : List va_W)) (l₂ := ([oCB ty (w0.2 2), oCB ty (w0.2 3), oCB ty (w0.2 4), oCB ty (w0.2 5), oCB ty (w0.2 6), oCB ty (w0.2 7), oCB ty (w0.2 8), oCB ty (w0.2 9)] : List va_W))).trans (List.Perm.cons _ (List.Perm.cons _ ((List.perm_middle (a := (oCB ty (w0.2 2) : va_W)) (l₁ := ([oX1 ty h11 a11 z11] : List va_W)) (l₂ := ([oCB ty (w0.2 3), oCB ty (w0.2 4), oCB ty (w0.2 5), oCB ty (w0.2 6), oCB ty (w0.2 7), oCB ty (w0.2 8), oCB ty (w0.2 9)] : List va_W))).trans (List.Perm.cons _ ((List.perm_middle (a := (oCB ty (w0.2 3) : va_W)) (l₁ := ([oX1 ty h11 a11 z11] : List va_W)) (l₂ := ([oCB ty (w0.2 4), oCB ty (w0.2 5), oCB ty (w0.2 6), oCB ty (w0.2 7), oCB ty (w0.2 8), oCB ty (w0.2 9)] : List va_W))).trans (List.Perm.cons _ ((List.perm_middle (a := (oCB ty (w0.2 4) : va_W)) (l₁ := ([oX1 ty h11 a11 z11] : List va_W)) (l₂ := ([oCB ty (w0.2 5), oCB ty (w0.2 6), oCB ty (w0.2 7), oCB ty (w0.2 8), oCB ty (w0.2 9)] : List va_W))).trans (List.Perm.cons _ ((List.perm_middle (a := (oCB ty (w0.2 5) : va_W)) (l₁ := ([oX1 ty h11 a11 z11] : List va_W)) (l₂ := ([oCB ty (w0.2 6), oCB ty (w0.2 7), oCB ty (w0.2 8), oCB ty (w0.2 9)] : List va_W))).trans (List.Perm.cons _ ((List.perm_middle (a := (oCB ty (w0.2 6) : va_W)) (l₁ := ([oX1 ty h11 a11 z11] : List va_W)) (l₂ := ([oCB ty (w0.2 7), oCB ty (w0.2 8), oCB ty (w0.2 9)] : List va_W))).trans (List.Perm.cons _ ((List.perm_middle (a := (oCB ty (w0.2 7) : va_W)) (l₁ := ([oX1 ty h11 a11 z11] : List va_W)) (l₂ := ([oCB ty (w0.2 8), oCB ty (w0.2 9)] : List va_W))).trans (List.Perm.cons _ ((List.perm_middle (a := (oCB ty (w0.2 8) : va_W)) (l₁ := ([oX1 ty h11 a11 z11] : List va_W)) (l₂ := ([oCB ty (w0.2 9)] : List va_W))).trans (List.Perm.cons _ (List.perm_middle (a := (oCB ty (w0.2 9) : va_W)) (l₁ := ([oX1 ty h11 a11 z11] : List va_W)) (l₂ := ([] : List va_W)))))))))))))))))))))) : List.Perm ([oX1 ty (w0.2 1).1.1 (w0.2 1).1.2 g4, oX1 ty h11 a11 z11, oXA ty h0 aa0 w0, oCB ty (w0.2 0), oCB ty (w0.2 2), oCB ty (w0.2 3), oCB ty (w0.2 4), oCB ty (w0.2 5), oCB ty (w0.2 6), oCB ty (w0.2 7), oCB ty (w0.2 8), oCB ty (w0.2 9)] : List va_W) ([oXA ty h0 aa0 w0, oCB ty (w0.2 0), oX1 ty (w0.2 1).1.1 (w0.2 1).1.2 g4, oCB ty (w0.2 2), oCB ty (w0.2 3), oCB ty (w0.2 4), oCB ty (w0.2 5), oCB ty (w0.2 6), oCB ty (w0.2 7), oCB ty (w0.2 8), oCB ty (w0.2 9), oX1 ty h11 a11 z11] : List va_W)) hP hD hS hA (fun H locs hP hD hS => ?_)
      clear hp1 hv
      rw [← oXA_up ty h0 aa0 w0 1 g4] at hP hD
      replace hP : va_P D vwC (fl [oXA ty h0 aa0 ((w0.1, pI w0.2 1 ((w0.2 1).1, g4)) : AS), oCB ty (((w0.1, pI w0.2 1 ((w0.2 1).1, g4)) : AS).2 0), oCB ty (((w0.1, pI w0.2 1 ((w0.2 1).1, g4)) : AS).2 1), oCB ty (((w0.1, pI w0.2 1 ((w0.2 1).1, g4)) : AS).2 2), oCB ty (((w0.1, pI w0.2 1 ((w0.2 1).1, g4)) : AS).2 3), oCB ty (((w0.1, pI w0.2 1 ((w0.2 1).1, g4)) : AS).2 4), oCB ty (((w0.1, pI w0.2 1 ((w0.2 1).1, g4)) : AS).2 5), oCB ty (((w0.1, pI w0.2 1 ((w0.2 1).1, g4)) : AS).2 6), oCB ty (((w0.1, pI w0.2 1 ((w0.2 1).1, g4)) : AS).2 7), oCB ty (((w0.1, pI w0.2 1 ((w0.2 1).1, g4)) : AS).2 8), oCB ty (((w0.1, pI w0.2 1 ((w0.2 1).1, g4)) : AS).2 9), oX1 ty h11 a11 z11]) H := hP
      replace hD : va_D A (fl [oXA ty h0 aa0 ((w0.1, pI w0.2 1 ((w0.2 1).1, g4)) : AS), oCB ty (((w0.1, pI w0.2 1 ((w0.2 1).1, g4)) : AS).2 0), oCB ty (((w0.1, pI w0.2 1 ((w0.2 1).1, g4)) : AS).2 1), oCB ty (((w0.1, pI w0.2 1 ((w0.2 1).1, g4)) : AS).2 2), oCB ty (((w0.1, pI w0.2 1 ((w0.2 1).1, g4)) : AS).2 3), oCB ty (((w0.1, pI w0.2 1 ((w0.2 1).1, g4)) : AS).2 4), oCB ty (((w0.1, pI w0.2 1 ((w0.2 1).1, g4)) : AS).2 5), oCB ty (((w0.1, pI w0.2 1 ((w0.2 1).1, g4)) : AS).2 6), oCB ty (((w0.1, pI w0.2 1 ((w0.2 1).1, g4)) : AS).2 7), oCB ty (((w0.1, pI w0.2 1 ((w0.2 1).1, g4)) : AS).2 8), oCB ty (((w0.1, pI w0.2 1 ((w0.2 1).1, g4)) : AS).2 9), oX1 ty h11 a11 z11]) := hD
      obtain ⟨g5, ex⟩ : ∃ y : AS, y = ((w0.1, pI w0.2 1 ((w0.2 1).1, g4)) : AS) := ⟨_, rfl⟩
      replace hf := bnd_at hf ex; rw [← ex] at hP hD; clear ex
      refine lv_aload_n hx hb dX0_add_26 rfl (lv_at hl 0 rfl) ?_
      refine lv_dup hx hb dX0_add_27 rfl ?_
      refine va_get (D := D) (ci := 0) (C := RX0) (T := TX0) (N := 2) hx hb F.2.2.2.2 in_X0_add_X0 F.2.2.2.1 hK.1 hP 0 rfl rfl 1 (Nat.le_of_ble_eq_true rfl) (F.2.2.2.2 (.fieldLink RX0 18 "LouderRoom$Acts" "count" "I") (List.mem_of_getElem? (i := 1) rfl)) (fun _ h9 => h9) rfl dX0_add_28 ?_
      refine lv_iconst (v := (1 : Int32)) hx hb dX0_add_31 (by decide) ?_
      refine lv_iadd hx hb dX0_add_32 ?_
      refine pt_put (D := D) (ci := 0) (fty := .int) (C := RX0) (T := TX0) (N := 2) (w1 := fl [oXA ty h0 aa0 (((g5.1 + (1 : Int32)), g5.2) : AS), oCB ty ((((g5.1 + (1 : Int32)), g5.2) : AS).2 0), oCB ty ((((g5.1 + (1 : Int32)), g5.2) : AS).2 1), oCB ty ((((g5.1 + (1 : Int32)), g5.2) : AS).2 2), oCB ty ((((g5.1 + (1 : Int32)), g5.2) : AS).2 3), oCB ty ((((g5.1 + (1 : Int32)), g5.2) : AS).2 4), oCB ty ((((g5.1 + (1 : Int32)), g5.2) : AS).2 5), oCB ty ((((g5.1 + (1 : Int32)), g5.2) : AS).2 6), oCB ty ((((g5.1 + (1 : Int32)), g5.2) : AS).2 7), oCB ty ((((g5.1 + (1 : Int32)), g5.2) : AS).2 8), oCB ty ((((g5.1 + (1 : Int32)), g5.2) : AS).2 9), oX1 ty h11 a11 z11]) F in_X0_add_X0 tyX0 tyX0_ok nmX0 hK.1 hP hD hS 0 rfl rfl 1 (Nat.le_of_ble_eq_true rfl) (F.2.2.2.2 (.fieldLink RX0 18 "LouderRoom$Acts" "count" "I") (List.mem_of_getElem? (i := 1) rfl)) (fun _ h9 => h9) rfl (by decide +kernel) rfl rfl (Nat.le_of_ble_eq_true rfl) rfl dX0_add_33 (fun H locs hP hD hS => ?_)
      obtain ⟨g6, ex⟩ : ∃ y : AS, y = (((g5.1 + (1 : Int32)), g5.2) : AS) := ⟨_, rfl⟩
      replace hf := bnd_at hf ex; rw [← ex] at hP hD; clear ex
      obtain hf := hf
      have e0 := Option.some.inj hf
      rw [e0] at hP hD
      exact CX_v F hr hlk hP hD hS dX0_add_36
    replace hf := ite_f hf hc1
    by_cases hc2 : w0.1 = (2 : Int32)
    · replace hf := ite_t hf hc2
      refine W.eq (g2 := F0 m 22 ls [.ref (w0.2 2).1.1]) (by rw [hc2]; rfl) ?_
      refine lv_aload_n hx hb dX0_add_22 rfl (lv_at hl 1 rfl) ?_
      obtain ⟨g7, hv, hf⟩ := obd hf
      have hp1 : List.Perm [oXA ty h0 aa0 w0, oCB ty (w0.2 0), oCB ty (w0.2 1), oX1 ty (w0.2 2).1.1 (w0.2 2).1.2 (w0.2 2).2, oCB ty (w0.2 3), oCB ty (w0.2 4), oCB ty (w0.2 5), oCB ty (w0.2 6), oCB ty (w0.2 7), oCB ty (w0.2 8), oCB ty (w0.2 9), oX1 ty h11 a11 z11] ([oX1 ty (w0.2 2).1.1 (w0.2 2).1.2 (w0.2 2).2, oX1 ty h11 a11 z11] ++ [oXA ty h0 aa0 w0, oCB ty (w0.2 0), oCB ty (w0.2 1), oCB ty (w0.2 3), oCB ty (w0.2 4), oCB ty (w0.2 5), oCB ty (w0.2 6), oCB ty (w0.2 7), oCB ty (w0.2 8), oCB ty (w0.2 9)]) := (((List.perm_middle (a := (oX1 ty (w0.2 2).1.1 (w0.2 2).1.2 (w0.2 2).2 : va_W)) (l₁ := ([oXA ty h0 aa0 w0, oCB ty (w0.2 0), oCB ty (w0.2 1)] : List va_W)) (l₂ := ([oCB ty (w0.2 3), oCB ty (w0.2 4), oCB ty (w0.2 5), oCB ty (w0.2 6), oCB ty (w0.2 7), oCB ty (w0.2 8), oCB ty (w0.2 9), oX1 ty h11 a11 z11] : List va_W))).trans (List.Perm.cons _ (List.perm_middle (a := (oX1 ty h11 a11 z11 : va_W)) (l₁ := ([oXA ty h0 aa0 w0, oCB ty (w0.2 0), oCB ty (w0.2 1), oCB ty (w0.2 3), oCB ty (w0.2 4), oCB ty (w0.2 5), oCB ty (w0.2 6), oCB ty (w0.2 7), oCB ty (w0.2 8), oCB ty (w0.2 9)] : List va_W)) (l₂ := ([] : List va_W))))) : List.Perm ([oXA ty h0 aa0 w0, oCB ty (w0.2 0), oCB ty (w0.2 1), oX1 ty (w0.2 2).1.1 (w0.2 2).1.2 (w0.2 2).2, oCB ty (w0.2 3), oCB ty (w0.2 4), oCB ty (w0.2 5), oCB ty (w0.2 6), oCB ty (w0.2 7), oCB ty (w0.2 8), oCB ty (w0.2 9), oX1 ty h11 a11 z11] : List va_W) ([oX1 ty (w0.2 2).1.1 (w0.2 2).1.2 (w0.2 2).2, oX1 ty h11 a11 z11, oXA ty h0 aa0 w0, oCB ty (w0.2 0), oCB ty (w0.2 1), oCB ty (w0.2 3), oCB ty (w0.2 4), oCB ty (w0.2 5), oCB ty (w0.2 6), oCB ty (w0.2 7), oCB ty (w0.2 8), oCB ty (w0.2 9)] : List va_W))
      refine cv_call (os := [oXA ty h0 aa0 w0, oCB ty (w0.2 0), oCB ty (w0.2 1), oX1 ty (w0.2 2).1.1 (w0.2 2).1.2 (w0.2 2).2, oCB ty (w0.2 3), oCB ty (w0.2 4), oCB ty (w0.2 5), oCB ty (w0.2 6), oCB ty (w0.2 7), oCB ty (w0.2 8), oCB ty (w0.2 9), oX1 ty h11 a11 z11]) (oc := [oX1 ty (w0.2 2).1.1 (w0.2 2).1.2 (w0.2 2).2, oX1 ty h11 a11 z11]) (oc' := [oX1 ty (w0.2 2).1.1 (w0.2 2).1.2 g7, oX1 ty h11 a11 z11]) (or_ := [oXA ty h0 aa0 w0, oCB ty (w0.2 0), oCB ty (w0.2 1), oCB ty (w0.2 3), oCB ty (w0.2 4), oCB ty (w0.2 5), oCB ty (w0.2 6), oCB ty (w0.2 7), oCB ty (w0.2 8), oCB ty (w0.2 9)]) (os' := [oXA ty h0 aa0 w0, oCB ty (w0.2 0), oCB ty (w0.2 1), oX1 ty (w0.2 2).1.1 (w0.2 2).1.2 g7, oCB ty (w0.2 3), oCB ty (w0.2 4), oCB ty (w0.2 5), oCB ty (w0.2 6), oCB ty (w0.2 7), oCB ty (w0.2 8), oCB ty (w0.2 9), oX1 ty h11 a11 z11]) (va_runV (As := [.ref h11]) (rest := []) F (c_X1_copyRings l D ty (w0.2 2).1.1 (w0.2 2).1.2 h11 a11 _ _ _ hv _) (cwV 1 F.2.2.2.2 gX0_add_X1_copyRings rfl rfl rfl ⟨rfl, hd_X1_copyRings⟩ ⟨Nat.le_of_ble_eq_true rfl, Nat.le_of_ble_eq_true rfl⟩) (pre_v hK hP hD hp1 rfl rfl rfl) rfl rfl hl.1 rfl (lv_room (Nat.le_of_ble_eq_true rfl)) dX0_add_23 ⟨Nat.zero_le _, Nat.zero_le _⟩) hp1 (((List.perm_middle (a := (oXA ty h0 aa0 w0 : va_W)) (l₁ := ([oX1 ty (w0.2 2).1.1 (w0.2 2).1.2 g7, oX1 ty h11 a11 z11] : List va_W)) (l₂ := ([oCB ty (w0.2 0), oCB ty (w0.2 1), oCB ty (w0.2 3), oCB ty (w0.2 4), oCB ty (w0.2 5), oCB ty (w0.2 6), oCB ty (w0.2 7), oCB ty (w0.2 8), oCB ty (w0.2 9)] : List va_W))).trans (List.Perm.cons _ ((List.perm_middle (a := (oCB ty (w0.2 0) : va_W)) (l₁ := ([oX1 ty (w0.2 2).1.1 (w0.2 2).1.2 g7, oX1 ty h11 a11 z11] : List va_W)) (l₂ := ([oCB ty (w0.2 1), oCB ty (w0.2 3), oCB ty (w0.2 4), oCB ty (w0.2 5), oCB ty (w0.2 6), oCB ty (w0.2 7), oCB ty (w0.2 8), oCB ty (w0.2 9)] : List va_W))).trans (List.Perm.cons _ ((List.perm_middle (a := (oCB ty (w0.2 1) : va_W)) (l₁ := ([oX1 ty (w0.2 2).1.1 (w0.2 2).1.2 g7, oX1 ty h11 a11 z11] : List va_W)) (l₂ := ([oCB ty (w0.2 3), oCB ty (w0.2 4), oCB ty (w0.2 5), oCB ty (w0.2 6), oCB ty (w0.2 7), oCB ty (w0.2 8), oCB ty (w0.2 9)] : List va_W))).trans (List.Perm.cons _ (List.Perm.cons _ ((List.perm_middle (a := (oCB ty (w0.2 3) : va_W)) (l₁ := ([oX1 ty h11 a11 z11] : List va_W)) (l₂ := ([oCB ty (w0.2 4), oCB ty (w0.2 5), oCB ty (w0.2 6), oCB ty (w0.2 7), oCB ty (w0.2 8), oCB ty (w0.2 9)] : List va_W))).trans (List.Perm.cons _ ((List.perm_middle (a := (oCB ty (w0.2 4) : va_W)) (l₁ := ([oX1 ty h11 a11 z11] : List va_W)) (l₂ := ([oCB ty (w0.2 5), oCB ty (w0.2 6), oCB ty (w0.2 7), oCB ty (w0.2 8), oCB ty (w0.2 9)] : List va_W))).trans (List.Perm.cons _ ((List.perm_middle (a := (oCB ty (w0.2 5) : va_W)) (l₁ := ([oX1 ty h11 a11 z11] : List va_W)) (l₂ := ([oCB ty (w0.2 6), oCB ty (w0.2 7), oCB ty (w0.2 8), oCB ty (w0.2 9)] : List va_W))).trans (List.Perm.cons _ ((List.perm_middle (a := (oCB ty (w0.2 6) : va_W)) (l₁ := ([oX1 ty h11 a11 z11] : List va_W)) (l₂ := ([oCB ty (w0.2 7), oCB ty (w0.2 8), oCB ty (w0.2 9)] : List va_W))).trans (List.Perm.cons _ ((List.perm_middle (a := (oCB ty (w0.2 7) : va_W)) (l₁ := ([oX1 ty h11 a11 z11] : List va_W)) (l₂ := ([oCB ty (w0.2 8), oCB ty (w0.2 9)] : List va_W))).trans (List.Perm.cons _ ((List.perm_middle (a := (oCB ty (w0.2 8) : va_W)) (l₁ := ([oX1 ty h11 a11 z11] : List va_W)) (l₂ := ([oCB ty (w0.2 9)] : List va_W))).trans (List.Perm.cons _ (List.perm_middle (a := (oCB ty (w0.2 9) : va_W)) (l₁ := ([oX1 ty h11 a11 z11] : List va_W)) (l₂ := ([] : List va_W)))))))))))))))))))))) : List.Perm ([oX1 ty (w0.2 2).1.1 (w0.2 2).1.2 g7, oX1 ty h11 a11 z11, oXA ty h0 aa0 w0, oCB ty (w0.2 0), oCB ty (w0.2 1), oCB ty (w0.2 3), oCB ty (w0.2 4), oCB ty (w0.2 5), oCB ty (w0.2 6), oCB ty (w0.2 7), oCB ty (w0.2 8), oCB ty (w0.2 9)] : List va_W) ([oXA ty h0 aa0 w0, oCB ty (w0.2 0), oCB ty (w0.2 1), oX1 ty (w0.2 2).1.1 (w0.2 2).1.2 g7, oCB ty (w0.2 3), oCB ty (w0.2 4), oCB ty (w0.2 5), oCB ty (w0.2 6), oCB ty (w0.2 7), oCB ty (w0.2 8), oCB ty (w0.2 9), oX1 ty h11 a11 z11] : List va_W)) hP hD hS hA (fun H locs hP hD hS => ?_)
      clear hp1 hv
      rw [← oXA_up ty h0 aa0 w0 2 g7] at hP hD
      replace hP : va_P D vwC (fl [oXA ty h0 aa0 ((w0.1, pI w0.2 2 ((w0.2 2).1, g7)) : AS), oCB ty (((w0.1, pI w0.2 2 ((w0.2 2).1, g7)) : AS).2 0), oCB ty (((w0.1, pI w0.2 2 ((w0.2 2).1, g7)) : AS).2 1), oCB ty (((w0.1, pI w0.2 2 ((w0.2 2).1, g7)) : AS).2 2), oCB ty (((w0.1, pI w0.2 2 ((w0.2 2).1, g7)) : AS).2 3), oCB ty (((w0.1, pI w0.2 2 ((w0.2 2).1, g7)) : AS).2 4), oCB ty (((w0.1, pI w0.2 2 ((w0.2 2).1, g7)) : AS).2 5), oCB ty (((w0.1, pI w0.2 2 ((w0.2 2).1, g7)) : AS).2 6), oCB ty (((w0.1, pI w0.2 2 ((w0.2 2).1, g7)) : AS).2 7), oCB ty (((w0.1, pI w0.2 2 ((w0.2 2).1, g7)) : AS).2 8), oCB ty (((w0.1, pI w0.2 2 ((w0.2 2).1, g7)) : AS).2 9), oX1 ty h11 a11 z11]) H := hP
      replace hD : va_D A (fl [oXA ty h0 aa0 ((w0.1, pI w0.2 2 ((w0.2 2).1, g7)) : AS), oCB ty (((w0.1, pI w0.2 2 ((w0.2 2).1, g7)) : AS).2 0), oCB ty (((w0.1, pI w0.2 2 ((w0.2 2).1, g7)) : AS).2 1), oCB ty (((w0.1, pI w0.2 2 ((w0.2 2).1, g7)) : AS).2 2), oCB ty (((w0.1, pI w0.2 2 ((w0.2 2).1, g7)) : AS).2 3), oCB ty (((w0.1, pI w0.2 2 ((w0.2 2).1, g7)) : AS).2 4), oCB ty (((w0.1, pI w0.2 2 ((w0.2 2).1, g7)) : AS).2 5), oCB ty (((w0.1, pI w0.2 2 ((w0.2 2).1, g7)) : AS).2 6), oCB ty (((w0.1, pI w0.2 2 ((w0.2 2).1, g7)) : AS).2 7), oCB ty (((w0.1, pI w0.2 2 ((w0.2 2).1, g7)) : AS).2 8), oCB ty (((w0.1, pI w0.2 2 ((w0.2 2).1, g7)) : AS).2 9), oX1 ty h11 a11 z11]) := hD
      obtain ⟨g8, ex⟩ : ∃ y : AS, y = ((w0.1, pI w0.2 2 ((w0.2 2).1, g7)) : AS) := ⟨_, rfl⟩
      replace hf := bnd_at hf ex; rw [← ex] at hP hD; clear ex
      refine lv_aload_n hx hb dX0_add_26 rfl (lv_at hl 0 rfl) ?_
      refine lv_dup hx hb dX0_add_27 rfl ?_
      refine va_get (D := D) (ci := 0) (C := RX0) (T := TX0) (N := 2) hx hb F.2.2.2.2 in_X0_add_X0 F.2.2.2.1 hK.1 hP 0 rfl rfl 1 (Nat.le_of_ble_eq_true rfl) (F.2.2.2.2 (.fieldLink RX0 18 "LouderRoom$Acts" "count" "I") (List.mem_of_getElem? (i := 1) rfl)) (fun _ h9 => h9) rfl dX0_add_28 ?_
      refine lv_iconst (v := (1 : Int32)) hx hb dX0_add_31 (by decide) ?_
      refine lv_iadd hx hb dX0_add_32 ?_
      refine pt_put (D := D) (ci := 0) (fty := .int) (C := RX0) (T := TX0) (N := 2) (w1 := fl [oXA ty h0 aa0 (((g8.1 + (1 : Int32)), g8.2) : AS), oCB ty ((((g8.1 + (1 : Int32)), g8.2) : AS).2 0), oCB ty ((((g8.1 + (1 : Int32)), g8.2) : AS).2 1), oCB ty ((((g8.1 + (1 : Int32)), g8.2) : AS).2 2), oCB ty ((((g8.1 + (1 : Int32)), g8.2) : AS).2 3), oCB ty ((((g8.1 + (1 : Int32)), g8.2) : AS).2 4), oCB ty ((((g8.1 + (1 : Int32)), g8.2) : AS).2 5), oCB ty ((((g8.1 + (1 : Int32)), g8.2) : AS).2 6), oCB ty ((((g8.1 + (1 : Int32)), g8.2) : AS).2 7), oCB ty ((((g8.1 + (1 : Int32)), g8.2) : AS).2 8), oCB ty ((((g8.1 + (1 : Int32)), g8.2) : AS).2 9), oX1 ty h11 a11 z11]) F in_X0_add_X0 tyX0 tyX0_ok nmX0 hK.1 hP hD hS 0 rfl rfl 1 (Nat.le_of_ble_eq_true rfl) (F.2.2.2.2 (.fieldLink RX0 18 "LouderRoom$Acts" "count" "I") (List.mem_of_getElem? (i := 1) rfl)) (fun _ h9 => h9) rfl (by decide +kernel) rfl rfl (Nat.le_of_ble_eq_true rfl) rfl dX0_add_33 (fun H locs hP hD hS => ?_)
      obtain ⟨g9, ex⟩ : ∃ y : AS, y = (((g8.1 + (1 : Int32)), g8.2) : AS) := ⟨_, rfl⟩
      replace hf := bnd_at hf ex; rw [← ex] at hP hD; clear ex
      obtain hf := hf
      have e0 := Option.some.inj hf
      rw [e0] at hP hD
      exact CX_v F hr hlk hP hD hS dX0_add_36
    replace hf := ite_f hf hc2
    by_cases hc3 : w0.1 = (3 : Int32)
    · replace hf := ite_t hf hc3
      refine W.eq (g2 := F0 m 22 ls [.ref (w0.2 3).1.1]) (by rw [hc3]; rfl) ?_
      refine lv_aload_n hx hb dX0_add_22 rfl (lv_at hl 1 rfl) ?_
      obtain ⟨g10, hv, hf⟩ := obd hf
      have hp1 : List.Perm [oXA ty h0 aa0 w0, oCB ty (w0.2 0), oCB ty (w0.2 1), oCB ty (w0.2 2), oX1 ty (w0.2 3).1.1 (w0.2 3).1.2 (w0.2 3).2, oCB ty (w0.2 4), oCB ty (w0.2 5), oCB ty (w0.2 6), oCB ty (w0.2 7), oCB ty (w0.2 8), oCB ty (w0.2 9), oX1 ty h11 a11 z11] ([oX1 ty (w0.2 3).1.1 (w0.2 3).1.2 (w0.2 3).2, oX1 ty h11 a11 z11] ++ [oXA ty h0 aa0 w0, oCB ty (w0.2 0), oCB ty (w0.2 1), oCB ty (w0.2 2), oCB ty (w0.2 4), oCB ty (w0.2 5), oCB ty (w0.2 6), oCB ty (w0.2 7), oCB ty (w0.2 8), oCB ty (w0.2 9)]) := (((List.perm_middle (a := (oX1 ty (w0.2 3).1.1 (w0.2 3).1.2 (w0.2 3).2 : va_W)) (l₁ := ([oXA ty h0 aa0 w0, oCB ty (w0.2 0), oCB ty (w0.2 1), oCB ty (w0.2 2)] : List va_W)) (l₂ := ([oCB ty (w0.2 4), oCB ty (w0.2 5), oCB ty (w0.2 6), oCB ty (w0.2 7), oCB ty (w0.2 8), oCB ty (w0.2 9), oX1 ty h11 a11 z11] : List va_W))).trans (List.Perm.cons _ (List.perm_middle (a := (oX1 ty h11 a11 z11 : va_W)) (l₁ := ([oXA ty h0 aa0 w0, oCB ty (w0.2 0), oCB ty (w0.2 1), oCB ty (w0.2 2), oCB ty (w0.2 4), oCB ty (w0.2 5), oCB ty (w0.2 6), oCB ty (w0.2 7), oCB ty (w0.2 8), oCB ty (w0.2 9)] : List va_W)) (l₂ := ([] : List va_W))))) : List.Perm ([oXA ty h0 aa0 w0, oCB ty (w0.2 0), oCB ty (w0.2 1), oCB ty (w0.2 2), oX1 ty (w0.2 3).1.1 (w0.2 3).1.2 (w0.2 3).2, oCB ty (w0.2 4), oCB ty (w0.2 5), oCB ty (w0.2 6), oCB ty (w0.2 7), oCB ty (w0.2 8), oCB ty (w0.2 9), oX1 ty h11 a11 z11] : List va_W) ([oX1 ty (w0.2 3).1.1 (w0.2 3).1.2 (w0.2 3).2, oX1 ty h11 a11 z11, oXA ty h0 aa0 w0, oCB ty (w0.2 0), oCB ty (w0.2 1), oCB ty (w0.2 2), oCB ty (w0.2 4), oCB ty (w0.2 5), oCB ty (w0.2 6), oCB ty (w0.2 7), oCB ty (w0.2 8), oCB ty (w0.2 9)] : List va_W))
      refine cv_call (os := [oXA ty h0 aa0 w0, oCB ty (w0.2 0), oCB ty (w0.2 1), oCB ty (w0.2 2), oX1 ty (w0.2 3).1.1 (w0.2 3).1.2 (w0.2 3).2, oCB ty (w0.2 4), oCB ty (w0.2 5), oCB ty (w0.2 6), oCB ty (w0.2 7), oCB ty (w0.2 8), oCB ty (w0.2 9), oX1 ty h11 a11 z11]) (oc := [oX1 ty (w0.2 3).1.1 (w0.2 3).1.2 (w0.2 3).2, oX1 ty h11 a11 z11]) (oc' := [oX1 ty (w0.2 3).1.1 (w0.2 3).1.2 g10, oX1 ty h11 a11 z11]) (or_ := [oXA ty h0 aa0 w0, oCB ty (w0.2 0), oCB ty (w0.2 1), oCB ty (w0.2 2), oCB ty (w0.2 4), oCB ty (w0.2 5), oCB ty (w0.2 6), oCB ty (w0.2 7), oCB ty (w0.2 8), oCB ty (w0.2 9)]) (os' := [oXA ty h0 aa0 w0, oCB ty (w0.2 0), oCB ty (w0.2 1), oCB ty (w0.2 2), oX1 ty (w0.2 3).1.1 (w0.2 3).1.2 g10, oCB ty (w0.2 4), oCB ty (w0.2 5), oCB ty (w0.2 6), oCB ty (w0.2 7), oCB ty (w0.2 8), oCB ty (w0.2 9), oX1 ty h11 a11 z11]) (va_runV (As := [.ref h11]) (rest := []) F (c_X1_copyRings l D ty (w0.2 3).1.1 (w0.2 3).1.2 h11 a11 _ _ _ hv _) (cwV 1 F.2.2.2.2 gX0_add_X1_copyRings rfl rfl rfl ⟨rfl, hd_X1_copyRings⟩ ⟨Nat.le_of_ble_eq_true rfl, Nat.le_of_ble_eq_true rfl⟩) (pre_v hK hP hD hp1 rfl rfl rfl) rfl rfl hl.1 rfl (lv_room (Nat.le_of_ble_eq_true rfl)) dX0_add_23 ⟨Nat.zero_le _, Nat.zero_le _⟩) hp1 (((List.perm_middle (a := (oXA ty h0 aa0 w0 : va_W)) (l₁ := ([oX1 ty (w0.2 3).1.1 (w0.2 3).1.2 g10, oX1 ty h11 a11 z11] : List va_W)) (l₂ := ([oCB ty (w0.2 0), oCB ty (w0.2 1), oCB ty (w0.2 2), oCB ty (w0.2 4), oCB ty (w0.2 5), oCB ty (w0.2 6), oCB ty (w0.2 7), oCB ty (w0.2 8), oCB ty (w0.2 9)] : List va_W))).trans (List.Perm.cons _ ((List.perm_middle (a := (oCB ty (w0.2 0) : va_W)) (l₁ := ([oX1 ty (w0.2 3).1.1 (w0.2 3).1.2 g10, oX1 ty h11 a11 z11] : List va_W)) (l₂ := ([oCB ty (w0.2 1), oCB ty (w0.2 2), oCB ty (w0.2 4), oCB ty (w0.2 5), oCB ty (w0.2 6), oCB ty (w0.2 7), oCB ty (w0.2 8), oCB ty (w0.2 9)] : List va_W))).trans (List.Perm.cons _ ((List.perm_middle (a := (oCB ty (w0.2 1) : va_W)) (l₁ := ([oX1 ty (w0.2 3).1.1 (w0.2 3).1.2 g10, oX1 ty h11 a11 z11] : List va_W)) (l₂ := ([oCB ty (w0.2 2), oCB ty (w0.2 4), oCB ty (w0.2 5), oCB ty (w0.2 6), oCB ty (w0.2 7), oCB ty (w0.2 8), oCB ty (w0.2 9)] : List va_W))).trans (List.Perm.cons _ ((List.perm_middle (a := (oCB ty (w0.2 2) : va_W)) (l₁ := ([oX1 ty (w0.2 3).1.1 (w0.2 3).1.2 g10, oX1 ty h11 a11 z11] : List va_W)) (l₂ := ([oCB ty (w0.2 4), oCB ty (w0.2 5), oCB ty (w0.2 6), oCB ty (w0.2 7), oCB ty (w0.2 8), oCB ty (w0.2 9)] : List va_W))).trans (List.Perm.cons _ (List.Perm.cons _ ((List.perm_middle (a := (oCB ty (w0.2 4) : va_W)) (l₁ := ([oX1 ty h11 a11 z11] : List va_W)) (l₂ := ([oCB ty (w0.2 5), oCB ty (w0.2 6), oCB ty (w0.2 7), oCB ty (w0.2 8), oCB ty (w0.2 9)] : List va_W))).trans (List.Perm.cons _ ((List.perm_middle (a := (oCB ty (w0.2 5) : va_W)) (l₁ := ([oX1 ty h11 a11 z11] : List va_W)) (l₂ := ([oCB ty (w0.2 6), oCB ty (w0.2 7), oCB ty (w0.2 8), oCB ty (w0.2 9)] : List va_W))).trans (List.Perm.cons _ ((List.perm_middle (a := (oCB ty (w0.2 6) : va_W)) (l₁ := ([oX1 ty h11 a11 z11] : List va_W)) (l₂ := ([oCB ty (w0.2 7), oCB ty (w0.2 8), oCB ty (w0.2 9)] : List va_W))).trans (List.Perm.cons _ ((List.perm_middle (a := (oCB ty (w0.2 7) : va_W)) (l₁ := ([oX1 ty h11 a11 z11] : List va_W)) (l₂ := ([oCB ty (w0.2 8), oCB ty (w0.2 9)] : List va_W))).trans (List.Perm.cons _ ((List.perm_middle (a := (oCB ty (w0.2 8) : va_W)) (l₁ := ([oX1 ty h11 a11 z11] : List va_W)) (l₂ := ([oCB ty (w0.2 9)] : List va_W))).trans (List.Perm.cons _ (List.perm_middle (a := (oCB ty (w0.2 9) : va_W)) (l₁ := ([oX1 ty h11 a11 z11] : List va_W)) (l₂ := ([] : List va_W)))))))))))))))))))))) : List.Perm ([oX1 ty (w0.2 3).1.1 (w0.2 3).1.2 g10, oX1 ty h11 a11 z11, oXA ty h0 aa0 w0, oCB ty (w0.2 0), oCB ty (w0.2 1), oCB ty (w0.2 2), oCB ty (w0.2 4), oCB ty (w0.2 5), oCB ty (w0.2 6), oCB ty (w0.2 7), oCB ty (w0.2 8), oCB ty (w0.2 9)] : List va_W) ([oXA ty h0 aa0 w0, oCB ty (w0.2 0), oCB ty (w0.2 1), oCB ty (w0.2 2), oX1 ty (w0.2 3).1.1 (w0.2 3).1.2 g10, oCB ty (w0.2 4), oCB ty (w0.2 5), oCB ty (w0.2 6), oCB ty (w0.2 7), oCB ty (w0.2 8), oCB ty (w0.2 9), oX1 ty h11 a11 z11] : List va_W)) hP hD hS hA (fun H locs hP hD hS => ?_)
      clear hp1 hv
      rw [← oXA_up ty h0 aa0 w0 3 g10] at hP hD
      replace hP : va_P D vwC (fl [oXA ty h0 aa0 ((w0.1, pI w0.2 3 ((w0.2 3).1, g10)) : AS), oCB ty (((w0.1, pI w0.2 3 ((w0.2 3).1, g10)) : AS).2 0), oCB ty (((w0.1, pI w0.2 3 ((w0.2 3).1, g10)) : AS).2 1), oCB ty (((w0.1, pI w0.2 3 ((w0.2 3).1, g10)) : AS).2 2), oCB ty (((w0.1, pI w0.2 3 ((w0.2 3).1, g10)) : AS).2 3), oCB ty (((w0.1, pI w0.2 3 ((w0.2 3).1, g10)) : AS).2 4), oCB ty (((w0.1, pI w0.2 3 ((w0.2 3).1, g10)) : AS).2 5), oCB ty (((w0.1, pI w0.2 3 ((w0.2 3).1, g10)) : AS).2 6), oCB ty (((w0.1, pI w0.2 3 ((w0.2 3).1, g10)) : AS).2 7), oCB ty (((w0.1, pI w0.2 3 ((w0.2 3).1, g10)) : AS).2 8), oCB ty (((w0.1, pI w0.2 3 ((w0.2 3).1, g10)) : AS).2 9), oX1 ty h11 a11 z11]) H := hP
      replace hD : va_D A (fl [oXA ty h0 aa0 ((w0.1, pI w0.2 3 ((w0.2 3).1, g10)) : AS), oCB ty (((w0.1, pI w0.2 3 ((w0.2 3).1, g10)) : AS).2 0), oCB ty (((w0.1, pI w0.2 3 ((w0.2 3).1, g10)) : AS).2 1), oCB ty (((w0.1, pI w0.2 3 ((w0.2 3).1, g10)) : AS).2 2), oCB ty (((w0.1, pI w0.2 3 ((w0.2 3).1, g10)) : AS).2 3), oCB ty (((w0.1, pI w0.2 3 ((w0.2 3).1, g10)) : AS).2 4), oCB ty (((w0.1, pI w0.2 3 ((w0.2 3).1, g10)) : AS).2 5), oCB ty (((w0.1, pI w0.2 3 ((w0.2 3).1, g10)) : AS).2 6), oCB ty (((w0.1, pI w0.2 3 ((w0.2 3).1, g10)) : AS).2 7), oCB ty (((w0.1, pI w0.2 3 ((w0.2 3).1, g10)) : AS).2 8), oCB ty (((w0.1, pI w0.2 3 ((w0.2 3).1, g10)) : AS).2 9), oX1 ty h11 a11 z11]) := hD
      obtain ⟨g11, ex⟩ : ∃ y : AS, y = ((w0.1, pI w0.2 3 ((w0.2 3).1, g10)) : AS) := ⟨_, rfl⟩
      replace hf := bnd_at hf ex; rw [← ex] at hP hD; clear ex
      refine lv_aload_n hx hb dX0_add_26 rfl (lv_at hl 0 rfl) ?_
      refine lv_dup hx hb dX0_add_27 rfl ?_
      refine va_get (D := D) (ci := 0) (C := RX0) (T := TX0) (N := 2) hx hb F.2.2.2.2 in_X0_add_X0 F.2.2.2.1 hK.1 hP 0 rfl rfl 1 (Nat.le_of_ble_eq_true rfl) (F.2.2.2.2 (.fieldLink RX0 18 "LouderRoom$Acts" "count" "I") (List.mem_of_getElem? (i := 1) rfl)) (fun _ h9 => h9) rfl dX0_add_28 ?_
      refine lv_iconst (v := (1 : Int32)) hx hb dX0_add_31 (by decide) ?_
      refine lv_iadd hx hb dX0_add_32 ?_
      refine pt_put (D := D) (ci := 0) (fty := .int) (C := RX0) (T := TX0) (N := 2) (w1 := fl [oXA ty h0 aa0 (((g11.1 + (1 : Int32)), g11.2) : AS), oCB ty ((((g11.1 + (1 : Int32)), g11.2) : AS).2 0), oCB ty ((((g11.1 + (1 : Int32)), g11.2) : AS).2 1), oCB ty ((((g11.1 + (1 : Int32)), g11.2) : AS).2 2), oCB ty ((((g11.1 + (1 : Int32)), g11.2) : AS).2 3), oCB ty ((((g11.1 + (1 : Int32)), g11.2) : AS).2 4), oCB ty ((((g11.1 + (1 : Int32)), g11.2) : AS).2 5), oCB ty ((((g11.1 + (1 : Int32)), g11.2) : AS).2 6), oCB ty ((((g11.1 + (1 : Int32)), g11.2) : AS).2 7), oCB ty ((((g11.1 + (1 : Int32)), g11.2) : AS).2 8), oCB ty ((((g11.1 + (1 : Int32)), g11.2) : AS).2 9), oX1 ty h11 a11 z11]) F in_X0_add_X0 tyX0 tyX0_ok nmX0 hK.1 hP hD hS 0 rfl rfl 1 (Nat.le_of_ble_eq_true rfl) (F.2.2.2.2 (.fieldLink RX0 18 "LouderRoom$Acts" "count" "I") (List.mem_of_getElem? (i := 1) rfl)) (fun _ h9 => h9) rfl (by decide +kernel) rfl rfl (Nat.le_of_ble_eq_true rfl) rfl dX0_add_33 (fun H locs hP hD hS => ?_)
      obtain ⟨g12, ex⟩ : ∃ y : AS, y = (((g11.1 + (1 : Int32)), g11.2) : AS) := ⟨_, rfl⟩
      replace hf := bnd_at hf ex; rw [← ex] at hP hD; clear ex
      obtain hf := hf
      have e0 := Option.some.inj hf
      rw [e0] at hP hD
      exact CX_v F hr hlk hP hD hS dX0_add_36
    replace hf := ite_f hf hc3
    by_cases hc4 : w0.1 = (4 : Int32)
    · replace hf := ite_t hf hc4
      refine W.eq (g2 := F0 m 22 ls [.ref (w0.2 4).1.1]) (by rw [hc4]; rfl) ?_
      refine lv_aload_n hx hb dX0_add_22 rfl (lv_at hl 1 rfl) ?_
      obtain ⟨g13, hv, hf⟩ := obd hf
      have hp1 : List.Perm [oXA ty h0 aa0 w0, oCB ty (w0.2 0), oCB ty (w0.2 1), oCB ty (w0.2 2), oCB ty (w0.2 3), oX1 ty (w0.2 4).1.1 (w0.2 4).1.2 (w0.2 4).2, oCB ty (w0.2 5), oCB ty (w0.2 6), oCB ty (w0.2 7), oCB ty (w0.2 8), oCB ty (w0.2 9), oX1 ty h11 a11 z11] ([oX1 ty (w0.2 4).1.1 (w0.2 4).1.2 (w0.2 4).2, oX1 ty h11 a11 z11] ++ [oXA ty h0 aa0 w0, oCB ty (w0.2 0), oCB ty (w0.2 1), oCB ty (w0.2 2), oCB ty (w0.2 3), oCB ty (w0.2 5), oCB ty (w0.2 6), oCB ty (w0.2 7), oCB ty (w0.2 8), oCB ty (w0.2 9)]) := (((List.perm_middle (a := (oX1 ty (w0.2 4).1.1 (w0.2 4).1.2 (w0.2 4).2 : va_W)) (l₁ := ([oXA ty h0 aa0 w0, oCB ty (w0.2 0), oCB ty (w0.2 1), oCB ty (w0.2 2), oCB ty (w0.2 3)] : List va_W)) (l₂ := ([oCB ty (w0.2 5), oCB ty (w0.2 6), oCB ty (w0.2 7), oCB ty (w0.2 8), oCB ty (w0.2 9), oX1 ty h11 a11 z11] : List va_W))).trans (List.Perm.cons _ (List.perm_middle (a := (oX1 ty h11 a11 z11 : va_W)) (l₁ := ([oXA ty h0 aa0 w0, oCB ty (w0.2 0), oCB ty (w0.2 1), oCB ty (w0.2 2), oCB ty (w0.2 3), oCB ty (w0.2 5), oCB ty (w0.2 6), oCB ty (w0.2 7), oCB ty (w0.2 8), oCB ty (w0.2 9)] : List va_W)) (l₂ := ([] : List va_W))))) : List.Perm ([oXA ty h0 aa0 w0, oCB ty (w0.2 0), oCB ty (w0.2 1), oCB ty (w0.2 2), oCB ty (w0.2 3), oX1 ty (w0.2 4).1.1 (w0.2 4).1.2 (w0.2 4).2, oCB ty (w0.2 5), oCB ty (w0.2 6), oCB ty (w0.2 7), oCB ty (w0.2 8), oCB ty (w0.2 9), oX1 ty h11 a11 z11] : List va_W) ([oX1 ty (w0.2 4).1.1 (w0.2 4).1.2 (w0.2 4).2, oX1 ty h11 a11 z11, oXA ty h0 aa0 w0, oCB ty (w0.2 0), oCB ty (w0.2 1), oCB ty (w0.2 2), oCB ty (w0.2 3), oCB ty (w0.2 5), oCB ty (w0.2 6), oCB ty (w0.2 7), oCB ty (w0.2 8), oCB ty (w0.2 9)] : List va_W))
      refine cv_call (os := [oXA ty h0 aa0 w0, oCB ty (w0.2 0), oCB ty (w0.2 1), oCB ty (w0.2 2), oCB ty (w0.2 3), oX1 ty (w0.2 4).1.1 (w0.2 4).1.2 (w0.2 4).2, oCB ty (w0.2 5), oCB ty (w0.2 6), oCB ty (w0.2 7), oCB ty (w0.2 8), oCB ty (w0.2 9), oX1 ty h11 a11 z11]) (oc := [oX1 ty (w0.2 4).1.1 (w0.2 4).1.2 (w0.2 4).2, oX1 ty h11 a11 z11]) (oc' := [oX1 ty (w0.2 4).1.1 (w0.2 4).1.2 g13, oX1 ty h11 a11 z11]) (or_ := [oXA ty h0 aa0 w0, oCB ty (w0.2 0), oCB ty (w0.2 1), oCB ty (w0.2 2), oCB ty (w0.2 3), oCB ty (w0.2 5), oCB ty (w0.2 6), oCB ty (w0.2 7), oCB ty (w0.2 8), oCB ty (w0.2 9)]) (os' := [oXA ty h0 aa0 w0, oCB ty (w0.2 0), oCB ty (w0.2 1), oCB ty (w0.2 2), oCB ty (w0.2 3), oX1 ty (w0.2 4).1.1 (w0.2 4).1.2 g13, oCB ty (w0.2 5), oCB ty (w0.2 6), oCB ty (w0.2 7), oCB ty (w0.2 8), oCB ty (w0.2 9), oX1 ty h11 a11 z11]) (va_runV (As := [.ref h11]) (rest := []) F (c_X1_copyRings l D ty (w0.2 4).1.1 (w0.2 4).1.2 h11 a11 _ _ _ hv _) (cwV 1 F.2.2.2.2 gX0_add_X1_copyRings rfl rfl rfl ⟨rfl, hd_X1_copyRings⟩ ⟨Nat.le_of_ble_eq_true rfl, Nat.le_of_ble_eq_true rfl⟩) (pre_v hK hP hD hp1 rfl rfl rfl) rfl rfl hl.1 rfl (lv_room (Nat.le_of_ble_eq_true rfl)) dX0_add_23 ⟨Nat.zero_le _, Nat.zero_le _⟩) hp1 (((List.perm_middle (a := (oXA ty h0 aa0 w0 : va_W)) (l₁ := ([oX1 ty (w0.2 4).1.1 (w0.2 4).1.2 g13, oX1 ty h11 a11 z11] : List va_W)) (l₂ := ([oCB ty (w0.2 0), oCB ty (w0.2 1), oCB ty (w0.2 2), oCB ty (w0.2 3), oCB ty (w0.2 5), oCB ty (w0.2 6), oCB ty (w0.2 7), oCB ty (w0.2 8), oCB ty (w0.2 9)] : List va_W))).trans (List.Perm.cons _ ((List.perm_middle (a := (oCB ty (w0.2 0) : va_W)) (l₁ := ([oX1 ty (w0.2 4).1.1 (w0.2 4).1.2 g13, oX1 ty h11 a11 z11] : List va_W)) (l₂ := ([oCB ty (w0.2 1), oCB ty (w0.2 2), oCB ty (w0.2 3), oCB ty (w0.2 5), oCB ty (w0.2 6), oCB ty (w0.2 7), oCB ty (w0.2 8), oCB ty (w0.2 9)] : List va_W))).trans (List.Perm.cons _ ((List.perm_middle (a := (oCB ty (w0.2 1) : va_W)) (l₁ := ([oX1 ty (w0.2 4).1.1 (w0.2 4).1.2 g13, oX1 ty h11 a11 z11] : List va_W)) (l₂ := ([oCB ty (w0.2 2), oCB ty (w0.2 3), oCB ty (w0.2 5), oCB ty (w0.2 6), oCB ty (w0.2 7), oCB ty (w0.2 8), oCB ty (w0.2 9)] : List va_W))).trans (List.Perm.cons _ ((List.perm_middle (a := (oCB ty (w0.2 2) : va_W)) (l₁ := ([oX1 ty (w0.2 4).1.1 (w0.2 4).1.2 g13, oX1 ty h11 a11 z11] : List va_W)) (l₂ := ([oCB ty (w0.2 3), oCB ty (w0.2 5), oCB ty (w0.2 6), oCB ty (w0.2 7), oCB ty (w0.2 8), oCB ty (w0.2 9)] : List va_W))).trans (List.Perm.cons _ ((List.perm_middle (a := (oCB ty (w0.2 3) : va_W)) (l₁ := ([oX1 ty (w0.2 4).1.1 (w0.2 4).1.2 g13, oX1 ty h11 a11 z11] : List va_W)) (l₂ := ([oCB ty (w0.2 5), oCB ty (w0.2 6), oCB ty (w0.2 7), oCB ty (w0.2 8), oCB ty (w0.2 9)] : List va_W))).trans (List.Perm.cons _ (List.Perm.cons _ ((List.perm_middle (a := (oCB ty (w0.2 5) : va_W)) (l₁ := ([oX1 ty h11 a11 z11] : List va_W)) (l₂ := ([oCB ty (w0.2 6), oCB ty (w0.2 7), oCB ty (w0.2 8), oCB ty (w0.2 9)] : List va_W))).trans (List.Perm.cons _ ((List.perm_middle (a := (oCB ty (w0.2 6) : va_W)) (l₁ := ([oX1 ty h11 a11 z11] : List va_W)) (l₂ := ([oCB ty (w0.2 7), oCB ty (w0.2 8), oCB ty (w0.2 9)] : List va_W))).trans (List.Perm.cons _ ((List.perm_middle (a := (oCB ty (w0.2 7) : va_W)) (l₁ := ([oX1 ty h11 a11 z11] : List va_W)) (l₂ := ([oCB ty (w0.2 8), oCB ty (w0.2 9)] : List va_W))).trans (List.Perm.cons _ ((List.perm_middle (a := (oCB ty (w0.2 8) : va_W)) (l₁ := ([oX1 ty h11 a11 z11] : List va_W)) (l₂ := ([oCB ty (w0.2 9)] : List va_W))).trans (List.Perm.cons _ (List.perm_middle (a := (oCB ty (w0.2 9) : va_W)) (l₁ := ([oX1 ty h11 a11 z11] : List va_W)) (l₂ := ([] : List va_W)))))))))))))))))))))) : List.Perm ([oX1 ty (w0.2 4).1.1 (w0.2 4).1.2 g13, oX1 ty h11 a11 z11, oXA ty h0 aa0 w0, oCB ty (w0.2 0), oCB ty (w0.2 1), oCB ty (w0.2 2), oCB ty (w0.2 3), oCB ty (w0.2 5), oCB ty (w0.2 6), oCB ty (w0.2 7), oCB ty (w0.2 8), oCB ty (w0.2 9)] : List va_W) ([oXA ty h0 aa0 w0, oCB ty (w0.2 0), oCB ty (w0.2 1), oCB ty (w0.2 2), oCB ty (w0.2 3), oX1 ty (w0.2 4).1.1 (w0.2 4).1.2 g13, oCB ty (w0.2 5), oCB ty (w0.2 6), oCB ty (w0.2 7), oCB ty (w0.2 8), oCB ty (w0.2 9), oX1 ty h11 a11 z11] : List va_W)) hP hD hS hA (fun H locs hP hD hS => ?_)
      clear hp1 hv
      rw [← oXA_up ty h0 aa0 w0 4 g13] at hP hD
      replace hP : va_P D vwC (fl [oXA ty h0 aa0 ((w0.1, pI w0.2 4 ((w0.2 4).1, g13)) : AS), oCB ty (((w0.1, pI w0.2 4 ((w0.2 4).1, g13)) : AS).2 0), oCB ty (((w0.1, pI w0.2 4 ((w0.2 4).1, g13)) : AS).2 1), oCB ty (((w0.1, pI w0.2 4 ((w0.2 4).1, g13)) : AS).2 2), oCB ty (((w0.1, pI w0.2 4 ((w0.2 4).1, g13)) : AS).2 3), oCB ty (((w0.1, pI w0.2 4 ((w0.2 4).1, g13)) : AS).2 4), oCB ty (((w0.1, pI w0.2 4 ((w0.2 4).1, g13)) : AS).2 5), oCB ty (((w0.1, pI w0.2 4 ((w0.2 4).1, g13)) : AS).2 6), oCB ty (((w0.1, pI w0.2 4 ((w0.2 4).1, g13)) : AS).2 7), oCB ty (((w0.1, pI w0.2 4 ((w0.2 4).1, g13)) : AS).2 8), oCB ty (((w0.1, pI w0.2 4 ((w0.2 4).1, g13)) : AS).2 9), oX1 ty h11 a11 z11]) H := hP
      replace hD : va_D A (fl [oXA ty h0 aa0 ((w0.1, pI w0.2 4 ((w0.2 4).1, g13)) : AS), oCB ty (((w0.1, pI w0.2 4 ((w0.2 4).1, g13)) : AS).2 0), oCB ty (((w0.1, pI w0.2 4 ((w0.2 4).1, g13)) : AS).2 1), oCB ty (((w0.1, pI w0.2 4 ((w0.2 4).1, g13)) : AS).2 2), oCB ty (((w0.1, pI w0.2 4 ((w0.2 4).1, g13)) : AS).2 3), oCB ty (((w0.1, pI w0.2 4 ((w0.2 4).1, g13)) : AS).2 4), oCB ty (((w0.1, pI w0.2 4 ((w0.2 4).1, g13)) : AS).2 5), oCB ty (((w0.1, pI w0.2 4 ((w0.2 4).1, g13)) : AS).2 6), oCB ty (((w0.1, pI w0.2 4 ((w0.2 4).1, g13)) : AS).2 7), oCB ty (((w0.1, pI w0.2 4 ((w0.2 4).1, g13)) : AS).2 8), oCB ty (((w0.1, pI w0.2 4 ((w0.2 4).1, g13)) : AS).2 9), oX1 ty h11 a11 z11]) := hD
      obtain ⟨g14, ex⟩ : ∃ y : AS, y = ((w0.1, pI w0.2 4 ((w0.2 4).1, g13)) : AS) := ⟨_, rfl⟩
      replace hf := bnd_at hf ex; rw [← ex] at hP hD; clear ex
      refine lv_aload_n hx hb dX0_add_26 rfl (lv_at hl 0 rfl) ?_
      refine lv_dup hx hb dX0_add_27 rfl ?_
      refine va_get (D := D) (ci := 0) (C := RX0) (T := TX0) (N := 2) hx hb F.2.2.2.2 in_X0_add_X0 F.2.2.2.1 hK.1 hP 0 rfl rfl 1 (Nat.le_of_ble_eq_true rfl) (F.2.2.2.2 (.fieldLink RX0 18 "LouderRoom$Acts" "count" "I") (List.mem_of_getElem? (i := 1) rfl)) (fun _ h9 => h9) rfl dX0_add_28 ?_
      refine lv_iconst (v := (1 : Int32)) hx hb dX0_add_31 (by decide) ?_
      refine lv_iadd hx hb dX0_add_32 ?_
      refine pt_put (D := D) (ci := 0) (fty := .int) (C := RX0) (T := TX0) (N := 2) (w1 := fl [oXA ty h0 aa0 (((g14.1 + (1 : Int32)), g14.2) : AS), oCB ty ((((g14.1 + (1 : Int32)), g14.2) : AS).2 0), oCB ty ((((g14.1 + (1 : Int32)), g14.2) : AS).2 1), oCB ty ((((g14.1 + (1 : Int32)), g14.2) : AS).2 2), oCB ty ((((g14.1 + (1 : Int32)), g14.2) : AS).2 3), oCB ty ((((g14.1 + (1 : Int32)), g14.2) : AS).2 4), oCB ty ((((g14.1 + (1 : Int32)), g14.2) : AS).2 5), oCB ty ((((g14.1 + (1 : Int32)), g14.2) : AS).2 6), oCB ty ((((g14.1 + (1 : Int32)), g14.2) : AS).2 7), oCB ty ((((g14.1 + (1 : Int32)), g14.2) : AS).2 8), oCB ty ((((g14.1 + (1 : Int32)), g14.2) : AS).2 9), oX1 ty h11 a11 z11]) F in_X0_add_X0 tyX0 tyX0_ok nmX0 hK.1 hP hD hS 0 rfl rfl 1 (Nat.le_of_ble_eq_true rfl) (F.2.2.2.2 (.fieldLink RX0 18 "LouderRoom$Acts" "count" "I") (List.mem_of_getElem? (i := 1) rfl)) (fun _ h9 => h9) rfl (by decide +kernel) rfl rfl (Nat.le_of_ble_eq_true rfl) rfl dX0_add_33 (fun H locs hP hD hS => ?_)
      obtain ⟨g15, ex⟩ : ∃ y : AS, y = (((g14.1 + (1 : Int32)), g14.2) : AS) := ⟨_, rfl⟩
      replace hf := bnd_at hf ex; rw [← ex] at hP hD; clear ex
      obtain hf := hf
      have e0 := Option.some.inj hf
      rw [e0] at hP hD
      exact CX_v F hr hlk hP hD hS dX0_add_36
    replace hf := ite_f hf hc4
    by_cases hc5 : w0.1 = (5 : Int32)
    · replace hf := ite_t hf hc5
      refine W.eq (g2 := F0 m 22 ls [.ref (w0.2 5).1.1]) (by rw [hc5]; rfl) ?_
      refine lv_aload_n hx hb dX0_add_22 rfl (lv_at hl 1 rfl) ?_
      obtain ⟨g16, hv, hf⟩ := obd hf
      have hp1 : List.Perm [oXA ty h0 aa0 w0, oCB ty (w0.2 0), oCB ty (w0.2 1), oCB ty (w0.2 2), oCB ty (w0.2 3), oCB ty (w0.2 4), oX1 ty (w0.2 5).1.1 (w0.2 5).1.2 (w0.2 5).2, oCB ty (w0.2 6), oCB ty (w0.2 7), oCB ty (w0.2 8), oCB ty (w0.2 9), oX1 ty h11 a11 z11] ([oX1 ty (w0.2 5).1.1 (w0.2 5).1.2 (w0.2 5).2, oX1 ty h11 a11 z11] ++ [oXA ty h0 aa0 w0, oCB ty (w0.2 0), oCB ty (w0.2 1), oCB ty (w0.2 2), oCB ty (w0.2 3), oCB ty (w0.2 4), oCB ty (w0.2 6), oCB ty (w0.2 7), oCB ty (w0.2 8), oCB ty (w0.2 9)]) := (((List.perm_middle (a := (oX1 ty (w0.2 5).1.1 (w0.2 5).1.2 (w0.2 5).2 : va_W)) (l₁ := ([oXA ty h0 aa0 w0, oCB ty (w0.2 0), oCB ty (w0.2 1), oCB ty (w0.2 2), oCB ty (w0.2 3), oCB ty (w0.2 4)] : List va_W)) (l₂ := ([oCB ty (w0.2 6), oCB ty (w0.2 7), oCB ty (w0.2 8), oCB ty (w0.2 9), oX1 ty h11 a11 z11] : List va_W))).trans (List.Perm.cons _ (List.perm_middle (a := (oX1 ty h11 a11 z11 : va_W)) (l₁ := ([oXA ty h0 aa0 w0, oCB ty (w0.2 0), oCB ty (w0.2 1), oCB ty (w0.2 2), oCB ty (w0.2 3), oCB ty (w0.2 4), oCB ty (w0.2 6), oCB ty (w0.2 7), oCB ty (w0.2 8), oCB ty (w0.2 9)] : List va_W)) (l₂ := ([] : List va_W))))) : List.Perm ([oXA ty h0 aa0 w0, oCB ty (w0.2 0), oCB ty (w0.2 1), oCB ty (w0.2 2), oCB ty (w0.2 3), oCB ty (w0.2 4), oX1 ty (w0.2 5).1.1 (w0.2 5).1.2 (w0.2 5).2, oCB ty (w0.2 6), oCB ty (w0.2 7), oCB ty (w0.2 8), oCB ty (w0.2 9), oX1 ty h11 a11 z11] : List va_W) ([oX1 ty (w0.2 5).1.1 (w0.2 5).1.2 (w0.2 5).2, oX1 ty h11 a11 z11, oXA ty h0 aa0 w0, oCB ty (w0.2 0), oCB ty (w0.2 1), oCB ty (w0.2 2), oCB ty (w0.2 3), oCB ty (w0.2 4), oCB ty (w0.2 6), oCB ty (w0.2 7), oCB ty (w0.2 8), oCB ty (w0.2 9)] : List va_W))
      refine cv_call (os := [oXA ty h0 aa0 w0, oCB ty (w0.2 0), oCB ty (w0.2 1), oCB ty (w0.2 2), oCB ty (w0.2 3), oCB ty (w0.2 4), oX1 ty (w0.2 5).1.1 (w0.2 5).1.2 (w0.2 5).2, oCB ty (w0.2 6), oCB ty (w0.2 7), oCB ty (w0.2 8), oCB ty (w0.2 9), oX1 ty h11 a11 z11]) (oc := [oX1 ty (w0.2 5).1.1 (w0.2 5).1.2 (w0.2 5).2, oX1 ty h11 a11 z11]) (oc' := [oX1 ty (w0.2 5).1.1 (w0.2 5).1.2 g16, oX1 ty h11 a11 z11]) (or_ := [oXA ty h0 aa0 w0, oCB ty (w0.2 0), oCB ty (w0.2 1), oCB ty (w0.2 2), oCB ty (w0.2 3), oCB ty (w0.2 4), oCB ty (w0.2 6), oCB ty (w0.2 7), oCB ty (w0.2 8), oCB ty (w0.2 9)]) (os' := [oXA ty h0 aa0 w0, oCB ty (w0.2 0), oCB ty (w0.2 1), oCB ty (w0.2 2), oCB ty (w0.2 3), oCB ty (w0.2 4), oX1 ty (w0.2 5).1.1 (w0.2 5).1.2 g16, oCB ty (w0.2 6), oCB ty (w0.2 7), oCB ty (w0.2 8), oCB ty (w0.2 9), oX1 ty h11 a11 z11]) (va_runV (As := [.ref h11]) (rest := []) F (c_X1_copyRings l D ty (w0.2 5).1.1 (w0.2 5).1.2 h11 a11 _ _ _ hv _) (cwV 1 F.2.2.2.2 gX0_add_X1_copyRings rfl rfl rfl ⟨rfl, hd_X1_copyRings⟩ ⟨Nat.le_of_ble_eq_true rfl, Nat.le_of_ble_eq_true rfl⟩) (pre_v hK hP hD hp1 rfl rfl rfl) rfl rfl hl.1 rfl (lv_room (Nat.le_of_ble_eq_true rfl)) dX0_add_23 ⟨Nat.zero_le _, Nat.zero_le _⟩) hp1 (((List.perm_middle (a := (oXA ty h0 aa0 w0 : va_W)) (l₁ := ([oX1 ty (w0.2 5).1.1 (w0.2 5).1.2 g16, oX1 ty h11 a11 z11] : List va_W)) (l₂ := ([oCB ty (w0.2 0), oCB ty (w0.2 1), oCB ty (w0.2 2), oCB ty (w0.2 3), oCB ty (w0.2 4), oCB ty (w0.2 6), oCB ty (w0.2 7), oCB ty (w0.2 8), oCB ty (w0.2 9)] : List va_W))).trans (List.Perm.cons _ ((List.perm_middle (a := (oCB ty (w0.2 0) : va_W)) (l₁ := ([oX1 ty (w0.2 5).1.1 (w0.2 5).1.2 g16, oX1 ty h11 a11 z11] : List va_W)) (l₂ := ([oCB ty (w0.2 1), oCB ty (w0.2 2), oCB ty (w0.2 3), oCB ty (w0.2 4), oCB ty (w0.2 6), oCB ty (w0.2 7), oCB ty (w0.2 8), oCB ty (w0.2 9)] : List va_W))).trans (List.Perm.cons _ ((List.perm_middle (a := (oCB ty (w0.2 1) : va_W)) (l₁ := ([oX1 ty (w0.2 5).1.1 (w0.2 5).1.2 g16, oX1 ty h11 a11 z11] : List va_W)) (l₂ := ([oCB ty (w0.2 2), oCB ty (w0.2 3), oCB ty (w0.2 4), oCB ty (w0.2 6), oCB ty (w0.2 7), oCB ty (w0.2 8), oCB ty (w0.2 9)] : List va_W))).trans (List.Perm.cons _ ((List.perm_middle (a := (oCB ty (w0.2 2) : va_W)) (l₁ := ([oX1 ty (w0.2 5).1.1 (w0.2 5).1.2 g16, oX1 ty h11 a11 z11] : List va_W)) (l₂ := ([oCB ty (w0.2 3), oCB ty (w0.2 4), oCB ty (w0.2 6), oCB ty (w0.2 7), oCB ty (w0.2 8), oCB ty (w0.2 9)] : List va_W))).trans (List.Perm.cons _ ((List.perm_middle (a := (oCB ty (w0.2 3) : va_W)) (l₁ := ([oX1 ty (w0.2 5).1.1 (w0.2 5).1.2 g16, oX1 ty h11 a11 z11] : List va_W)) (l₂ := ([oCB ty (w0.2 4), oCB ty (w0.2 6), oCB ty (w0.2 7), oCB ty (w0.2 8), oCB ty (w0.2 9)] : List va_W))).trans (List.Perm.cons _ ((List.perm_middle (a := (oCB ty (w0.2 4) : va_W)) (l₁ := ([oX1 ty (w0.2 5).1.1 (w0.2 5).1.2 g16, oX1 ty h11 a11 z11] : List va_W)) (l₂ := ([oCB ty (w0.2 6), oCB ty (w0.2 7), oCB ty (w0.2 8), oCB ty (w0.2 9)] : List va_W))).trans (List.Perm.cons _ (List.Perm.cons _ ((List.perm_middle (a := (oCB ty (w0.2 6) : va_W)) (l₁ := ([oX1 ty h11 a11 z11] : List va_W)) (l₂ := ([oCB ty (w0.2 7), oCB ty (w0.2 8), oCB ty (w0.2 9)] : List va_W))).trans (List.Perm.cons _ ((List.perm_middle (a := (oCB ty (w0.2 7) : va_W)) (l₁ := ([oX1 ty h11 a11 z11] : List va_W)) (l₂ := ([oCB ty (w0.2 8), oCB ty (w0.2 9)] : List va_W))).trans (List.Perm.cons _ ((List.perm_middle (a := (oCB ty (w0.2 8) : va_W)) (l₁ := ([oX1 ty h11 a11 z11] : List va_W)) (l₂ := ([oCB ty (w0.2 9)] : List va_W))).trans (List.Perm.cons _ (List.perm_middle (a := (oCB ty (w0.2 9) : va_W)) (l₁ := ([oX1 ty h11 a11 z11] : List va_W)) (l₂ := ([] : List va_W)))))))))))))))))))))) : List.Perm ([oX1 ty (w0.2 5).1.1 (w0.2 5).1.2 g16, oX1 ty h11 a11 z11, oXA ty h0 aa0 w0, oCB ty (w0.2 0), oCB ty (w0.2 1), oCB ty (w0.2 2), oCB ty (w0.2 3), oCB ty (w0.2 4), oCB ty (w0.2 6), oCB ty (w0.2 7), oCB ty (w0.2 8), oCB ty (w0.2 9)] : List va_W) ([oXA ty h0 aa0 w0, oCB ty (w0.2 0), oCB ty (w0.2 1), oCB ty (w0.2 2), oCB ty (w0.2 3), oCB ty (w0.2 4), oX1 ty (w0.2 5).1.1 (w0.2 5).1.2 g16, oCB ty (w0.2 6), oCB ty (w0.2 7), oCB ty (w0.2 8), oCB ty (w0.2 9), oX1 ty h11 a11 z11] : List va_W)) hP hD hS hA (fun H locs hP hD hS => ?_)
      clear hp1 hv
      rw [← oXA_up ty h0 aa0 w0 5 g16] at hP hD
      replace hP : va_P D vwC (fl [oXA ty h0 aa0 ((w0.1, pI w0.2 5 ((w0.2 5).1, g16)) : AS), oCB ty (((w0.1, pI w0.2 5 ((w0.2 5).1, g16)) : AS).2 0), oCB ty (((w0.1, pI w0.2 5 ((w0.2 5).1, g16)) : AS).2 1), oCB ty (((w0.1, pI w0.2 5 ((w0.2 5).1, g16)) : AS).2 2), oCB ty (((w0.1, pI w0.2 5 ((w0.2 5).1, g16)) : AS).2 3), oCB ty (((w0.1, pI w0.2 5 ((w0.2 5).1, g16)) : AS).2 4), oCB ty (((w0.1, pI w0.2 5 ((w0.2 5).1, g16)) : AS).2 5), oCB ty (((w0.1, pI w0.2 5 ((w0.2 5).1, g16)) : AS).2 6), oCB ty (((w0.1, pI w0.2 5 ((w0.2 5).1, g16)) : AS).2 7), oCB ty (((w0.1, pI w0.2 5 ((w0.2 5).1, g16)) : AS).2 8), oCB ty (((w0.1, pI w0.2 5 ((w0.2 5).1, g16)) : AS).2 9), oX1 ty h11 a11 z11]) H := hP
      replace hD : va_D A (fl [oXA ty h0 aa0 ((w0.1, pI w0.2 5 ((w0.2 5).1, g16)) : AS), oCB ty (((w0.1, pI w0.2 5 ((w0.2 5).1, g16)) : AS).2 0), oCB ty (((w0.1, pI w0.2 5 ((w0.2 5).1, g16)) : AS).2 1), oCB ty (((w0.1, pI w0.2 5 ((w0.2 5).1, g16)) : AS).2 2), oCB ty (((w0.1, pI w0.2 5 ((w0.2 5).1, g16)) : AS).2 3), oCB ty (((w0.1, pI w0.2 5 ((w0.2 5).1, g16)) : AS).2 4), oCB ty (((w0.1, pI w0.2 5 ((w0.2 5).1, g16)) : AS).2 5), oCB ty (((w0.1, pI w0.2 5 ((w0.2 5).1, g16)) : AS).2 6), oCB ty (((w0.1, pI w0.2 5 ((w0.2 5).1, g16)) : AS).2 7), oCB ty (((w0.1, pI w0.2 5 ((w0.2 5).1, g16)) : AS).2 8), oCB ty (((w0.1, pI w0.2 5 ((w0.2 5).1, g16)) : AS).2 9), oX1 ty h11 a11 z11]) := hD
      obtain ⟨g17, ex⟩ : ∃ y : AS, y = ((w0.1, pI w0.2 5 ((w0.2 5).1, g16)) : AS) := ⟨_, rfl⟩
      replace hf := bnd_at hf ex; rw [← ex] at hP hD; clear ex
      refine lv_aload_n hx hb dX0_add_26 rfl (lv_at hl 0 rfl) ?_
      refine lv_dup hx hb dX0_add_27 rfl ?_
      refine va_get (D := D) (ci := 0) (C := RX0) (T := TX0) (N := 2) hx hb F.2.2.2.2 in_X0_add_X0 F.2.2.2.1 hK.1 hP 0 rfl rfl 1 (Nat.le_of_ble_eq_true rfl) (F.2.2.2.2 (.fieldLink RX0 18 "LouderRoom$Acts" "count" "I") (List.mem_of_getElem? (i := 1) rfl)) (fun _ h9 => h9) rfl dX0_add_28 ?_
      refine lv_iconst (v := (1 : Int32)) hx hb dX0_add_31 (by decide) ?_
      refine lv_iadd hx hb dX0_add_32 ?_
      refine pt_put (D := D) (ci := 0) (fty := .int) (C := RX0) (T := TX0) (N := 2) (w1 := fl [oXA ty h0 aa0 (((g17.1 + (1 : Int32)), g17.2) : AS), oCB ty ((((g17.1 + (1 : Int32)), g17.2) : AS).2 0), oCB ty ((((g17.1 + (1 : Int32)), g17.2) : AS).2 1), oCB ty ((((g17.1 + (1 : Int32)), g17.2) : AS).2 2), oCB ty ((((g17.1 + (1 : Int32)), g17.2) : AS).2 3), oCB ty ((((g17.1 + (1 : Int32)), g17.2) : AS).2 4), oCB ty ((((g17.1 + (1 : Int32)), g17.2) : AS).2 5), oCB ty ((((g17.1 + (1 : Int32)), g17.2) : AS).2 6), oCB ty ((((g17.1 + (1 : Int32)), g17.2) : AS).2 7), oCB ty ((((g17.1 + (1 : Int32)), g17.2) : AS).2 8), oCB ty ((((g17.1 + (1 : Int32)), g17.2) : AS).2 9), oX1 ty h11 a11 z11]) F in_X0_add_X0 tyX0 tyX0_ok nmX0 hK.1 hP hD hS 0 rfl rfl 1 (Nat.le_of_ble_eq_true rfl) (F.2.2.2.2 (.fieldLink RX0 18 "LouderRoom$Acts" "count" "I") (List.mem_of_getElem? (i := 1) rfl)) (fun _ h9 => h9) rfl (by decide +kernel) rfl rfl (Nat.le_of_ble_eq_true rfl) rfl dX0_add_33 (fun H locs hP hD hS => ?_)
      obtain ⟨g18, ex⟩ : ∃ y : AS, y = (((g17.1 + (1 : Int32)), g17.2) : AS) := ⟨_, rfl⟩
      replace hf := bnd_at hf ex; rw [← ex] at hP hD; clear ex
      obtain hf := hf
      have e0 := Option.some.inj hf
      rw [e0] at hP hD
      exact CX_v F hr hlk hP hD hS dX0_add_36
    replace hf := ite_f hf hc5
    by_cases hc6 : w0.1 = (6 : Int32)
    · replace hf := ite_t hf hc6
      refine W.eq (g2 := F0 m 22 ls [.ref (w0.2 6).1.1]) (by rw [hc6]; rfl) ?_
      refine lv_aload_n hx hb dX0_add_22 rfl (lv_at hl 1 rfl) ?_
      obtain ⟨g19, hv, hf⟩ := obd hf
      have hp1 : List.Perm [oXA ty h0 aa0 w0, oCB ty (w0.2 0), oCB ty (w0.2 1), oCB ty (w0.2 2), oCB ty (w0.2 3), oCB ty (w0.2 4), oCB ty (w0.2 5), oX1 ty (w0.2 6).1.1 (w0.2 6).1.2 (w0.2 6).2, oCB ty (w0.2 7), oCB ty (w0.2 8), oCB ty (w0.2 9), oX1 ty h11 a11 z11] ([oX1 ty (w0.2 6).1.1 (w0.2 6).1.2 (w0.2 6).2, oX1 ty h11 a11 z11] ++ [oXA ty h0 aa0 w0, oCB ty (w0.2 0), oCB ty (w0.2 1), oCB ty (w0.2 2), oCB ty (w0.2 3), oCB ty (w0.2 4), oCB ty (w0.2 5), oCB ty (w0.2 7), oCB ty (w0.2 8), oCB ty (w0.2 9)]) := (((List.perm_middle (a := (oX1 ty (w0.2 6).1.1 (w0.2 6).1.2 (w0.2 6).2 : va_W)) (l₁ := ([oXA ty h0 aa0 w0, oCB ty (w0.2 0), oCB ty (w0.2 1), oCB ty (w0.2 2), oCB ty (w0.2 3), oCB ty (w0.2 4), oCB ty (w0.2 5)] : List va_W)) (l₂ := ([oCB ty (w0.2 7), oCB ty (w0.2 8), oCB ty (w0.2 9), oX1 ty h11 a11 z11] : List va_W))).trans (List.Perm.cons _ (List.perm_middle (a := (oX1 ty h11 a11 z11 : va_W)) (l₁ := ([oXA ty h0 aa0 w0, oCB ty (w0.2 0), oCB ty (w0.2 1), oCB ty (w0.2 2), oCB ty (w0.2 3), oCB ty (w0.2 4), oCB ty (w0.2 5), oCB ty (w0.2 7), oCB ty (w0.2 8), oCB ty (w0.2 9)] : List va_W)) (l₂ := ([] : List va_W))))) : List.Perm ([oXA ty h0 aa0 w0, oCB ty (w0.2 0), oCB ty (w0.2 1), oCB ty (w0.2 2), oCB ty (w0.2 3), oCB ty (w0.2 4), oCB ty (w0.2 5), oX1 ty (w0.2 6).1.1 (w0.2 6).1.2 (w0.2 6).2, oCB ty (w0.2 7), oCB ty (w0.2 8), oCB ty (w0.2 9), oX1 ty h11 a11 z11] : List va_W) ([oX1 ty (w0.2 6).1.1 (w0.2 6).1.2 (w0.2 6).2, oX1 ty h11 a11 z11, oXA ty h0 aa0 w0, oCB ty (w0.2 0), oCB ty (w0.2 1), oCB ty (w0.2 2), oCB ty (w0.2 3), oCB ty (w0.2 4), oCB ty (w0.2 5), oCB ty (w0.2 7), oCB ty (w0.2 8), oCB ty (w0.2 9)] : List va_W))
      refine cv_call (os := [oXA ty h0 aa0 w0, oCB ty (w0.2 0), oCB ty (w0.2 1), oCB ty (w0.2 2), oCB ty (w0.2 3), oCB ty (w0.2 4), oCB ty (w0.2 5), oX1 ty (w0.2 6).1.1 (w0.2 6).1.2 (w0.2 6).2, oCB ty (w0.2 7), oCB ty (w0.2 8), oCB ty (w0.2 9), oX1 ty h11 a11 z11]) (oc := [oX1 ty (w0.2 6).1.1 (w0.2 6).1.2 (w0.2 6).2, oX1 ty h11 a11 z11]) (oc' := [oX1 ty (w0.2 6).1.1 (w0.2 6).1.2 g19, oX1 ty h11 a11 z11]) (or_ := [oXA ty h0 aa0 w0, oCB ty (w0.2 0), oCB ty (w0.2 1), oCB ty (w0.2 2), oCB ty (w0.2 3), oCB ty (w0.2 4), oCB ty (w0.2 5), oCB ty (w0.2 7), oCB ty (w0.2 8), oCB ty (w0.2 9)]) (os' := [oXA ty h0 aa0 w0, oCB ty (w0.2 0), oCB ty (w0.2 1), oCB ty (w0.2 2), oCB ty (w0.2 3), oCB ty (w0.2 4), oCB ty (w0.2 5), oX1 ty (w0.2 6).1.1 (w0.2 6).1.2 g19, oCB ty (w0.2 7), oCB ty (w0.2 8), oCB ty (w0.2 9), oX1 ty h11 a11 z11]) (va_runV (As := [.ref h11]) (rest := []) F (c_X1_copyRings l D ty (w0.2 6).1.1 (w0.2 6).1.2 h11 a11 _ _ _ hv _) (cwV 1 F.2.2.2.2 gX0_add_X1_copyRings rfl rfl rfl ⟨rfl, hd_X1_copyRings⟩ ⟨Nat.le_of_ble_eq_true rfl, Nat.le_of_ble_eq_true rfl⟩) (pre_v hK hP hD hp1 rfl rfl rfl) rfl rfl hl.1 rfl (lv_room (Nat.le_of_ble_eq_true rfl)) dX0_add_23 ⟨Nat.zero_le _, Nat.zero_le _⟩) hp1 (((List.perm_middle (a := (oXA ty h0 aa0 w0 : va_W)) (l₁ := ([oX1 ty (w0.2 6).1.1 (w0.2 6).1.2 g19, oX1 ty h11 a11 z11] : List va_W)) (l₂ := ([oCB ty (w0.2 0), oCB ty (w0.2 1), oCB ty (w0.2 2), oCB ty (w0.2 3), oCB ty (w0.2 4), oCB ty (w0.2 5), oCB ty (w0.2 7), oCB ty (w0.2 8), oCB ty (w0.2 9)] : List va_W))).trans (List.Perm.cons _ ((List.perm_middle (a := (oCB ty (w0.2 0) : va_W)) (l₁ := ([oX1 ty (w0.2 6).1.1 (w0.2 6).1.2 g19, oX1 ty h11 a11 z11] : List va_W)) (l₂ := ([oCB ty (w0.2 1), oCB ty (w0.2 2), oCB ty (w0.2 3), oCB ty (w0.2 4), oCB ty (w0.2 5), oCB ty (w0.2 7), oCB ty (w0.2 8), oCB ty (w0.2 9)] : List va_W))).trans (List.Perm.cons _ ((List.perm_middle (a := (oCB ty (w0.2 1) : va_W)) (l₁ := ([oX1 ty (w0.2 6).1.1 (w0.2 6).1.2 g19, oX1 ty h11 a11 z11] : List va_W)) (l₂ := ([oCB ty (w0.2 2), oCB ty (w0.2 3), oCB ty (w0.2 4), oCB ty (w0.2 5), oCB ty (w0.2 7), oCB ty (w0.2 8), oCB ty (w0.2 9)] : List va_W))).trans (List.Perm.cons _ ((List.perm_middle (a := (oCB ty (w0.2 2) : va_W)) (l₁ := ([oX1 ty (w0.2 6).1.1 (w0.2 6).1.2 g19, oX1 ty h11 a11 z11] : List va_W)) (l₂ := ([oCB ty (w0.2 3), oCB ty (w0.2 4), oCB ty (w0.2 5), oCB ty (w0.2 7), oCB ty (w0.2 8), oCB ty (w0.2 9)] : List va_W))).trans (List.Perm.cons _ ((List.perm_middle (a := (oCB ty (w0.2 3) : va_W)) (l₁ := ([oX1 ty (w0.2 6).1.1 (w0.2 6).1.2 g19, oX1 ty h11 a11 z11] : List va_W)) (l₂ := ([oCB ty (w0.2 4), oCB ty (w0.2 5), oCB ty (w0.2 7), oCB ty (w0.2 8), oCB ty (w0.2 9)] : List va_W))).trans (List.Perm.cons _ ((List.perm_middle (a := (oCB ty (w0.2 4) : va_W)) (l₁ := ([oX1 ty (w0.2 6).1.1 (w0.2 6).1.2 g19, oX1 ty h11 a11 z11] : List va_W)) (l₂ := ([oCB ty (w0.2 5), oCB ty (w0.2 7), oCB ty (w0.2 8), oCB ty (w0.2 9)] : List va_W))).trans (List.Perm.cons _ ((List.perm_middle (a := (oCB ty (w0.2 5) : va_W)) (l₁ := ([oX1 ty (w0.2 6).1.1 (w0.2 6).1.2 g19, oX1 ty h11 a11 z11] : List va_W)) (l₂ := ([oCB ty (w0.2 7), oCB ty (w0.2 8), oCB ty (w0.2 9)] : List va_W))).trans (List.Perm.cons _ (List.Perm.cons _ ((List.perm_middle (a := (oCB ty (w0.2 7) : va_W)) (l₁ := ([oX1 ty h11 a11 z11] : List va_W)) (l₂ := ([oCB ty (w0.2 8), oCB ty (w0.2 9)] : List va_W))).trans (List.Perm.cons _ ((List.perm_middle (a := (oCB ty (w0.2 8) : va_W)) (l₁ := ([oX1 ty h11 a11 z11] : List va_W)) (l₂ := ([oCB ty (w0.2 9)] : List va_W))).trans (List.Perm.cons _ (List.perm_middle (a := (oCB ty (w0.2 9) : va_W)) (l₁ := ([oX1 ty h11 a11 z11] : List va_W)) (l₂ := ([] : List va_W)))))))))))))))))))))) : List.Perm ([oX1 ty (w0.2 6).1.1 (w0.2 6).1.2 g19, oX1 ty h11 a11 z11, oXA ty h0 aa0 w0, oCB ty (w0.2 0), oCB ty (w0.2 1), oCB ty (w0.2 2), oCB ty (w0.2 3), oCB ty (w0.2 4), oCB ty (w0.2 5), oCB ty (w0.2 7), oCB ty (w0.2 8), oCB ty (w0.2 9)] : List va_W) ([oXA ty h0 aa0 w0, oCB ty (w0.2 0), oCB ty (w0.2 1), oCB ty (w0.2 2), oCB ty (w0.2 3), oCB ty (w0.2 4), oCB ty (w0.2 5), oX1 ty (w0.2 6).1.1 (w0.2 6).1.2 g19, oCB ty (w0.2 7), oCB ty (w0.2 8), oCB ty (w0.2 9), oX1 ty h11 a11 z11] : List va_W)) hP hD hS hA (fun H locs hP hD hS => ?_)
      clear hp1 hv
      rw [← oXA_up ty h0 aa0 w0 6 g19] at hP hD
      replace hP : va_P D vwC (fl [oXA ty h0 aa0 ((w0.1, pI w0.2 6 ((w0.2 6).1, g19)) : AS), oCB ty (((w0.1, pI w0.2 6 ((w0.2 6).1, g19)) : AS).2 0), oCB ty (((w0.1, pI w0.2 6 ((w0.2 6).1, g19)) : AS).2 1), oCB ty (((w0.1, pI w0.2 6 ((w0.2 6).1, g19)) : AS).2 2), oCB ty (((w0.1, pI w0.2 6 ((w0.2 6).1, g19)) : AS).2 3), oCB ty (((w0.1, pI w0.2 6 ((w0.2 6).1, g19)) : AS).2 4), oCB ty (((w0.1, pI w0.2 6 ((w0.2 6).1, g19)) : AS).2 5), oCB ty (((w0.1, pI w0.2 6 ((w0.2 6).1, g19)) : AS).2 6), oCB ty (((w0.1, pI w0.2 6 ((w0.2 6).1, g19)) : AS).2 7), oCB ty (((w0.1, pI w0.2 6 ((w0.2 6).1, g19)) : AS).2 8), oCB ty (((w0.1, pI w0.2 6 ((w0.2 6).1, g19)) : AS).2 9), oX1 ty h11 a11 z11]) H := hP
      replace hD : va_D A (fl [oXA ty h0 aa0 ((w0.1, pI w0.2 6 ((w0.2 6).1, g19)) : AS), oCB ty (((w0.1, pI w0.2 6 ((w0.2 6).1, g19)) : AS).2 0), oCB ty (((w0.1, pI w0.2 6 ((w0.2 6).1, g19)) : AS).2 1), oCB ty (((w0.1, pI w0.2 6 ((w0.2 6).1, g19)) : AS).2 2), oCB ty (((w0.1, pI w0.2 6 ((w0.2 6).1, g19)) : AS).2 3), oCB ty (((w0.1, pI w0.2 6 ((w0.2 6).1, g19)) : AS).2 4), oCB ty (((w0.1, pI w0.2 6 ((w0.2 6).1, g19)) : AS).2 5), oCB ty (((w0.1, pI w0.2 6 ((w0.2 6).1, g19)) : AS).2 6), oCB ty (((w0.1, pI w0.2 6 ((w0.2 6).1, g19)) : AS).2 7), oCB ty (((w0.1, pI w0.2 6 ((w0.2 6).1, g19)) : AS).2 8), oCB ty (((w0.1, pI w0.2 6 ((w0.2 6).1, g19)) : AS).2 9), oX1 ty h11 a11 z11]) := hD
      obtain ⟨g20, ex⟩ : ∃ y : AS, y = ((w0.1, pI w0.2 6 ((w0.2 6).1, g19)) : AS) := ⟨_, rfl⟩
      replace hf := bnd_at hf ex; rw [← ex] at hP hD; clear ex
      refine lv_aload_n hx hb dX0_add_26 rfl (lv_at hl 0 rfl) ?_
      refine lv_dup hx hb dX0_add_27 rfl ?_
      refine va_get (D := D) (ci := 0) (C := RX0) (T := TX0) (N := 2) hx hb F.2.2.2.2 in_X0_add_X0 F.2.2.2.1 hK.1 hP 0 rfl rfl 1 (Nat.le_of_ble_eq_true rfl) (F.2.2.2.2 (.fieldLink RX0 18 "LouderRoom$Acts" "count" "I") (List.mem_of_getElem? (i := 1) rfl)) (fun _ h9 => h9) rfl dX0_add_28 ?_
      refine lv_iconst (v := (1 : Int32)) hx hb dX0_add_31 (by decide) ?_
      refine lv_iadd hx hb dX0_add_32 ?_
      refine pt_put (D := D) (ci := 0) (fty := .int) (C := RX0) (T := TX0) (N := 2) (w1 := fl [oXA ty h0 aa0 (((g20.1 + (1 : Int32)), g20.2) : AS), oCB ty ((((g20.1 + (1 : Int32)), g20.2) : AS).2 0), oCB ty ((((g20.1 + (1 : Int32)), g20.2) : AS).2 1), oCB ty ((((g20.1 + (1 : Int32)), g20.2) : AS).2 2), oCB ty ((((g20.1 + (1 : Int32)), g20.2) : AS).2 3), oCB ty ((((g20.1 + (1 : Int32)), g20.2) : AS).2 4), oCB ty ((((g20.1 + (1 : Int32)), g20.2) : AS).2 5), oCB ty ((((g20.1 + (1 : Int32)), g20.2) : AS).2 6), oCB ty ((((g20.1 + (1 : Int32)), g20.2) : AS).2 7), oCB ty ((((g20.1 + (1 : Int32)), g20.2) : AS).2 8), oCB ty ((((g20.1 + (1 : Int32)), g20.2) : AS).2 9), oX1 ty h11 a11 z11]) F in_X0_add_X0 tyX0 tyX0_ok nmX0 hK.1 hP hD hS 0 rfl rfl 1 (Nat.le_of_ble_eq_true rfl) (F.2.2.2.2 (.fieldLink RX0 18 "LouderRoom$Acts" "count" "I") (List.mem_of_getElem? (i := 1) rfl)) (fun _ h9 => h9) rfl (by decide +kernel) rfl rfl (Nat.le_of_ble_eq_true rfl) rfl dX0_add_33 (fun H locs hP hD hS => ?_)
      obtain ⟨g21, ex⟩ : ∃ y : AS, y = (((g20.1 + (1 : Int32)), g20.2) : AS) := ⟨_, rfl⟩
      replace hf := bnd_at hf ex; rw [← ex] at hP hD; clear ex
      obtain hf := hf
      have e0 := Option.some.inj hf
      rw [e0] at hP hD
      exact CX_v F hr hlk hP hD hS dX0_add_36
    replace hf := ite_f hf hc6
    by_cases hc7 : w0.1 = (7 : Int32)
    · replace hf := ite_t hf hc7
      refine W.eq (g2 := F0 m 22 ls [.ref (w0.2 7).1.1]) (by rw [hc7]; rfl) ?_
      refine lv_aload_n hx hb dX0_add_22 rfl (lv_at hl 1 rfl) ?_
      obtain ⟨g22, hv, hf⟩ := obd hf
      have hp1 : List.Perm [oXA ty h0 aa0 w0, oCB ty (w0.2 0), oCB ty (w0.2 1), oCB ty (w0.2 2), oCB ty (w0.2 3), oCB ty (w0.2 4), oCB ty (w0.2 5), oCB ty (w0.2 6), oX1 ty (w0.2 7).1.1 (w0.2 7).1.2 (w0.2 7).2, oCB ty (w0.2 8), oCB ty (w0.2 9), oX1 ty h11 a11 z11] ([oX1 ty (w0.2 7).1.1 (w0.2 7).1.2 (w0.2 7).2, oX1 ty h11 a11 z11] ++ [oXA ty h0 aa0 w0, oCB ty (w0.2 0), oCB ty (w0.2 1), oCB ty (w0.2 2), oCB ty (w0.2 3), oCB ty (w0.2 4), oCB ty (w0.2 5), oCB ty (w0.2 6), oCB ty (w0.2 8), oCB ty (w0.2 9)]) := (((List.perm_middle (a := (oX1 ty (w0.2 7).1.1 (w0.2 7).1.2 (w0.2 7).2 : va_W)) (l₁ := ([oXA ty h0 aa0 w0, oCB ty (w0.2 0), oCB ty (w0.2 1), oCB ty (w0.2 2), oCB ty (w0.2 3), oCB ty (w0.2 4), oCB ty (w0.2 5), oCB ty (w0.2 6)] : List va_W)) (l₂ := ([oCB ty (w0.2 8), oCB ty (w0.2 9), oX1 ty h11 a11 z11] : List va_W))).trans (List.Perm.cons _ (List.perm_middle (a := (oX1 ty h11 a11 z11 : va_W)) (l₁ := ([oXA ty h0 aa0 w0, oCB ty (w0.2 0), oCB ty (w0.2 1), oCB ty (w0.2 2), oCB ty (w0.2 3), oCB ty (w0.2 4), oCB ty (w0.2 5), oCB ty (w0.2 6), oCB ty (w0.2 8), oCB ty (w0.2 9)] : List va_W)) (l₂ := ([] : List va_W))))) : List.Perm ([oXA ty h0 aa0 w0, oCB ty (w0.2 0), oCB ty (w0.2 1), oCB ty (w0.2 2), oCB ty (w0.2 3), oCB ty (w0.2 4), oCB ty (w0.2 5), oCB ty (w0.2 6), oX1 ty (w0.2 7).1.1 (w0.2 7).1.2 (w0.2 7).2, oCB ty (w0.2 8), oCB ty (w0.2 9), oX1 ty h11 a11 z11] : List va_W) ([oX1 ty (w0.2 7).1.1 (w0.2 7).1.2 (w0.2 7).2, oX1 ty h11 a11 z11, oXA ty h0 aa0 w0, oCB ty (w0.2 0), oCB ty (w0.2 1), oCB ty (w0.2 2), oCB ty (w0.2 3), oCB ty (w0.2 4), oCB ty (w0.2 5), oCB ty (w0.2 6), oCB ty (w0.2 8), oCB ty (w0.2 9)] : List va_W))
      refine cv_call (os := [oXA ty h0 aa0 w0, oCB ty (w0.2 0), oCB ty (w0.2 1), oCB ty (w0.2 2), oCB ty (w0.2 3), oCB ty (w0.2 4), oCB ty (w0.2 5), oCB ty (w0.2 6), oX1 ty (w0.2 7).1.1 (w0.2 7).1.2 (w0.2 7).2, oCB ty (w0.2 8), oCB ty (w0.2 9), oX1 ty h11 a11 z11]) (oc := [oX1 ty (w0.2 7).1.1 (w0.2 7).1.2 (w0.2 7).2, oX1 ty h11 a11 z11]) (oc' := [oX1 ty (w0.2 7).1.1 (w0.2 7).1.2 g22, oX1 ty h11 a11 z11]) (or_ := [oXA ty h0 aa0 w0, oCB ty (w0.2 0), oCB ty (w0.2 1), oCB ty (w0.2 2), oCB ty (w0.2 3), oCB ty (w0.2 4), oCB ty (w0.2 5), oCB ty (w0.2 6), oCB ty (w0.2 8), oCB ty (w0.2 9)]) (os' := [oXA ty h0 aa0 w0, oCB ty (w0.2 0), oCB ty (w0.2 1), oCB ty (w0.2 2), oCB ty (w0.2 3), oCB ty (w0.2 4), oCB ty (w0.2 5), oCB ty (w0.2 6), oX1 ty (w0.2 7).1.1 (w0.2 7).1.2 g22, oCB ty (w0.2 8), oCB ty (w0.2 9), oX1 ty h11 a11 z11]) (va_runV (As := [.ref h11]) (rest := []) F (c_X1_copyRings l D ty (w0.2 7).1.1 (w0.2 7).1.2 h11 a11 _ _ _ hv _) (cwV 1 F.2.2.2.2 gX0_add_X1_copyRings rfl rfl rfl ⟨rfl, hd_X1_copyRings⟩ ⟨Nat.le_of_ble_eq_true rfl, Nat.le_of_ble_eq_true rfl⟩) (pre_v hK hP hD hp1 rfl rfl rfl) rfl rfl hl.1 rfl (lv_room (Nat.le_of_ble_eq_true rfl)) dX0_add_23 ⟨Nat.zero_le _, Nat.zero_le _⟩) hp1 (((List.perm_middle (a := (oXA ty h0 aa0 w0 : va_W)) (l₁ := ([oX1 ty (w0.2 7).1.1 (w0.2 7).1.2 g22, oX1 ty h11 a11 z11] : List va_W)) (l₂ := ([oCB ty (w0.2 0), oCB ty (w0.2 1), oCB ty (w0.2 2), oCB ty (w0.2 3), oCB ty (w0.2 4), oCB ty (w0.2 5), oCB ty (w0.2 6), oCB ty (w0.2 8), oCB ty (w0.2 9)] : List va_W))).trans (List.Perm.cons _ ((List.perm_middle (a := (oCB ty (w0.2 0) : va_W)) (l₁ := ([oX1 ty (w0.2 7).1.1 (w0.2 7).1.2 g22, oX1 ty h11 a11 z11] : List va_W)) (l₂ := ([oCB ty (w0.2 1), oCB ty (w0.2 2), oCB ty (w0.2 3), oCB ty (w0.2 4), oCB ty (w0.2 5), oCB ty (w0.2 6), oCB ty (w0.2 8), oCB ty (w0.2 9)] : List va_W))).trans (List.Perm.cons _ ((List.perm_middle (a := (oCB ty (w0.2 1) : va_W)) (l₁ := ([oX1 ty (w0.2 7).1.1 (w0.2 7).1.2 g22, oX1 ty h11 a11 z11] : List va_W)) (l₂ := ([oCB ty (w0.2 2), oCB ty (w0.2 3), oCB ty (w0.2 4), oCB ty (w0.2 5), oCB ty (w0.2 6), oCB ty (w0.2 8), oCB ty (w0.2 9)] : List va_W))).trans (List.Perm.cons _ ((List.perm_middle (a := (oCB ty (w0.2 2) : va_W)) (l₁ := ([oX1 ty (w0.2 7).1.1 (w0.2 7).1.2 g22, oX1 ty h11 a11 z11] : List va_W)) (l₂ := ([oCB ty (w0.2 3), oCB ty (w0.2 4), oCB ty (w0.2 5), oCB ty (w0.2 6), oCB ty (w0.2 8), oCB ty (w0.2 9)] : List va_W))).trans (List.Perm.cons _ ((List.perm_middle (a := (oCB ty (w0.2 3) : va_W)) (l₁ := ([oX1 ty (w0.2 7).1.1 (w0.2 7).1.2 g22, oX1 ty h11 a11 z11] : List va_W)) (l₂ := ([oCB ty (w0.2 4), oCB ty (w0.2 5), oCB ty (w0.2 6), oCB ty (w0.2 8), oCB ty (w0.2 9)] : List va_W))).trans (List.Perm.cons _ ((List.perm_middle (a := (oCB ty (w0.2 4) : va_W)) (l₁ := ([oX1 ty (w0.2 7).1.1 (w0.2 7).1.2 g22, oX1 ty h11 a11 z11] : List va_W)) (l₂ := ([oCB ty (w0.2 5), oCB ty (w0.2 6), oCB ty (w0.2 8), oCB ty (w0.2 9)] : List va_W))).trans (List.Perm.cons _ ((List.perm_middle (a := (oCB ty (w0.2 5) : va_W)) (l₁ := ([oX1 ty (w0.2 7).1.1 (w0.2 7).1.2 g22, oX1 ty h11 a11 z11] : List va_W)) (l₂ := ([oCB ty (w0.2 6), oCB ty (w0.2 8), oCB ty (w0.2 9)] : List va_W))).trans (List.Perm.cons _ ((List.perm_middle (a := (oCB ty (w0.2 6) : va_W)) (l₁ := ([oX1 ty (w0.2 7).1.1 (w0.2 7).1.2 g22, oX1 ty h11 a11 z11] : List va_W)) (l₂ := ([oCB ty (w0.2 8), oCB ty (w0.2 9)] : List va_W))).trans (List.Perm.cons _ (List.Perm.cons _ ((List.perm_middle (a := (oCB ty (w0.2 8) : va_W)) (l₁ := ([oX1 ty h11 a11 z11] : List va_W)) (l₂ := ([oCB ty (w0.2 9)] : List va_W))).trans (List.Perm.cons _ (List.perm_middle (a := (oCB ty (w0.2 9) : va_W)) (l₁ := ([oX1 ty h11 a11 z11] : List va_W)) (l₂ := ([] : List va_W)))))))))))))))))))))) : List.Perm ([oX1 ty (w0.2 7).1.1 (w0.2 7).1.2 g22, oX1 ty h11 a11 z11, oXA ty h0 aa0 w0, oCB ty (w0.2 0), oCB ty (w0.2 1), oCB ty (w0.2 2), oCB ty (w0.2 3), oCB ty (w0.2 4), oCB ty (w0.2 5), oCB ty (w0.2 6), oCB ty (w0.2 8), oCB ty (w0.2 9)] : List va_W) ([oXA ty h0 aa0 w0, oCB ty (w0.2 0), oCB ty (w0.2 1), oCB ty (w0.2 2), oCB ty (w0.2 3), oCB ty (w0.2 4), oCB ty (w0.2 5), oCB ty (w0.2 6), oX1 ty (w0.2 7).1.1 (w0.2 7).1.2 g22, oCB ty (w0.2 8), oCB ty (w0.2 9), oX1 ty h11 a11 z11] : List va_W)) hP hD hS hA (fun H locs hP hD hS => ?_)
      clear hp1 hv
      rw [← oXA_up ty h0 aa0 w0 7 g22] at hP hD
      replace hP : va_P D vwC (fl [oXA ty h0 aa0 ((w0.1, pI w0.2 7 ((w0.2 7).1, g22)) : AS), oCB ty (((w0.1, pI w0.2 7 ((w0.2 7).1, g22)) : AS).2 0), oCB ty (((w0.1, pI w0.2 7 ((w0.2 7).1, g22)) : AS).2 1), oCB ty (((w0.1, pI w0.2 7 ((w0.2 7).1, g22)) : AS).2 2), oCB ty (((w0.1, pI w0.2 7 ((w0.2 7).1, g22)) : AS).2 3), oCB ty (((w0.1, pI w0.2 7 ((w0.2 7).1, g22)) : AS).2 4), oCB ty (((w0.1, pI w0.2 7 ((w0.2 7).1, g22)) : AS).2 5), oCB ty (((w0.1, pI w0.2 7 ((w0.2 7).1, g22)) : AS).2 6), oCB ty (((w0.1, pI w0.2 7 ((w0.2 7).1, g22)) : AS).2 7), oCB ty (((w0.1, pI w0.2 7 ((w0.2 7).1, g22)) : AS).2 8), oCB ty (((w0.1, pI w0.2 7 ((w0.2 7).1, g22)) : AS).2 9), oX1 ty h11 a11 z11]) H := hP
      replace hD : va_D A (fl [oXA ty h0 aa0 ((w0.1, pI w0.2 7 ((w0.2 7).1, g22)) : AS), oCB ty (((w0.1, pI w0.2 7 ((w0.2 7).1, g22)) : AS).2 0), oCB ty (((w0.1, pI w0.2 7 ((w0.2 7).1, g22)) : AS).2 1), oCB ty (((w0.1, pI w0.2 7 ((w0.2 7).1, g22)) : AS).2 2), oCB ty (((w0.1, pI w0.2 7 ((w0.2 7).1, g22)) : AS).2 3), oCB ty (((w0.1, pI w0.2 7 ((w0.2 7).1, g22)) : AS).2 4), oCB ty (((w0.1, pI w0.2 7 ((w0.2 7).1, g22)) : AS).2 5), oCB ty (((w0.1, pI w0.2 7 ((w0.2 7).1, g22)) : AS).2 6), oCB ty (((w0.1, pI w0.2 7 ((w0.2 7).1, g22)) : AS).2 7), oCB ty (((w0.1, pI w0.2 7 ((w0.2 7).1, g22)) : AS).2 8), oCB ty (((w0.1, pI w0.2 7 ((w0.2 7).1, g22)) : AS).2 9), oX1 ty h11 a11 z11]) := hD
      obtain ⟨g23, ex⟩ : ∃ y : AS, y = ((w0.1, pI w0.2 7 ((w0.2 7).1, g22)) : AS) := ⟨_, rfl⟩
      replace hf := bnd_at hf ex; rw [← ex] at hP hD; clear ex
      refine lv_aload_n hx hb dX0_add_26 rfl (lv_at hl 0 rfl) ?_
      refine lv_dup hx hb dX0_add_27 rfl ?_
      refine va_get (D := D) (ci := 0) (C := RX0) (T := TX0) (N := 2) hx hb F.2.2.2.2 in_X0_add_X0 F.2.2.2.1 hK.1 hP 0 rfl rfl 1 (Nat.le_of_ble_eq_true rfl) (F.2.2.2.2 (.fieldLink RX0 18 "LouderRoom$Acts" "count" "I") (List.mem_of_getElem? (i := 1) rfl)) (fun _ h9 => h9) rfl dX0_add_28 ?_
      refine lv_iconst (v := (1 : Int32)) hx hb dX0_add_31 (by decide) ?_
      refine lv_iadd hx hb dX0_add_32 ?_
      refine pt_put (D := D) (ci := 0) (fty := .int) (C := RX0) (T := TX0) (N := 2) (w1 := fl [oXA ty h0 aa0 (((g23.1 + (1 : Int32)), g23.2) : AS), oCB ty ((((g23.1 + (1 : Int32)), g23.2) : AS).2 0), oCB ty ((((g23.1 + (1 : Int32)), g23.2) : AS).2 1), oCB ty ((((g23.1 + (1 : Int32)), g23.2) : AS).2 2), oCB ty ((((g23.1 + (1 : Int32)), g23.2) : AS).2 3), oCB ty ((((g23.1 + (1 : Int32)), g23.2) : AS).2 4), oCB ty ((((g23.1 + (1 : Int32)), g23.2) : AS).2 5), oCB ty ((((g23.1 + (1 : Int32)), g23.2) : AS).2 6), oCB ty ((((g23.1 + (1 : Int32)), g23.2) : AS).2 7), oCB ty ((((g23.1 + (1 : Int32)), g23.2) : AS).2 8), oCB ty ((((g23.1 + (1 : Int32)), g23.2) : AS).2 9), oX1 ty h11 a11 z11]) F in_X0_add_X0 tyX0 tyX0_ok nmX0 hK.1 hP hD hS 0 rfl rfl 1 (Nat.le_of_ble_eq_true rfl) (F.2.2.2.2 (.fieldLink RX0 18 "LouderRoom$Acts" "count" "I") (List.mem_of_getElem? (i := 1) rfl)) (fun _ h9 => h9) rfl (by decide +kernel) rfl rfl (Nat.le_of_ble_eq_true rfl) rfl dX0_add_33 (fun H locs hP hD hS => ?_)
      obtain ⟨g24, ex⟩ : ∃ y : AS, y = (((g23.1 + (1 : Int32)), g23.2) : AS) := ⟨_, rfl⟩
      replace hf := bnd_at hf ex; rw [← ex] at hP hD; clear ex
      obtain hf := hf
      have e0 := Option.some.inj hf
      rw [e0] at hP hD
      exact CX_v F hr hlk hP hD hS dX0_add_36
    replace hf := ite_f hf hc7
    by_cases hc8 : w0.1 = (8 : Int32)
    · replace hf := ite_t hf hc8
      refine W.eq (g2 := F0 m 22 ls [.ref (w0.2 8).1.1]) (by rw [hc8]; rfl) ?_
      refine lv_aload_n hx hb dX0_add_22 rfl (lv_at hl 1 rfl) ?_
      obtain ⟨g25, hv, hf⟩ := obd hf
      have hp1 : List.Perm [oXA ty h0 aa0 w0, oCB ty (w0.2 0), oCB ty (w0.2 1), oCB ty (w0.2 2), oCB ty (w0.2 3), oCB ty (w0.2 4), oCB ty (w0.2 5), oCB ty (w0.2 6), oCB ty (w0.2 7), oX1 ty (w0.2 8).1.1 (w0.2 8).1.2 (w0.2 8).2, oCB ty (w0.2 9), oX1 ty h11 a11 z11] ([oX1 ty (w0.2 8).1.1 (w0.2 8).1.2 (w0.2 8).2, oX1 ty h11 a11 z11] ++ [oXA ty h0 aa0 w0, oCB ty (w0.2 0), oCB ty (w0.2 1), oCB ty (w0.2 2), oCB ty (w0.2 3), oCB ty (w0.2 4), oCB ty (w0.2 5), oCB ty (w0.2 6), oCB ty (w0.2 7), oCB ty (w0.2 9)]) := (((List.perm_middle (a := (oX1 ty (w0.2 8).1.1 (w0.2 8).1.2 (w0.2 8).2 : va_W)) (l₁ := ([oXA ty h0 aa0 w0, oCB ty (w0.2 0), oCB ty (w0.2 1), oCB ty (w0.2 2), oCB ty (w0.2 3), oCB ty (w0.2 4), oCB ty (w0.2 5), oCB ty (w0.2 6), oCB ty (w0.2 7)] : List va_W)) (l₂ := ([oCB ty (w0.2 9), oX1 ty h11 a11 z11] : List va_W))).trans (List.Perm.cons _ (List.perm_middle (a := (oX1 ty h11 a11 z11 : va_W)) (l₁ := ([oXA ty h0 aa0 w0, oCB ty (w0.2 0), oCB ty (w0.2 1), oCB ty (w0.2 2), oCB ty (w0.2 3), oCB ty (w0.2 4), oCB ty (w0.2 5), oCB ty (w0.2 6), oCB ty (w0.2 7), oCB ty (w0.2 9)] : List va_W)) (l₂ := ([] : List va_W))))) : List.Perm ([oXA ty h0 aa0 w0, oCB ty (w0.2 0), oCB ty (w0.2 1), oCB ty (w0.2 2), oCB ty (w0.2 3), oCB ty (w0.2 4), oCB ty (w0.2 5), oCB ty (w0.2 6), oCB ty (w0.2 7), oX1 ty (w0.2 8).1.1 (w0.2 8).1.2 (w0.2 8).2, oCB ty (w0.2 9), oX1 ty h11 a11 z11] : List va_W) ([oX1 ty (w0.2 8).1.1 (w0.2 8).1.2 (w0.2 8).2, oX1 ty h11 a11 z11, oXA ty h0 aa0 w0, oCB ty (w0.2 0), oCB ty (w0.2 1), oCB ty (w0.2 2), oCB ty (w0.2 3), oCB ty (w0.2 4), oCB ty (w0.2 5), oCB ty (w0.2 6), oCB ty (w0.2 7), oCB ty (w0.2 9)] : List va_W))
      refine cv_call (os := [oXA ty h0 aa0 w0, oCB ty (w0.2 0), oCB ty (w0.2 1), oCB ty (w0.2 2), oCB ty (w0.2 3), oCB ty (w0.2 4), oCB ty (w0.2 5), oCB ty (w0.2 6), oCB ty (w0.2 7), oX1 ty (w0.2 8).1.1 (w0.2 8).1.2 (w0.2 8).2, oCB ty (w0.2 9), oX1 ty h11 a11 z11]) (oc := [oX1 ty (w0.2 8).1.1 (w0.2 8).1.2 (w0.2 8).2, oX1 ty h11 a11 z11]) (oc' := [oX1 ty (w0.2 8).1.1 (w0.2 8).1.2 g25, oX1 ty h11 a11 z11]) (or_ := [oXA ty h0 aa0 w0, oCB ty (w0.2 0), oCB ty (w0.2 1), oCB ty (w0.2 2), oCB ty (w0.2 3), oCB ty (w0.2 4), oCB ty (w0.2 5), oCB ty (w0.2 6), oCB ty (w0.2 7), oCB ty (w0.2 9)]) (os' := [oXA ty h0 aa0 w0, oCB ty (w0.2 0), oCB ty (w0.2 1), oCB ty (w0.2 2), oCB ty (w0.2 3), oCB ty (w0.2 4), oCB ty (w0.2 5), oCB ty (w0.2 6), oCB ty (w0.2 7), oX1 ty (w0.2 8).1.1 (w0.2 8).1.2 g25, oCB ty (w0.2 9), oX1 ty h11 a11 z11]) (va_runV (As := [.ref h11]) (rest := []) F (c_X1_copyRings l D ty (w0.2 8).1.1 (w0.2 8).1.2 h11 a11 _ _ _ hv _) (cwV 1 F.2.2.2.2 gX0_add_X1_copyRings rfl rfl rfl ⟨rfl, hd_X1_copyRings⟩ ⟨Nat.le_of_ble_eq_true rfl, Nat.le_of_ble_eq_true rfl⟩) (pre_v hK hP hD hp1 rfl rfl rfl) rfl rfl hl.1 rfl (lv_room (Nat.le_of_ble_eq_true rfl)) dX0_add_23 ⟨Nat.zero_le _, Nat.zero_le _⟩) hp1 (((List.perm_middle (a := (oXA ty h0 aa0 w0 : va_W)) (l₁ := ([oX1 ty (w0.2 8).1.1 (w0.2 8).1.2 g25, oX1 ty h11 a11 z11] : List va_W)) (l₂ := ([oCB ty (w0.2 0), oCB ty (w0.2 1), oCB ty (w0.2 2), oCB ty (w0.2 3), oCB ty (w0.2 4), oCB ty (w0.2 5), oCB ty (w0.2 6), oCB ty (w0.2 7), oCB ty (w0.2 9)] : List va_W))).trans (List.Perm.cons _ ((List.perm_middle (a := (oCB ty (w0.2 0) : va_W)) (l₁ := ([oX1 ty (w0.2 8).1.1 (w0.2 8).1.2 g25, oX1 ty h11 a11 z11] : List va_W)) (l₂ := ([oCB ty (w0.2 1), oCB ty (w0.2 2), oCB ty (w0.2 3), oCB ty (w0.2 4), oCB ty (w0.2 5), oCB ty (w0.2 6), oCB ty (w0.2 7), oCB ty (w0.2 9)] : List va_W))).trans (List.Perm.cons _ ((List.perm_middle (a := (oCB ty (w0.2 1) : va_W)) (l₁ := ([oX1 ty (w0.2 8).1.1 (w0.2 8).1.2 g25, oX1 ty h11 a11 z11] : List va_W)) (l₂ := ([oCB ty (w0.2 2), oCB ty (w0.2 3), oCB ty (w0.2 4), oCB ty (w0.2 5), oCB ty (w0.2 6), oCB ty (w0.2 7), oCB ty (w0.2 9)] : List va_W))).trans (List.Perm.cons _ ((List.perm_middle (a := (oCB ty (w0.2 2) : va_W)) (l₁ := ([oX1 ty (w0.2 8).1.1 (w0.2 8).1.2 g25, oX1 ty h11 a11 z11] : List va_W)) (l₂ := ([oCB ty (w0.2 3), oCB ty (w0.2 4), oCB ty (w0.2 5), oCB ty (w0.2 6), oCB ty (w0.2 7), oCB ty (w0.2 9)] : List va_W))).trans (List.Perm.cons _ ((List.perm_middle (a := (oCB ty (w0.2 3) : va_W)) (l₁ := ([oX1 ty (w0.2 8).1.1 (w0.2 8).1.2 g25, oX1 ty h11 a11 z11] : List va_W)) (l₂ := ([oCB ty (w0.2 4), oCB ty (w0.2 5), oCB ty (w0.2 6), oCB ty (w0.2 7), oCB ty (w0.2 9)] : List va_W))).trans (List.Perm.cons _ ((List.perm_middle (a := (oCB ty (w0.2 4) : va_W)) (l₁ := ([oX1 ty (w0.2 8).1.1 (w0.2 8).1.2 g25, oX1 ty h11 a11 z11] : List va_W)) (l₂ := ([oCB ty (w0.2 5), oCB ty (w0.2 6), oCB ty (w0.2 7), oCB ty (w0.2 9)] : List va_W))).trans (List.Perm.cons _ ((List.perm_middle (a := (oCB ty (w0.2 5) : va_W)) (l₁ := ([oX1 ty (w0.2 8).1.1 (w0.2 8).1.2 g25, oX1 ty h11 a11 z11] : List va_W)) (l₂ := ([oCB ty (w0.2 6), oCB ty (w0.2 7), oCB ty (w0.2 9)] : List va_W))).trans (List.Perm.cons _ ((List.perm_middle (a := (oCB ty (w0.2 6) : va_W)) (l₁ := ([oX1 ty (w0.2 8).1.1 (w0.2 8).1.2 g25, oX1 ty h11 a11 z11] : List va_W)) (l₂ := ([oCB ty (w0.2 7), oCB ty (w0.2 9)] : List va_W))).trans (List.Perm.cons _ ((List.perm_middle (a := (oCB ty (w0.2 7) : va_W)) (l₁ := ([oX1 ty (w0.2 8).1.1 (w0.2 8).1.2 g25, oX1 ty h11 a11 z11] : List va_W)) (l₂ := ([oCB ty (w0.2 9)] : List va_W))).trans (List.Perm.cons _ (List.Perm.cons _ (List.perm_middle (a := (oCB ty (w0.2 9) : va_W)) (l₁ := ([oX1 ty h11 a11 z11] : List va_W)) (l₂ := ([] : List va_W)))))))))))))))))))))) : List.Perm ([oX1 ty (w0.2 8).1.1 (w0.2 8).1.2 g25, oX1 ty h11 a11 z11, oXA ty h0 aa0 w0, oCB ty (w0.2 0), oCB ty (w0.2 1), oCB ty (w0.2 2), oCB ty (w0.2 3), oCB ty (w0.2 4), oCB ty (w0.2 5), oCB ty (w0.2 6), oCB ty (w0.2 7), oCB ty (w0.2 9)] : List va_W) ([oXA ty h0 aa0 w0, oCB ty (w0.2 0), oCB ty (w0.2 1), oCB ty (w0.2 2), oCB ty (w0.2 3), oCB ty (w0.2 4), oCB ty (w0.2 5), oCB ty (w0.2 6), oCB ty (w0.2 7), oX1 ty (w0.2 8).1.1 (w0.2 8).1.2 g25, oCB ty (w0.2 9), oX1 ty h11 a11 z11] : List va_W)) hP hD hS hA (fun H locs hP hD hS => ?_)
      clear hp1 hv
      rw [← oXA_up ty h0 aa0 w0 8 g25] at hP hD
      replace hP : va_P D vwC (fl [oXA ty h0 aa0 ((w0.1, pI w0.2 8 ((w0.2 8).1, g25)) : AS), oCB ty (((w0.1, pI w0.2 8 ((w0.2 8).1, g25)) : AS).2 0), oCB ty (((w0.1, pI w0.2 8 ((w0.2 8).1, g25)) : AS).2 1), oCB ty (((w0.1, pI w0.2 8 ((w0.2 8).1, g25)) : AS).2 2), oCB ty (((w0.1, pI w0.2 8 ((w0.2 8).1, g25)) : AS).2 3), oCB ty (((w0.1, pI w0.2 8 ((w0.2 8).1, g25)) : AS).2 4), oCB ty (((w0.1, pI w0.2 8 ((w0.2 8).1, g25)) : AS).2 5), oCB ty (((w0.1, pI w0.2 8 ((w0.2 8).1, g25)) : AS).2 6), oCB ty (((w0.1, pI w0.2 8 ((w0.2 8).1, g25)) : AS).2 7), oCB ty (((w0.1, pI w0.2 8 ((w0.2 8).1, g25)) : AS).2 8), oCB ty (((w0.1, pI w0.2 8 ((w0.2 8).1, g25)) : AS).2 9), oX1 ty h11 a11 z11]) H := hP
      replace hD : va_D A (fl [oXA ty h0 aa0 ((w0.1, pI w0.2 8 ((w0.2 8).1, g25)) : AS), oCB ty (((w0.1, pI w0.2 8 ((w0.2 8).1, g25)) : AS).2 0), oCB ty (((w0.1, pI w0.2 8 ((w0.2 8).1, g25)) : AS).2 1), oCB ty (((w0.1, pI w0.2 8 ((w0.2 8).1, g25)) : AS).2 2), oCB ty (((w0.1, pI w0.2 8 ((w0.2 8).1, g25)) : AS).2 3), oCB ty (((w0.1, pI w0.2 8 ((w0.2 8).1, g25)) : AS).2 4), oCB ty (((w0.1, pI w0.2 8 ((w0.2 8).1, g25)) : AS).2 5), oCB ty (((w0.1, pI w0.2 8 ((w0.2 8).1, g25)) : AS).2 6), oCB ty (((w0.1, pI w0.2 8 ((w0.2 8).1, g25)) : AS).2 7), oCB ty (((w0.1, pI w0.2 8 ((w0.2 8).1, g25)) : AS).2 8), oCB ty (((w0.1, pI w0.2 8 ((w0.2 8).1, g25)) : AS).2 9), oX1 ty h11 a11 z11]) := hD
      obtain ⟨g26, ex⟩ : ∃ y : AS, y = ((w0.1, pI w0.2 8 ((w0.2 8).1, g25)) : AS) := ⟨_, rfl⟩
      replace hf := bnd_at hf ex; rw [← ex] at hP hD; clear ex
      refine lv_aload_n hx hb dX0_add_26 rfl (lv_at hl 0 rfl) ?_
      refine lv_dup hx hb dX0_add_27 rfl ?_
      refine va_get (D := D) (ci := 0) (C := RX0) (T := TX0) (N := 2) hx hb F.2.2.2.2 in_X0_add_X0 F.2.2.2.1 hK.1 hP 0 rfl rfl 1 (Nat.le_of_ble_eq_true rfl) (F.2.2.2.2 (.fieldLink RX0 18 "LouderRoom$Acts" "count" "I") (List.mem_of_getElem? (i := 1) rfl)) (fun _ h9 => h9) rfl dX0_add_28 ?_
      refine lv_iconst (v := (1 : Int32)) hx hb dX0_add_31 (by decide) ?_
      refine lv_iadd hx hb dX0_add_32 ?_
      refine pt_put (D := D) (ci := 0) (fty := .int) (C := RX0) (T := TX0) (N := 2) (w1 := fl [oXA ty h0 aa0 (((g26.1 + (1 : Int32)), g26.2) : AS), oCB ty ((((g26.1 + (1 : Int32)), g26.2) : AS).2 0), oCB ty ((((g26.1 + (1 : Int32)), g26.2) : AS).2 1), oCB ty ((((g26.1 + (1 : Int32)), g26.2) : AS).2 2), oCB ty ((((g26.1 + (1 : Int32)), g26.2) : AS).2 3), oCB ty ((((g26.1 + (1 : Int32)), g26.2) : AS).2 4), oCB ty ((((g26.1 + (1 : Int32)), g26.2) : AS).2 5), oCB ty ((((g26.1 + (1 : Int32)), g26.2) : AS).2 6), oCB ty ((((g26.1 + (1 : Int32)), g26.2) : AS).2 7), oCB ty ((((g26.1 + (1 : Int32)), g26.2) : AS).2 8), oCB ty ((((g26.1 + (1 : Int32)), g26.2) : AS).2 9), oX1 ty h11 a11 z11]) F in_X0_add_X0 tyX0 tyX0_ok nmX0 hK.1 hP hD hS 0 rfl rfl 1 (Nat.le_of_ble_eq_true rfl) (F.2.2.2.2 (.fieldLink RX0 18 "LouderRoom$Acts" "count" "I") (List.mem_of_getElem? (i := 1) rfl)) (fun _ h9 => h9) rfl (by decide +kernel) rfl rfl (Nat.le_of_ble_eq_true rfl) rfl dX0_add_33 (fun H locs hP hD hS => ?_)
      obtain ⟨g27, ex⟩ : ∃ y : AS, y = (((g26.1 + (1 : Int32)), g26.2) : AS) := ⟨_, rfl⟩
      replace hf := bnd_at hf ex; rw [← ex] at hP hD; clear ex
      obtain hf := hf
      have e0 := Option.some.inj hf
      rw [e0] at hP hD
      exact CX_v F hr hlk hP hD hS dX0_add_36
    replace hf := ite_f hf hc8
    by_cases hc9 : w0.1 = (9 : Int32)
    · replace hf := ite_t hf hc9
      refine W.eq (g2 := F0 m 22 ls [.ref (w0.2 9).1.1]) (by rw [hc9]; rfl) ?_
      refine lv_aload_n hx hb dX0_add_22 rfl (lv_at hl 1 rfl) ?_
      obtain ⟨g28, hv, hf⟩ := obd hf
      have hp1 : List.Perm [oXA ty h0 aa0 w0, oCB ty (w0.2 0), oCB ty (w0.2 1), oCB ty (w0.2 2), oCB ty (w0.2 3), oCB ty (w0.2 4), oCB ty (w0.2 5), oCB ty (w0.2 6), oCB ty (w0.2 7), oCB ty (w0.2 8), oX1 ty (w0.2 9).1.1 (w0.2 9).1.2 (w0.2 9).2, oX1 ty h11 a11 z11] ([oX1 ty (w0.2 9).1.1 (w0.2 9).1.2 (w0.2 9).2, oX1 ty h11 a11 z11] ++ [oXA ty h0 aa0 w0, oCB ty (w0.2 0), oCB ty (w0.2 1), oCB ty (w0.2 2), oCB ty (w0.2 3), oCB ty (w0.2 4), oCB ty (w0.2 5), oCB ty (w0.2 6), oCB ty (w0.2 7), oCB ty (w0.2 8)]) := (((List.perm_middle (a := (oX1 ty (w0.2 9).1.1 (w0.2 9).1.2 (w0.2 9).2 : va_W)) (l₁ := ([oXA ty h0 aa0 w0, oCB ty (w0.2 0), oCB ty (w0.2 1), oCB ty (w0.2 2), oCB ty (w0.2 3), oCB ty (w0.2 4), oCB ty (w0.2 5), oCB ty (w0.2 6), oCB ty (w0.2 7), oCB ty (w0.2 8)] : List va_W)) (l₂ := ([oX1 ty h11 a11 z11] : List va_W))).trans (List.Perm.cons _ (List.perm_middle (a := (oX1 ty h11 a11 z11 : va_W)) (l₁ := ([oXA ty h0 aa0 w0, oCB ty (w0.2 0), oCB ty (w0.2 1), oCB ty (w0.2 2), oCB ty (w0.2 3), oCB ty (w0.2 4), oCB ty (w0.2 5), oCB ty (w0.2 6), oCB ty (w0.2 7), oCB ty (w0.2 8)] : List va_W)) (l₂ := ([] : List va_W))))) : List.Perm ([oXA ty h0 aa0 w0, oCB ty (w0.2 0), oCB ty (w0.2 1), oCB ty (w0.2 2), oCB ty (w0.2 3), oCB ty (w0.2 4), oCB ty (w0.2 5), oCB ty (w0.2 6), oCB ty (w0.2 7), oCB ty (w0.2 8), oX1 ty (w0.2 9).1.1 (w0.2 9).1.2 (w0.2 9).2, oX1 ty h11 a11 z11] : List va_W) ([oX1 ty (w0.2 9).1.1 (w0.2 9).1.2 (w0.2 9).2, oX1 ty h11 a11 z11, oXA ty h0 aa0 w0, oCB ty (w0.2 0), oCB ty (w0.2 1), oCB ty (w0.2 2), oCB ty (w0.2 3), oCB ty (w0.2 4), oCB ty (w0.2 5), oCB ty (w0.2 6), oCB ty (w0.2 7), oCB ty (w0.2 8)] : List va_W))
      refine cv_call (os := [oXA ty h0 aa0 w0, oCB ty (w0.2 0), oCB ty (w0.2 1), oCB ty (w0.2 2), oCB ty (w0.2 3), oCB ty (w0.2 4), oCB ty (w0.2 5), oCB ty (w0.2 6), oCB ty (w0.2 7), oCB ty (w0.2 8), oX1 ty (w0.2 9).1.1 (w0.2 9).1.2 (w0.2 9).2, oX1 ty h11 a11 z11]) (oc := [oX1 ty (w0.2 9).1.1 (w0.2 9).1.2 (w0.2 9).2, oX1 ty h11 a11 z11]) (oc' := [oX1 ty (w0.2 9).1.1 (w0.2 9).1.2 g28, oX1 ty h11 a11 z11]) (or_ := [oXA ty h0 aa0 w0, oCB ty (w0.2 0), oCB ty (w0.2 1), oCB ty (w0.2 2), oCB ty (w0.2 3), oCB ty (w0.2 4), oCB ty (w0.2 5), oCB ty (w0.2 6), oCB ty (w0.2 7), oCB ty (w0.2 8)]) (os' := [oXA ty h0 aa0 w0, oCB ty (w0.2 0), oCB ty (w0.2 1), oCB ty (w0.2 2), oCB ty (w0.2 3), oCB ty (w0.2 4), oCB ty (w0.2 5), oCB ty (w0.2 6), oCB ty (w0.2 7), oCB ty (w0.2 8), oX1 ty (w0.2 9).1.1 (w0.2 9).1.2 g28, oX1 ty h11 a11 z11]) (va_runV (As := [.ref h11]) (rest := []) F (c_X1_copyRings l D ty (w0.2 9).1.1 (w0.2 9).1.2 h11 a11 _ _ _ hv _) (cwV 1 F.2.2.2.2 gX0_add_X1_copyRings rfl rfl rfl ⟨rfl, hd_X1_copyRings⟩ ⟨Nat.le_of_ble_eq_true rfl, Nat.le_of_ble_eq_true rfl⟩) (pre_v hK hP hD hp1 rfl rfl rfl) rfl rfl hl.1 rfl (lv_room (Nat.le_of_ble_eq_true rfl)) dX0_add_23 ⟨Nat.zero_le _, Nat.zero_le _⟩) hp1 (((List.perm_middle (a := (oXA ty h0 aa0 w0 : va_W)) (l₁ := ([oX1 ty (w0.2 9).1.1 (w0.2 9).1.2 g28, oX1 ty h11 a11 z11] : List va_W)) (l₂ := ([oCB ty (w0.2 0), oCB ty (w0.2 1), oCB ty (w0.2 2), oCB ty (w0.2 3), oCB ty (w0.2 4), oCB ty (w0.2 5), oCB ty (w0.2 6), oCB ty (w0.2 7), oCB ty (w0.2 8)] : List va_W))).trans (List.Perm.cons _ ((List.perm_middle (a := (oCB ty (w0.2 0) : va_W)) (l₁ := ([oX1 ty (w0.2 9).1.1 (w0.2 9).1.2 g28, oX1 ty h11 a11 z11] : List va_W)) (l₂ := ([oCB ty (w0.2 1), oCB ty (w0.2 2), oCB ty (w0.2 3), oCB ty (w0.2 4), oCB ty (w0.2 5), oCB ty (w0.2 6), oCB ty (w0.2 7), oCB ty (w0.2 8)] : List va_W))).trans (List.Perm.cons _ ((List.perm_middle (a := (oCB ty (w0.2 1) : va_W)) (l₁ := ([oX1 ty (w0.2 9).1.1 (w0.2 9).1.2 g28, oX1 ty h11 a11 z11] : List va_W)) (l₂ := ([oCB ty (w0.2 2), oCB ty (w0.2 3), oCB ty (w0.2 4), oCB ty (w0.2 5), oCB ty (w0.2 6), oCB ty (w0.2 7), oCB ty (w0.2 8)] : List va_W))).trans (List.Perm.cons _ ((List.perm_middle (a := (oCB ty (w0.2 2) : va_W)) (l₁ := ([oX1 ty (w0.2 9).1.1 (w0.2 9).1.2 g28, oX1 ty h11 a11 z11] : List va_W)) (l₂ := ([oCB ty (w0.2 3), oCB ty (w0.2 4), oCB ty (w0.2 5), oCB ty (w0.2 6), oCB ty (w0.2 7), oCB ty (w0.2 8)] : List va_W))).trans (List.Perm.cons _ ((List.perm_middle (a := (oCB ty (w0.2 3) : va_W)) (l₁ := ([oX1 ty (w0.2 9).1.1 (w0.2 9).1.2 g28, oX1 ty h11 a11 z11] : List va_W)) (l₂ := ([oCB ty (w0.2 4), oCB ty (w0.2 5), oCB ty (w0.2 6), oCB ty (w0.2 7), oCB ty (w0.2 8)] : List va_W))).trans (List.Perm.cons _ ((List.perm_middle (a := (oCB ty (w0.2 4) : va_W)) (l₁ := ([oX1 ty (w0.2 9).1.1 (w0.2 9).1.2 g28, oX1 ty h11 a11 z11] : List va_W)) (l₂ := ([oCB ty (w0.2 5), oCB ty (w0.2 6), oCB ty (w0.2 7), oCB ty (w0.2 8)] : List va_W))).trans (List.Perm.cons _ ((List.perm_middle (a := (oCB ty (w0.2 5) : va_W)) (l₁ := ([oX1 ty (w0.2 9).1.1 (w0.2 9).1.2 g28, oX1 ty h11 a11 z11] : List va_W)) (l₂ := ([oCB ty (w0.2 6), oCB ty (w0.2 7), oCB ty (w0.2 8)] : List va_W))).trans (List.Perm.cons _ ((List.perm_middle (a := (oCB ty (w0.2 6) : va_W)) (l₁ := ([oX1 ty (w0.2 9).1.1 (w0.2 9).1.2 g28, oX1 ty h11 a11 z11] : List va_W)) (l₂ := ([oCB ty (w0.2 7), oCB ty (w0.2 8)] : List va_W))).trans (List.Perm.cons _ ((List.perm_middle (a := (oCB ty (w0.2 7) : va_W)) (l₁ := ([oX1 ty (w0.2 9).1.1 (w0.2 9).1.2 g28, oX1 ty h11 a11 z11] : List va_W)) (l₂ := ([oCB ty (w0.2 8)] : List va_W))).trans (List.Perm.cons _ (List.perm_middle (a := (oCB ty (w0.2 8) : va_W)) (l₁ := ([oX1 ty (w0.2 9).1.1 (w0.2 9).1.2 g28, oX1 ty h11 a11 z11] : List va_W)) (l₂ := ([] : List va_W))))))))))))))))))))) : List.Perm ([oX1 ty (w0.2 9).1.1 (w0.2 9).1.2 g28, oX1 ty h11 a11 z11, oXA ty h0 aa0 w0, oCB ty (w0.2 0), oCB ty (w0.2 1), oCB ty (w0.2 2), oCB ty (w0.2 3), oCB ty (w0.2 4), oCB ty (w0.2 5), oCB ty (w0.2 6), oCB ty (w0.2 7), oCB ty (w0.2 8)] : List va_W) ([oXA ty h0 aa0 w0, oCB ty (w0.2 0), oCB ty (w0.2 1), oCB ty (w0.2 2), oCB ty (w0.2 3), oCB ty (w0.2 4), oCB ty (w0.2 5), oCB ty (w0.2 6), oCB ty (w0.2 7), oCB ty (w0.2 8), oX1 ty (w0.2 9).1.1 (w0.2 9).1.2 g28, oX1 ty h11 a11 z11] : List va_W)) hP hD hS hA (fun H locs hP hD hS => ?_)
      clear hp1 hv
      rw [← oXA_up ty h0 aa0 w0 9 g28] at hP hD
      replace hP : va_P D vwC (fl [oXA ty h0 aa0 ((w0.1, pI w0.2 9 ((w0.2 9).1, g28)) : AS), oCB ty (((w0.1, pI w0.2 9 ((w0.2 9).1, g28)) : AS).2 0), oCB ty (((w0.1, pI w0.2 9 ((w0.2 9).1, g28)) : AS).2 1), oCB ty (((w0.1, pI w0.2 9 ((w0.2 9).1, g28)) : AS).2 2), oCB ty (((w0.1, pI w0.2 9 ((w0.2 9).1, g28)) : AS).2 3), oCB ty (((w0.1, pI w0.2 9 ((w0.2 9).1, g28)) : AS).2 4), oCB ty (((w0.1, pI w0.2 9 ((w0.2 9).1, g28)) : AS).2 5), oCB ty (((w0.1, pI w0.2 9 ((w0.2 9).1, g28)) : AS).2 6), oCB ty (((w0.1, pI w0.2 9 ((w0.2 9).1, g28)) : AS).2 7), oCB ty (((w0.1, pI w0.2 9 ((w0.2 9).1, g28)) : AS).2 8), oCB ty (((w0.1, pI w0.2 9 ((w0.2 9).1, g28)) : AS).2 9), oX1 ty h11 a11 z11]) H := hP
      replace hD : va_D A (fl [oXA ty h0 aa0 ((w0.1, pI w0.2 9 ((w0.2 9).1, g28)) : AS), oCB ty (((w0.1, pI w0.2 9 ((w0.2 9).1, g28)) : AS).2 0), oCB ty (((w0.1, pI w0.2 9 ((w0.2 9).1, g28)) : AS).2 1), oCB ty (((w0.1, pI w0.2 9 ((w0.2 9).1, g28)) : AS).2 2), oCB ty (((w0.1, pI w0.2 9 ((w0.2 9).1, g28)) : AS).2 3), oCB ty (((w0.1, pI w0.2 9 ((w0.2 9).1, g28)) : AS).2 4), oCB ty (((w0.1, pI w0.2 9 ((w0.2 9).1, g28)) : AS).2 5), oCB ty (((w0.1, pI w0.2 9 ((w0.2 9).1, g28)) : AS).2 6), oCB ty (((w0.1, pI w0.2 9 ((w0.2 9).1, g28)) : AS).2 7), oCB ty (((w0.1, pI w0.2 9 ((w0.2 9).1, g28)) : AS).2 8), oCB ty (((w0.1, pI w0.2 9 ((w0.2 9).1, g28)) : AS).2 9), oX1 ty h11 a11 z11]) := hD
      obtain ⟨g29, ex⟩ : ∃ y : AS, y = ((w0.1, pI w0.2 9 ((w0.2 9).1, g28)) : AS) := ⟨_, rfl⟩
      replace hf := bnd_at hf ex; rw [← ex] at hP hD; clear ex
      refine lv_aload_n hx hb dX0_add_26 rfl (lv_at hl 0 rfl) ?_
      refine lv_dup hx hb dX0_add_27 rfl ?_
      refine va_get (D := D) (ci := 0) (C := RX0) (T := TX0) (N := 2) hx hb F.2.2.2.2 in_X0_add_X0 F.2.2.2.1 hK.1 hP 0 rfl rfl 1 (Nat.le_of_ble_eq_true rfl) (F.2.2.2.2 (.fieldLink RX0 18 "LouderRoom$Acts" "count" "I") (List.mem_of_getElem? (i := 1) rfl)) (fun _ h9 => h9) rfl dX0_add_28 ?_
      refine lv_iconst (v := (1 : Int32)) hx hb dX0_add_31 (by decide) ?_
      refine lv_iadd hx hb dX0_add_32 ?_
      refine pt_put (D := D) (ci := 0) (fty := .int) (C := RX0) (T := TX0) (N := 2) (w1 := fl [oXA ty h0 aa0 (((g29.1 + (1 : Int32)), g29.2) : AS), oCB ty ((((g29.1 + (1 : Int32)), g29.2) : AS).2 0), oCB ty ((((g29.1 + (1 : Int32)), g29.2) : AS).2 1), oCB ty ((((g29.1 + (1 : Int32)), g29.2) : AS).2 2), oCB ty ((((g29.1 + (1 : Int32)), g29.2) : AS).2 3), oCB ty ((((g29.1 + (1 : Int32)), g29.2) : AS).2 4), oCB ty ((((g29.1 + (1 : Int32)), g29.2) : AS).2 5), oCB ty ((((g29.1 + (1 : Int32)), g29.2) : AS).2 6), oCB ty ((((g29.1 + (1 : Int32)), g29.2) : AS).2 7), oCB ty ((((g29.1 + (1 : Int32)), g29.2) : AS).2 8), oCB ty ((((g29.1 + (1 : Int32)), g29.2) : AS).2 9), oX1 ty h11 a11 z11]) F in_X0_add_X0 tyX0 tyX0_ok nmX0 hK.1 hP hD hS 0 rfl rfl 1 (Nat.le_of_ble_eq_true rfl) (F.2.2.2.2 (.fieldLink RX0 18 "LouderRoom$Acts" "count" "I") (List.mem_of_getElem? (i := 1) rfl)) (fun _ h9 => h9) rfl (by decide +kernel) rfl rfl (Nat.le_of_ble_eq_true rfl) rfl dX0_add_33 (fun H locs hP hD hS => ?_)
      obtain ⟨g30, ex⟩ : ∃ y : AS, y = (((g29.1 + (1 : Int32)), g29.2) : AS) := ⟨_, rfl⟩
      replace hf := bnd_at hf ex; rw [← ex] at hP hD; clear ex
      obtain hf := hf
      have e0 := Option.some.inj hf
      rw [e0] at hP hD
      exact CX_v F hr hlk hP hD hS dX0_add_36
    replace hf := ite_f hf hc9
    cases hf
  refine lv_aload_n hx hb dX0_add_0 rfl (lv_at hl 0 rfl) ?_
  refine va_get (D := D) (ci := 0) (C := RX0) (T := TX0) (N := 2) hx hb F.2.2.2.2 in_X0_add_X0 F.2.2.2.1 hK.1 hP 0 rfl rfl 1 (Nat.le_of_ble_eq_true rfl) (F.2.2.2.2 (.fieldLink RX0 18 "LouderRoom$Acts" "count" "I") (List.mem_of_getElem? (i := 1) rfl)) (fun _ h9 => h9) rfl dX0_add_1 ?_
  refine lv_bipush (v := (10 : Int32)) hx hb dX0_add_4 (by decide) ?_
  refine lv_icmp_lt (tgt := 13) hx hb dX0_add_6 (by decide) (fun hc => ?_) (fun hc => ?_)
  · replace hf := ite_t hf hc
    exact J_13 z0 _ _ _ hP hD hS (lv_sub hl [0, 1] rfl) hf
  · replace hf := ite_f hf hc
    refine lv_aload_n hx hb dX0_add_9 rfl (lv_at hl 0 rfl) ?_
    obtain ⟨g31, hv, hf⟩ := obd hf
    have hp1 : List.Perm [oXA ty h0 aa0 z0, oCB ty (z0.2 0), oCB ty (z0.2 1), oCB ty (z0.2 2), oCB ty (z0.2 3), oCB ty (z0.2 4), oCB ty (z0.2 5), oCB ty (z0.2 6), oCB ty (z0.2 7), oCB ty (z0.2 8), oCB ty (z0.2 9), oX1 ty h11 a11 z11] ([oXA ty h0 aa0 z0, oCB ty (z0.2 0), oCB ty (z0.2 1), oCB ty (z0.2 2), oCB ty (z0.2 3), oCB ty (z0.2 4), oCB ty (z0.2 5), oCB ty (z0.2 6), oCB ty (z0.2 7), oCB ty (z0.2 8), oCB ty (z0.2 9)] ++ [oX1 ty h11 a11 z11]) := (List.Perm.refl _)
    refine cv_call (os := [oXA ty h0 aa0 z0, oCB ty (z0.2 0), oCB ty (z0.2 1), oCB ty (z0.2 2), oCB ty (z0.2 3), oCB ty (z0.2 4), oCB ty (z0.2 5), oCB ty (z0.2 6), oCB ty (z0.2 7), oCB ty (z0.2 8), oCB ty (z0.2 9), oX1 ty h11 a11 z11]) (oc := [oXA ty h0 aa0 z0, oCB ty (z0.2 0), oCB ty (z0.2 1), oCB ty (z0.2 2), oCB ty (z0.2 3), oCB ty (z0.2 4), oCB ty (z0.2 5), oCB ty (z0.2 6), oCB ty (z0.2 7), oCB ty (z0.2 8), oCB ty (z0.2 9)]) (oc' := [oXA ty h0 aa0 g31, oCB ty (g31.2 0), oCB ty (g31.2 1), oCB ty (g31.2 2), oCB ty (g31.2 3), oCB ty (g31.2 4), oCB ty (g31.2 5), oCB ty (g31.2 6), oCB ty (g31.2 7), oCB ty (g31.2 8), oCB ty (g31.2 9)]) (or_ := [oX1 ty h11 a11 z11]) (os' := [oXA ty h0 aa0 g31, oCB ty (g31.2 0), oCB ty (g31.2 1), oCB ty (g31.2 2), oCB ty (g31.2 3), oCB ty (g31.2 4), oCB ty (g31.2 5), oCB ty (g31.2 6), oCB ty (g31.2 7), oCB ty (g31.2 8), oCB ty (g31.2 9), oX1 ty h11 a11 z11]) (va_runV (As := []) (rest := []) F (c_X0_forgetFirst l D ty h0 aa0 _ _ hv _) (cwV 0 F.2.2.2.2 gX0_add_X0_forgetFirst rfl rfl rfl ⟨rfl, hd_X0_forgetFirst⟩ ⟨Nat.le_of_ble_eq_true rfl, Nat.le_of_ble_eq_true rfl⟩) (pre_v (oc := [oXA ty h0 aa0 z0, oCB ty (z0.2 0), oCB ty (z0.2 1), oCB ty (z0.2 2), oCB ty (z0.2 3), oCB ty (z0.2 4), oCB ty (z0.2 5), oCB ty (z0.2 6), oCB ty (z0.2 7), oCB ty (z0.2 8), oCB ty (z0.2 9)]) hK hP hD hp1 rfl rfl rfl) rfl rfl hl.1 rfl (lv_room (Nat.le_of_ble_eq_true rfl)) dX0_add_10 ⟨Nat.zero_le _, Nat.zero_le _⟩) hp1 (List.Perm.refl _) hP hD hS hA (fun H locs hP hD hS => ?_)
    clear hp1 hv
    exact J_13 g31 _ _ _ hP hD hS (lv_sub hl [0, 1] rfl) hf
def f_X0_undoLast (z0 : AS) (z11 : Ob) : Option (AS × Ob) := (if z0.1 ≤ 0 then some (z0, z11) else bnd (((z0.1 - (1 : Int32)), z0.2) : AS) (fun g1 => (if inb g1.1 10 = true then (if g1.1 = (0 : Int32) then (f_X1_copyRings z11 (g1.2 0).2).bind (fun g2 => some (g1, g2)) else (if g1.1 = (1 : Int32) then (f_X1_copyRings z11 (g1.2 1).2).bind (fun g3 => some (g1, g3)) else (if g1.1 = (2 : Int32) then (f_X1_copyRings z11 (g1.2 2).2).bind (fun g4 => some (g1, g4)) else (if g1.1 = (3 : Int32) then (f_X1_copyRings z11 (g1.2 3).2).bind (fun g5 => some (g1, g5)) else (if g1.1 = (4 : Int32) then (f_X1_copyRings z11 (g1.2 4).2).bind (fun g6 => some (g1, g6)) else (if g1.1 = (5 : Int32) then (f_X1_copyRings z11 (g1.2 5).2).bind (fun g7 => some (g1, g7)) else (if g1.1 = (6 : Int32) then (f_X1_copyRings z11 (g1.2 6).2).bind (fun g8 => some (g1, g8)) else (if g1.1 = (7 : Int32) then (f_X1_copyRings z11 (g1.2 7).2).bind (fun g9 => some (g1, g9)) else (if g1.1 = (8 : Int32) then (f_X1_copyRings z11 (g1.2 8).2).bind (fun g10 => some (g1, g10)) else (if g1.1 = (9 : Int32) then (f_X1_copyRings z11 (g1.2 9).2).bind (fun g11 => some (g1, g11)) else none)))))))))) else none)))
abbrev rm_X0_undoLast : Room := { frames := 1, cells := 0, slots := 0, locals := 22 }
theorem hd_X0_undoLast : yX0_undoLast.cls ≠ "java/lang/invoke/MethodHandle" ∧ yX0_undoLast.cls ≠ "java/lang/invoke/VarHandle" ∧ (parseMethodDescriptor yX0_undoLast.desc).map (fun d => d.parameters.length) = some 1 := by decide +kernel
theorem in_X0_undoLast_X0 : ∀ w ∈ wsX00, w ∈ wsX0_undoLast := fun w h => List.mem_cons_of_mem _ (List.mem_append_left _ (List.mem_append_right _ h))
set_option maxHeartbeats 4000000 in
set_option maxRecDepth 100000 in
theorem c_X0_undoLast (l : Launch) (D : va_G) (ty : TY) (h0 : Nat) (aa0 : Nat) (h11 : Nat) (a11 : Nat → Nat) (z0 : AS) (z11 : Ob) (o0 : AS) (o1 : Ob) (hf : f_X0_undoLast z0 z11 = some (o0, o1)) (sz : Nat) : CX l yX0_undoLast wsX0_undoLast rm_X0_undoLast ([.ref h0, .ref h11] : List Value) D ty (fl [oX0 ty h0 aa0 z0, oX1 ty h11 a11 z11]) sz (qV D (fl [oX0 ty h0 aa0 o0, oX1 ty h11 a11 o1])) 0 0 := by
  refine CX_of (cc := cX0_undoLast) (maxL := 2) (ret := none) (C := RX0) (by decide) rfl rfl (Nat.le_of_ble_eq_true rfl) ?_
  intro p e s m below meth c A ls F hr hlk _ hK hP hD hS hA hl
  have hx := F.1
  have hb := F.2.1
  replace hl : lv_has ls 2 [(0, .ref h0), (1, .ref h11)] := hl
  replace hP : va_P D vwC (fl [oXA ty h0 aa0 z0, oCB ty (z0.2 0), oCB ty (z0.2 1), oCB ty (z0.2 2), oCB ty (z0.2 3), oCB ty (z0.2 4), oCB ty (z0.2 5), oCB ty (z0.2 6), oCB ty (z0.2 7), oCB ty (z0.2 8), oCB ty (z0.2 9), oX1 ty h11 a11 z11]) s.heap := hP
  replace hD : va_D A (fl [oXA ty h0 aa0 z0, oCB ty (z0.2 0), oCB ty (z0.2 1), oCB ty (z0.2 2), oCB ty (z0.2 3), oCB ty (z0.2 4), oCB ty (z0.2 5), oCB ty (z0.2 6), oCB ty (z0.2 7), oCB ty (z0.2 8), oCB ty (z0.2 9), oX1 ty h11 a11 z11]) := hD
  unfold f_X0_undoLast at hf
  refine lv_aload_n hx hb dX0_undoLast_0 rfl (lv_at hl 0 rfl) ?_
  refine va_get (D := D) (ci := 0) (C := RX0) (T := TX0) (N := 2) hx hb F.2.2.2.2 in_X0_undoLast_X0 F.2.2.2.1 hK.1 hP 0 rfl rfl 1 (Nat.le_of_ble_eq_true rfl) (F.2.2.2.2 (.fieldLink RX0 18 "LouderRoom$Acts" "count" "I") (List.mem_of_getElem? (i := 1) rfl)) (fun _ h9 => h9) rfl dX0_undoLast_1 ?_
  refine lv_if_le (tgt := 30) hx hb dX0_undoLast_4 (by decide) (fun hc => ?_) (fun hc => ?_)
  · replace hf := ite_t hf hc
    obtain hf := hf
    obtain ⟨e0, e1⟩ := tup2 hf
    rw [e0] at hP hD
    rw [e1] at hP hD
    exact CX_v F hr hlk hP hD hS dX0_undoLast_30
  · replace hf := ite_f hf hc
    refine lv_aload_n hx hb dX0_undoLast_7 rfl (lv_at hl 0 rfl) ?_
    refine lv_dup hx hb dX0_undoLast_8 rfl ?_
    refine va_get (D := D) (ci := 0) (C := RX0) (T := TX0) (N := 2) hx hb F.2.2.2.2 in_X0_undoLast_X0 F.2.2.2.1 hK.1 hP 0 rfl rfl 1 (Nat.le_of_ble_eq_true rfl) (F.2.2.2.2 (.fieldLink RX0 18 "LouderRoom$Acts" "count" "I") (List.mem_of_getElem? (i := 1) rfl)) (fun _ h9 => h9) rfl dX0_undoLast_9 ?_
    refine lv_iconst (v := (1 : Int32)) hx hb dX0_undoLast_12 (by decide) ?_
    refine lv_isub hx hb dX0_undoLast_13 ?_
    refine pt_put (D := D) (ci := 0) (fty := .int) (C := RX0) (T := TX0) (N := 2) (w1 := fl [oXA ty h0 aa0 (((z0.1 - (1 : Int32)), z0.2) : AS), oCB ty ((((z0.1 - (1 : Int32)), z0.2) : AS).2 0), oCB ty ((((z0.1 - (1 : Int32)), z0.2) : AS).2 1), oCB ty ((((z0.1 - (1 : Int32)), z0.2) : AS).2 2), oCB ty ((((z0.1 - (1 : Int32)), z0.2) : AS).2 3), oCB ty ((((z0.1 - (1 : Int32)), z0.2) : AS).2 4), oCB ty ((((z0.1 - (1 : Int32)), z0.2) : AS).2 5), oCB ty ((((z0.1 - (1 : Int32)), z0.2) : AS).2 6), oCB ty ((((z0.1 - (1 : Int32)), z0.2) : AS).2 7), oCB ty ((((z0.1 - (1 : Int32)), z0.2) : AS).2 8), oCB ty ((((z0.1 - (1 : Int32)), z0.2) : AS).2 9), oX1 ty h11 a11 z11]) F in_X0_undoLast_X0 tyX0 tyX0_ok nmX0 hK.1 hP hD hS 0 rfl rfl 1 (Nat.le_of_ble_eq_true rfl) (F.2.2.2.2 (.fieldLink RX0 18 "LouderRoom$Acts" "count" "I") (List.mem_of_getElem? (i := 1) rfl)) (fun _ h9 => h9) rfl (by decide +kernel) rfl rfl (Nat.le_of_ble_eq_true rfl) rfl dX0_undoLast_14 (fun H locs hP hD hS => ?_)
    obtain ⟨g1, ex⟩ : ∃ y : AS, y = (((z0.1 - (1 : Int32)), z0.2) : AS) := ⟨_, rfl⟩
    replace hf := bnd_at hf ex; rw [← ex] at hP hD; clear ex
    refine lv_aload_n hx hb dX0_undoLast_17 rfl (lv_at hl 1 rfl) ?_
    refine lv_aload_n hx hb dX0_undoLast_18 rfl (lv_at hl 0 rfl) ?_
    refine va_get (D := D) (ci := 0) (C := RX0) (T := TX0) (N := 2) hx hb F.2.2.2.2 in_X0_undoLast_X0 F.2.2.2.1 hK.1 hP 0 rfl rfl 0 (Nat.le_of_ble_eq_true rfl) (F.2.2.2.2 (.fieldLink RX0 11 "LouderRoom$Acts" "ahead" "[LLouderRoom$Crowd;") (List.mem_of_getElem? (i := 2) rfl)) (fun _ h9 => h9) rfl dX0_undoLast_19 ?_
    refine lv_aload_n hx hb dX0_undoLast_22 rfl (lv_at hl 0 rfl) ?_
    refine va_get (D := D) (ci := 0) (C := RX0) (T := TX0) (N := 2) hx hb F.2.2.2.2 in_X0_undoLast_X0 F.2.2.2.1 hK.1 hP 0 rfl rfl 1 (Nat.le_of_ble_eq_true rfl) (F.2.2.2.2 (.fieldLink RX0 18 "LouderRoom$Acts" "count" "I") (List.mem_of_getElem? (i := 1) rfl)) (fun _ h9 => h9) rfl dX0_undoLast_23 ?_
    obtain ⟨hi, hf⟩ := grd hf
    refine va_aldq hx hb hK.1 hP 1 3 rfl rfl (inb_in hi) dX0_undoLast_26 ?_
    by_cases hc0 : g1.1 = (0 : Int32)
    · replace hf := ite_t hf hc0
      refine W.eq (g2 := F0 m 27 ls [.ref (g1.2 0).1.1, .ref h11]) (by rw [hc0]; rfl) ?_
      obtain ⟨g2, hv, hf⟩ := obd hf
      have hp1 : List.Perm [oXA ty h0 aa0 g1, oX1 ty (g1.2 0).1.1 (g1.2 0).1.2 (g1.2 0).2, oCB ty (g1.2 1), oCB ty (g1.2 2), oCB ty (g1.2 3), oCB ty (g1.2 4), oCB ty (g1.2 5), oCB ty (g1.2 6), oCB ty (g1.2 7), oCB ty (g1.2 8), oCB ty (g1.2 9), oX1 ty h11 a11 z11] ([oX1 ty h11 a11 z11, oX1 ty (g1.2 0).1.1 (g1.2 0).1.2 (g1.2 0).2] ++ [oXA ty h0 aa0 g1, oCB ty (g1.2 1), oCB ty (g1.2 2), oCB ty (g1.2 3), oCB ty (g1.2 4), oCB ty (g1.2 5), oCB ty (g1.2 6), oCB ty (g1.2 7), oCB ty (g1.2 8), oCB ty (g1.2 9)]) := (((List.perm_middle (a := (oX1 ty h11 a11 z11 : va_W)) (l₁ := ([oXA ty h0 aa0 g1, oX1 ty (g1.2 0).1.1 (g1.2 0).1.2 (g1.2 0).2, oCB ty (g1.2 1), oCB ty (g1.2 2), oCB ty (g1.2 3), oCB ty (g1.2 4), oCB ty (g1.2 5), oCB ty (g1.2 6), oCB ty (g1.2 7), oCB ty (g1.2 8), oCB ty (g1.2 9)] : List va_W)) (l₂ := ([] : List va_W))).trans (List.Perm.cons _ (List.perm_middle (a := (oX1 ty (g1.2 0).1.1 (g1.2 0).1.2 (g1.2 0).2 : va_W)) (l₁ := ([oXA ty h0 aa0 g1] : List va_W)) (l₂ := ([oCB ty (g1.2 1), oCB ty (g1.2 2), oCB ty (g1.2 3), oCB ty (g1.2 4), oCB ty (g1.2 5), oCB ty (g1.2 6), oCB ty (g1.2 7), oCB ty (g1.2 8), oCB ty (g1.2 9)] : List va_W))))) : List.Perm ([oXA ty h0 aa0 g1, oX1 ty (g1.2 0).1.1 (g1.2 0).1.2 (g1.2 0).2, oCB ty (g1.2 1), oCB ty (g1.2 2), oCB ty (g1.2 3), oCB ty (g1.2 4), oCB ty (g1.2 5), oCB ty (g1.2 6), oCB ty (g1.2 7), oCB ty (g1.2 8), oCB ty (g1.2 9), oX1 ty h11 a11 z11] : List va_W) ([oX1 ty h11 a11 z11, oX1 ty (g1.2 0).1.1 (g1.2 0).1.2 (g1.2 0).2, oXA ty h0 aa0 g1, oCB ty (g1.2 1), oCB ty (g1.2 2), oCB ty (g1.2 3), oCB ty (g1.2 4), oCB ty (g1.2 5), oCB ty (g1.2 6), oCB ty (g1.2 7), oCB ty (g1.2 8), oCB ty (g1.2 9)] : List va_W))
      refine cv_call (os := [oXA ty h0 aa0 g1, oX1 ty (g1.2 0).1.1 (g1.2 0).1.2 (g1.2 0).2, oCB ty (g1.2 1), oCB ty (g1.2 2), oCB ty (g1.2 3), oCB ty (g1.2 4), oCB ty (g1.2 5), oCB ty (g1.2 6), oCB ty (g1.2 7), oCB ty (g1.2 8), oCB ty (g1.2 9), oX1 ty h11 a11 z11]) (oc := [oX1 ty h11 a11 z11, oX1 ty (g1.2 0).1.1 (g1.2 0).1.2 (g1.2 0).2]) (oc' := [oX1 ty h11 a11 g2, oX1 ty (g1.2 0).1.1 (g1.2 0).1.2 (g1.2 0).2]) (or_ := [oXA ty h0 aa0 g1, oCB ty (g1.2 1), oCB ty (g1.2 2), oCB ty (g1.2 3), oCB ty (g1.2 4), oCB ty (g1.2 5), oCB ty (g1.2 6), oCB ty (g1.2 7), oCB ty (g1.2 8), oCB ty (g1.2 9)]) (os' := [oXA ty h0 aa0 g1, oX1 ty (g1.2 0).1.1 (g1.2 0).1.2 (g1.2 0).2, oCB ty (g1.2 1), oCB ty (g1.2 2), oCB ty (g1.2 3), oCB ty (g1.2 4), oCB ty (g1.2 5), oCB ty (g1.2 6), oCB ty (g1.2 7), oCB ty (g1.2 8), oCB ty (g1.2 9), oX1 ty h11 a11 g2]) (va_runV (As := [.ref (g1.2 0).1.1]) (rest := []) F (c_X1_copyRings l D ty h11 a11 (g1.2 0).1.1 (g1.2 0).1.2 _ _ _ hv _) (cwV 1 F.2.2.2.2 gX0_undoLast_X1_copyRings rfl rfl rfl ⟨rfl, hd_X1_copyRings⟩ ⟨Nat.le_of_ble_eq_true rfl, Nat.le_of_ble_eq_true rfl⟩) (pre_v hK hP hD hp1 rfl rfl rfl) rfl rfl hl.1 rfl (lv_room (Nat.le_of_ble_eq_true rfl)) dX0_undoLast_27 ⟨Nat.zero_le _, Nat.zero_le _⟩) hp1 (((List.perm_middle (a := (oXA ty h0 aa0 g1 : va_W)) (l₁ := ([oX1 ty h11 a11 g2, oX1 ty (g1.2 0).1.1 (g1.2 0).1.2 (g1.2 0).2] : List va_W)) (l₂ := ([oCB ty (g1.2 1), oCB ty (g1.2 2), oCB ty (g1.2 3), oCB ty (g1.2 4), oCB ty (g1.2 5), oCB ty (g1.2 6), oCB ty (g1.2 7), oCB ty (g1.2 8), oCB ty (g1.2 9)] : List va_W))).trans (List.Perm.cons _ ((List.perm_middle (a := (oX1 ty (g1.2 0).1.1 (g1.2 0).1.2 (g1.2 0).2 : va_W)) (l₁ := ([oX1 ty h11 a11 g2] : List va_W)) (l₂ := ([oCB ty (g1.2 1), oCB ty (g1.2 2), oCB ty (g1.2 3), oCB ty (g1.2 4), oCB ty (g1.2 5), oCB ty (g1.2 6), oCB ty (g1.2 7), oCB ty (g1.2 8), oCB ty (g1.2 9)] : List va_W))).trans (List.Perm.cons _ ((List.perm_middle (a := (oCB ty (g1.2 1) : va_W)) (l₁ := ([oX1 ty h11 a11 g2] : List va_W)) (l₂ := ([oCB ty (g1.2 2), oCB ty (g1.2 3), oCB ty (g1.2 4), oCB ty (g1.2 5), oCB ty (g1.2 6), oCB ty (g1.2 7), oCB ty (g1.2 8), oCB ty (g1.2 9)] : List va_W))).trans (List.Perm.cons _ ((List.perm_middle (a := (oCB ty (g1.2 2) : va_W)) (l₁ := ([oX1 ty h11 a11 g2] : List va_W)) (l₂ := ([oCB ty (g1.2 3), oCB ty (g1.2 4), oCB ty (g1.2 5), oCB ty (g1.2 6), oCB ty (g1.2 7), oCB ty (g1.2 8), oCB ty (g1.2 9)] : List va_W))).trans (List.Perm.cons _ ((List.perm_middle (a := (oCB ty (g1.2 3) : va_W)) (l₁ := ([oX1 ty h11 a11 g2] : List va_W)) (l₂ := ([oCB ty (g1.2 4), oCB ty (g1.2 5), oCB ty (g1.2 6), oCB ty (g1.2 7), oCB ty (g1.2 8), oCB ty (g1.2 9)] : List va_W))).trans (List.Perm.cons _ ((List.perm_middle (a := (oCB ty (g1.2 4) : va_W)) (l₁ := ([oX1 ty h11 a11 g2] : List va_W)) (l₂ := ([oCB ty (g1.2 5), oCB ty (g1.2 6), oCB ty (g1.2 7), oCB ty (g1.2 8), oCB ty (g1.2 9)] : List va_W))).trans (List.Perm.cons _ ((List.perm_middle (a := (oCB ty (g1.2 5) : va_W)) (l₁ := ([oX1 ty h11 a11 g2] : List va_W)) (l₂ := ([oCB ty (g1.2 6), oCB ty (g1.2 7), oCB ty (g1.2 8), oCB ty (g1.2 9)] : List va_W))).trans (List.Perm.cons _ ((List.perm_middle (a := (oCB ty (g1.2 6) : va_W)) (l₁ := ([oX1 ty h11 a11 g2] : List va_W)) (l₂ := ([oCB ty (g1.2 7), oCB ty (g1.2 8), oCB ty (g1.2 9)] : List va_W))).trans (List.Perm.cons _ ((List.perm_middle (a := (oCB ty (g1.2 7) : va_W)) (l₁ := ([oX1 ty h11 a11 g2] : List va_W)) (l₂ := ([oCB ty (g1.2 8), oCB ty (g1.2 9)] : List va_W))).trans (List.Perm.cons _ ((List.perm_middle (a := (oCB ty (g1.2 8) : va_W)) (l₁ := ([oX1 ty h11 a11 g2] : List va_W)) (l₂ := ([oCB ty (g1.2 9)] : List va_W))).trans (List.Perm.cons _ (List.perm_middle (a := (oCB ty (g1.2 9) : va_W)) (l₁ := ([oX1 ty h11 a11 g2] : List va_W)) (l₂ := ([] : List va_W))))))))))))))))))))))) : List.Perm ([oX1 ty h11 a11 g2, oX1 ty (g1.2 0).1.1 (g1.2 0).1.2 (g1.2 0).2, oXA ty h0 aa0 g1, oCB ty (g1.2 1), oCB ty (g1.2 2), oCB ty (g1.2 3), oCB ty (g1.2 4), oCB ty (g1.2 5), oCB ty (g1.2 6), oCB ty (g1.2 7), oCB ty (g1.2 8), oCB ty (g1.2 9)] : List va_W) ([oXA ty h0 aa0 g1, oX1 ty (g1.2 0).1.1 (g1.2 0).1.2 (g1.2 0).2, oCB ty (g1.2 1), oCB ty (g1.2 2), oCB ty (g1.2 3), oCB ty (g1.2 4), oCB ty (g1.2 5), oCB ty (g1.2 6), oCB ty (g1.2 7), oCB ty (g1.2 8), oCB ty (g1.2 9), oX1 ty h11 a11 g2] : List va_W)) hP hD hS hA (fun H locs hP hD hS => ?_)
      clear hp1 hv
      obtain hf := hf
      obtain ⟨e0, e1⟩ := tup2 hf
      rw [e0] at hP hD
      rw [e1] at hP hD
      exact CX_v F hr hlk hP hD hS dX0_undoLast_30
    replace hf := ite_f hf hc0
    by_cases hc1 : g1.1 = (1 : Int32)
    · replace hf := ite_t hf hc1
      refine W.eq (g2 := F0 m 27 ls [.ref (g1.2 1).1.1, .ref h11]) (by rw [hc1]; rfl) ?_
      obtain ⟨g3, hv, hf⟩ := obd hf
      have hp1 : List.Perm [oXA ty h0 aa0 g1, oCB ty (g1.2 0), oX1 ty (g1.2 1).1.1 (g1.2 1).1.2 (g1.2 1).2, oCB ty (g1.2 2), oCB ty (g1.2 3), oCB ty (g1.2 4), oCB ty (g1.2 5), oCB ty (g1.2 6), oCB ty (g1.2 7), oCB ty (g1.2 8), oCB ty (g1.2 9), oX1 ty h11 a11 z11] ([oX1 ty h11 a11 z11, oX1 ty (g1.2 1).1.1 (g1.2 1).1.2 (g1.2 1).2] ++ [oXA ty h0 aa0 g1, oCB ty (g1.2 0), oCB ty (g1.2 2), oCB ty (g1.2 3), oCB ty (g1.2 4), oCB ty (g1.2 5), oCB ty (g1.2 6), oCB ty (g1.2 7), oCB ty (g1.2 8), oCB ty (g1.2 9)]) := (((List.perm_middle (a := (oX1 ty h11 a11 z11 : va_W)) (l₁ := ([oXA ty h0 aa0 g1, oCB ty (g1.2 0), oX1 ty (g1.2 1).1.1 (g1.2 1).1.2 (g1.2 1).2, oCB ty (g1.2 2), oCB ty (g1.2 3), oCB ty (g1.2 4), oCB ty (g1.2 5), oCB ty (g1.2 6), oCB ty (g1.2 7), oCB ty (g1.2 8), oCB ty (g1.2 9)] : List va_W)) (l₂ := ([] : List va_W))).trans (List.Perm.cons _ (List.perm_middle (a := (oX1 ty (g1.2 1).1.1 (g1.2 1).1.2 (g1.2 1).2 : va_W)) (l₁ := ([oXA ty h0 aa0 g1, oCB ty (g1.2 0)] : List va_W)) (l₂ := ([oCB ty (g1.2 2), oCB ty (g1.2 3), oCB ty (g1.2 4), oCB ty (g1.2 5), oCB ty (g1.2 6), oCB ty (g1.2 7), oCB ty (g1.2 8), oCB ty (g1.2 9)] : List va_W))))) : List.Perm ([oXA ty h0 aa0 g1, oCB ty (g1.2 0), oX1 ty (g1.2 1).1.1 (g1.2 1).1.2 (g1.2 1).2, oCB ty (g1.2 2), oCB ty (g1.2 3), oCB ty (g1.2 4), oCB ty (g1.2 5), oCB ty (g1.2 6), oCB ty (g1.2 7), oCB ty (g1.2 8), oCB ty (g1.2 9), oX1 ty h11 a11 z11] : List va_W) ([oX1 ty h11 a11 z11, oX1 ty (g1.2 1).1.1 (g1.2 1).1.2 (g1.2 1).2, oXA ty h0 aa0 g1, oCB ty (g1.2 0), oCB ty (g1.2 2), oCB ty (g1.2 3), oCB ty (g1.2 4), oCB ty (g1.2 5), oCB ty (g1.2 6), oCB ty (g1.2 7), oCB ty (g1.2 8), oCB ty (g1.2 9)] : List va_W))
      refine cv_call (os := [oXA ty h0 aa0 g1, oCB ty (g1.2 0), oX1 ty (g1.2 1).1.1 (g1.2 1).1.2 (g1.2 1).2, oCB ty (g1.2 2), oCB ty (g1.2 3), oCB ty (g1.2 4), oCB ty (g1.2 5), oCB ty (g1.2 6), oCB ty (g1.2 7), oCB ty (g1.2 8), oCB ty (g1.2 9), oX1 ty h11 a11 z11]) (oc := [oX1 ty h11 a11 z11, oX1 ty (g1.2 1).1.1 (g1.2 1).1.2 (g1.2 1).2]) (oc' := [oX1 ty h11 a11 g3, oX1 ty (g1.2 1).1.1 (g1.2 1).1.2 (g1.2 1).2]) (or_ := [oXA ty h0 aa0 g1, oCB ty (g1.2 0), oCB ty (g1.2 2), oCB ty (g1.2 3), oCB ty (g1.2 4), oCB ty (g1.2 5), oCB ty (g1.2 6), oCB ty (g1.2 7), oCB ty (g1.2 8), oCB ty (g1.2 9)]) (os' := [oXA ty h0 aa0 g1, oCB ty (g1.2 0), oX1 ty (g1.2 1).1.1 (g1.2 1).1.2 (g1.2 1).2, oCB ty (g1.2 2), oCB ty (g1.2 3), oCB ty (g1.2 4), oCB ty (g1.2 5), oCB ty (g1.2 6), oCB ty (g1.2 7), oCB ty (g1.2 8), oCB ty (g1.2 9), oX1 ty h11 a11 g3]) (va_runV (As := [.ref (g1.2 1).1.1]) (rest := []) F (c_X1_copyRings l D ty h11 a11 (g1.2 1).1.1 (g1.2 1).1.2 _ _ _ hv _) (cwV 1 F.2.2.2.2 gX0_undoLast_X1_copyRings rfl rfl rfl ⟨rfl, hd_X1_copyRings⟩ ⟨Nat.le_of_ble_eq_true rfl, Nat.le_of_ble_eq_true rfl⟩) (pre_v hK hP hD hp1 rfl rfl rfl) rfl rfl hl.1 rfl (lv_room (Nat.le_of_ble_eq_true rfl)) dX0_undoLast_27 ⟨Nat.zero_le _, Nat.zero_le _⟩) hp1 (((List.perm_middle (a := (oXA ty h0 aa0 g1 : va_W)) (l₁ := ([oX1 ty h11 a11 g3, oX1 ty (g1.2 1).1.1 (g1.2 1).1.2 (g1.2 1).2] : List va_W)) (l₂ := ([oCB ty (g1.2 0), oCB ty (g1.2 2), oCB ty (g1.2 3), oCB ty (g1.2 4), oCB ty (g1.2 5), oCB ty (g1.2 6), oCB ty (g1.2 7), oCB ty (g1.2 8), oCB ty (g1.2 9)] : List va_W))).trans (List.Perm.cons _ ((List.perm_middle (a := (oCB ty (g1.2 0) : va_W)) (l₁ := ([oX1 ty h11 a11 g3, oX1 ty (g1.2 1).1.1 (g1.2 1).1.2 (g1.2 1).2] : List va_W)) (l₂ := ([oCB ty (g1.2 2), oCB ty (g1.2 3), oCB ty (g1.2 4), oCB ty (g1.2 5), oCB ty (g1.2 6), oCB ty (g1.2 7), oCB ty (g1.2 8), oCB ty (g1.2 9)] : List va_W))).trans (List.Perm.cons _ ((List.perm_middle (a := (oX1 ty (g1.2 1).1.1 (g1.2 1).1.2 (g1.2 1).2 : va_W)) (l₁ := ([oX1 ty h11 a11 g3] : List va_W)) (l₂ := ([oCB ty (g1.2 2), oCB ty (g1.2 3), oCB ty (g1.2 4), oCB ty (g1.2 5), oCB ty (g1.2 6), oCB ty (g1.2 7), oCB ty (g1.2 8), oCB ty (g1.2 9)] : List va_W))).trans (List.Perm.cons _ ((List.perm_middle (a := (oCB ty (g1.2 2) : va_W)) (l₁ := ([oX1 ty h11 a11 g3] : List va_W)) (l₂ := ([oCB ty (g1.2 3), oCB ty (g1.2 4), oCB ty (g1.2 5), oCB ty (g1.2 6), oCB ty (g1.2 7), oCB ty (g1.2 8), oCB ty (g1.2 9)] : List va_W))).trans (List.Perm.cons _ ((List.perm_middle (a := (oCB ty (g1.2 3) : va_W)) (l₁ := ([oX1 ty h11 a11 g3] : List va_W)) (l₂ := ([oCB ty (g1.2 4), oCB ty (g1.2 5), oCB ty (g1.2 6), oCB ty (g1.2 7), oCB ty (g1.2 8), oCB ty (g1.2 9)] : List va_W))).trans (List.Perm.cons _ ((List.perm_middle (a := (oCB ty (g1.2 4) : va_W)) (l₁ := ([oX1 ty h11 a11 g3] : List va_W)) (l₂ := ([oCB ty (g1.2 5), oCB ty (g1.2 6), oCB ty (g1.2 7), oCB ty (g1.2 8), oCB ty (g1.2 9)] : List va_W))).trans (List.Perm.cons _ ((List.perm_middle (a := (oCB ty (g1.2 5) : va_W)) (l₁ := ([oX1 ty h11 a11 g3] : List va_W)) (l₂ := ([oCB ty (g1.2 6), oCB ty (g1.2 7), oCB ty (g1.2 8), oCB ty (g1.2 9)] : List va_W))).trans (List.Perm.cons _ ((List.perm_middle (a := (oCB ty (g1.2 6) : va_W)) (l₁ := ([oX1 ty h11 a11 g3] : List va_W)) (l₂ := ([oCB ty (g1.2 7), oCB ty (g1.2 8), oCB ty (g1.2 9)] : List va_W))).trans (List.Perm.cons _ ((List.perm_middle (a := (oCB ty (g1.2 7) : va_W)) (l₁ := ([oX1 ty h11 a11 g3] : List va_W)) (l₂ := ([oCB ty (g1.2 8), oCB ty (g1.2 9)] : List va_W))).trans (List.Perm.cons _ ((List.perm_middle (a := (oCB ty (g1.2 8) : va_W)) (l₁ := ([oX1 ty h11 a11 g3] : List va_W)) (l₂ := ([oCB ty (g1.2 9)] : List va_W))).trans (List.Perm.cons _ (List.perm_middle (a := (oCB ty (g1.2 9) : va_W)) (l₁ := ([oX1 ty h11 a11 g3] : List va_W)) (l₂ := ([] : List va_W))))))))))))))))))))))) : List.Perm ([oX1 ty h11 a11 g3, oX1 ty (g1.2 1).1.1 (g1.2 1).1.2 (g1.2 1).2, oXA ty h0 aa0 g1, oCB ty (g1.2 0), oCB ty (g1.2 2), oCB ty (g1.2 3), oCB ty (g1.2 4), oCB ty (g1.2 5), oCB ty (g1.2 6), oCB ty (g1.2 7), oCB ty (g1.2 8), oCB ty (g1.2 9)] : List va_W) ([oXA ty h0 aa0 g1, oCB ty (g1.2 0), oX1 ty (g1.2 1).1.1 (g1.2 1).1.2 (g1.2 1).2, oCB ty (g1.2 2), oCB ty (g1.2 3), oCB ty (g1.2 4), oCB ty (g1.2 5), oCB ty (g1.2 6), oCB ty (g1.2 7), oCB ty (g1.2 8), oCB ty (g1.2 9), oX1 ty h11 a11 g3] : List va_W)) hP hD hS hA (fun H locs hP hD hS => ?_)
      clear hp1 hv
      obtain hf := hf
      obtain ⟨e0, e1⟩ := tup2 hf
      rw [e0] at hP hD
      rw [e1] at hP hD
      exact CX_v F hr hlk hP hD hS dX0_undoLast_30
    replace hf := ite_f hf hc1
    by_cases hc2 : g1.1 = (2 : Int32)
    · replace hf := ite_t hf hc2
      refine W.eq (g2 := F0 m 27 ls [.ref (g1.2 2).1.1, .ref h11]) (by rw [hc2]; rfl) ?_
      obtain ⟨g4, hv, hf⟩ := obd hf
      have hp1 : List.Perm [oXA ty h0 aa0 g1, oCB ty (g1.2 0), oCB ty (g1.2 1), oX1 ty (g1.2 2).1.1 (g1.2 2).1.2 (g1.2 2).2, oCB ty (g1.2 3), oCB ty (g1.2 4), oCB ty (g1.2 5), oCB ty (g1.2 6), oCB ty (g1.2 7), oCB ty (g1.2 8), oCB ty (g1.2 9), oX1 ty h11 a11 z11] ([oX1 ty h11 a11 z11, oX1 ty (g1.2 2).1.1 (g1.2 2).1.2 (g1.2 2).2] ++ [oXA ty h0 aa0 g1, oCB ty (g1.2 0), oCB ty (g1.2 1), oCB ty (g1.2 3), oCB ty (g1.2 4), oCB ty (g1.2 5), oCB ty (g1.2 6), oCB ty (g1.2 7), oCB ty (g1.2 8), oCB ty (g1.2 9)]) := (((List.perm_middle (a := (oX1 ty h11 a11 z11 : va_W)) (l₁ := ([oXA ty h0 aa0 g1, oCB ty (g1.2 0), oCB ty (g1.2 1), oX1 ty (g1.2 2).1.1 (g1.2 2).1.2 (g1.2 2).2, oCB ty (g1.2 3), oCB ty (g1.2 4), oCB ty (g1.2 5), oCB ty (g1.2 6), oCB ty (g1.2 7), oCB ty (g1.2 8), oCB ty (g1.2 9)] : List va_W)) (l₂ := ([] : List va_W))).trans (List.Perm.cons _ (List.perm_middle (a := (oX1 ty (g1.2 2).1.1 (g1.2 2).1.2 (g1.2 2).2 : va_W)) (l₁ := ([oXA ty h0 aa0 g1, oCB ty (g1.2 0), oCB ty (g1.2 1)] : List va_W)) (l₂ := ([oCB ty (g1.2 3), oCB ty (g1.2 4), oCB ty (g1.2 5), oCB ty (g1.2 6), oCB ty (g1.2 7), oCB ty (g1.2 8), oCB ty (g1.2 9)] : List va_W))))) : List.Perm ([oXA ty h0 aa0 g1, oCB ty (g1.2 0), oCB ty (g1.2 1), oX1 ty (g1.2 2).1.1 (g1.2 2).1.2 (g1.2 2).2, oCB ty (g1.2 3), oCB ty (g1.2 4), oCB ty (g1.2 5), oCB ty (g1.2 6), oCB ty (g1.2 7), oCB ty (g1.2 8), oCB ty (g1.2 9), oX1 ty h11 a11 z11] : List va_W) ([oX1 ty h11 a11 z11, oX1 ty (g1.2 2).1.1 (g1.2 2).1.2 (g1.2 2).2, oXA ty h0 aa0 g1, oCB ty (g1.2 0), oCB ty (g1.2 1), oCB ty (g1.2 3), oCB ty (g1.2 4), oCB ty (g1.2 5), oCB ty (g1.2 6), oCB ty (g1.2 7), oCB ty (g1.2 8), oCB ty (g1.2 9)] : List va_W))
      refine cv_call (os := [oXA ty h0 aa0 g1, oCB ty (g1.2 0), oCB ty (g1.2 1), oX1 ty (g1.2 2).1.1 (g1.2 2).1.2 (g1.2 2).2, oCB ty (g1.2 3), oCB ty (g1.2 4), oCB ty (g1.2 5), oCB ty (g1.2 6), oCB ty (g1.2 7), oCB ty (g1.2 8), oCB ty (g1.2 9), oX1 ty h11 a11 z11]) (oc := [oX1 ty h11 a11 z11, oX1 ty (g1.2 2).1.1 (g1.2 2).1.2 (g1.2 2).2]) (oc' := [oX1 ty h11 a11 g4, oX1 ty (g1.2 2).1.1 (g1.2 2).1.2 (g1.2 2).2]) (or_ := [oXA ty h0 aa0 g1, oCB ty (g1.2 0), oCB ty (g1.2 1), oCB ty (g1.2 3), oCB ty (g1.2 4), oCB ty (g1.2 5), oCB ty (g1.2 6), oCB ty (g1.2 7), oCB ty (g1.2 8), oCB ty (g1.2 9)]) (os' := [oXA ty h0 aa0 g1, oCB ty (g1.2 0), oCB ty (g1.2 1), oX1 ty (g1.2 2).1.1 (g1.2 2).1.2 (g1.2 2).2, oCB ty (g1.2 3), oCB ty (g1.2 4), oCB ty (g1.2 5), oCB ty (g1.2 6), oCB ty (g1.2 7), oCB ty (g1.2 8), oCB ty (g1.2 9), oX1 ty h11 a11 g4]) (va_runV (As := [.ref (g1.2 2).1.1]) (rest := []) F (c_X1_copyRings l D ty h11 a11 (g1.2 2).1.1 (g1.2 2).1.2 _ _ _ hv _) (cwV 1 F.2.2.2.2 gX0_undoLast_X1_copyRings rfl rfl rfl ⟨rfl, hd_X1_copyRings⟩ ⟨Nat.le_of_ble_eq_true rfl, Nat.le_of_ble_eq_true rfl⟩) (pre_v hK hP hD hp1 rfl rfl rfl) rfl rfl hl.1 rfl (lv_room (Nat.le_of_ble_eq_true rfl)) dX0_undoLast_27 ⟨Nat.zero_le _, Nat.zero_le _⟩) hp1 (((List.perm_middle (a := (oXA ty h0 aa0 g1 : va_W)) (l₁ := ([oX1 ty h11 a11 g4, oX1 ty (g1.2 2).1.1 (g1.2 2).1.2 (g1.2 2).2] : List va_W)) (l₂ := ([oCB ty (g1.2 0), oCB ty (g1.2 1), oCB ty (g1.2 3), oCB ty (g1.2 4), oCB ty (g1.2 5), oCB ty (g1.2 6), oCB ty (g1.2 7), oCB ty (g1.2 8), oCB ty (g1.2 9)] : List va_W))).trans (List.Perm.cons _ ((List.perm_middle (a := (oCB ty (g1.2 0) : va_W)) (l₁ := ([oX1 ty h11 a11 g4, oX1 ty (g1.2 2).1.1 (g1.2 2).1.2 (g1.2 2).2] : List va_W)) (l₂ := ([oCB ty (g1.2 1), oCB ty (g1.2 3), oCB ty (g1.2 4), oCB ty (g1.2 5), oCB ty (g1.2 6), oCB ty (g1.2 7), oCB ty (g1.2 8), oCB ty (g1.2 9)] : List va_W))).trans (List.Perm.cons _ ((List.perm_middle (a := (oCB ty (g1.2 1) : va_W)) (l₁ := ([oX1 ty h11 a11 g4, oX1 ty (g1.2 2).1.1 (g1.2 2).1.2 (g1.2 2).2] : List va_W)) (l₂ := ([oCB ty (g1.2 3), oCB ty (g1.2 4), oCB ty (g1.2 5), oCB ty (g1.2 6), oCB ty (g1.2 7), oCB ty (g1.2 8), oCB ty (g1.2 9)] : List va_W))).trans (List.Perm.cons _ ((List.perm_middle (a := (oX1 ty (g1.2 2).1.1 (g1.2 2).1.2 (g1.2 2).2 : va_W)) (l₁ := ([oX1 ty h11 a11 g4] : List va_W)) (l₂ := ([oCB ty (g1.2 3), oCB ty (g1.2 4), oCB ty (g1.2 5), oCB ty (g1.2 6), oCB ty (g1.2 7), oCB ty (g1.2 8), oCB ty (g1.2 9)] : List va_W))).trans (List.Perm.cons _ ((List.perm_middle (a := (oCB ty (g1.2 3) : va_W)) (l₁ := ([oX1 ty h11 a11 g4] : List va_W)) (l₂ := ([oCB ty (g1.2 4), oCB ty (g1.2 5), oCB ty (g1.2 6), oCB ty (g1.2 7), oCB ty (g1.2 8), oCB ty (g1.2 9)] : List va_W))).trans (List.Perm.cons _ ((List.perm_middle (a := (oCB ty (g1.2 4) : va_W)) (l₁ := ([oX1 ty h11 a11 g4] : List va_W)) (l₂ := ([oCB ty (g1.2 5), oCB ty (g1.2 6), oCB ty (g1.2 7), oCB ty (g1.2 8), oCB ty (g1.2 9)] : List va_W))).trans (List.Perm.cons _ ((List.perm_middle (a := (oCB ty (g1.2 5) : va_W)) (l₁ := ([oX1 ty h11 a11 g4] : List va_W)) (l₂ := ([oCB ty (g1.2 6), oCB ty (g1.2 7), oCB ty (g1.2 8), oCB ty (g1.2 9)] : List va_W))).trans (List.Perm.cons _ ((List.perm_middle (a := (oCB ty (g1.2 6) : va_W)) (l₁ := ([oX1 ty h11 a11 g4] : List va_W)) (l₂ := ([oCB ty (g1.2 7), oCB ty (g1.2 8), oCB ty (g1.2 9)] : List va_W))).trans (List.Perm.cons _ ((List.perm_middle (a := (oCB ty (g1.2 7) : va_W)) (l₁ := ([oX1 ty h11 a11 g4] : List va_W)) (l₂ := ([oCB ty (g1.2 8), oCB ty (g1.2 9)] : List va_W))).trans (List.Perm.cons _ ((List.perm_middle (a := (oCB ty (g1.2 8) : va_W)) (l₁ := ([oX1 ty h11 a11 g4] : List va_W)) (l₂ := ([oCB ty (g1.2 9)] : List va_W))).trans (List.Perm.cons _ (List.perm_middle (a := (oCB ty (g1.2 9) : va_W)) (l₁ := ([oX1 ty h11 a11 g4] : List va_W)) (l₂ := ([] : List va_W))))))))))))))))))))))) : List.Perm ([oX1 ty h11 a11 g4, oX1 ty (g1.2 2).1.1 (g1.2 2).1.2 (g1.2 2).2, oXA ty h0 aa0 g1, oCB ty (g1.2 0), oCB ty (g1.2 1), oCB ty (g1.2 3), oCB ty (g1.2 4), oCB ty (g1.2 5), oCB ty (g1.2 6), oCB ty (g1.2 7), oCB ty (g1.2 8), oCB ty (g1.2 9)] : List va_W) ([oXA ty h0 aa0 g1, oCB ty (g1.2 0), oCB ty (g1.2 1), oX1 ty (g1.2 2).1.1 (g1.2 2).1.2 (g1.2 2).2, oCB ty (g1.2 3), oCB ty (g1.2 4), oCB ty (g1.2 5), oCB ty (g1.2 6), oCB ty (g1.2 7), oCB ty (g1.2 8), oCB ty (g1.2 9), oX1 ty h11 a11 g4] : List va_W)) hP hD hS hA (fun H locs hP hD hS => ?_)
      clear hp1 hv
      obtain hf := hf
      obtain ⟨e0, e1⟩ := tup2 hf
      rw [e0] at hP hD
      rw [e1] at hP hD
      exact CX_v F hr hlk hP hD hS dX0_undoLast_30
    replace hf := ite_f hf hc2
    by_cases hc3 : g1.1 = (3 : Int32)
    · replace hf := ite_t hf hc3
      refine W.eq (g2 := F0 m 27 ls [.ref (g1.2 3).1.1, .ref h11]) (by rw [hc3]; rfl) ?_
      obtain ⟨g5, hv, hf⟩ := obd hf
      have hp1 : List.Perm [oXA ty h0 aa0 g1, oCB ty (g1.2 0), oCB ty (g1.2 1), oCB ty (g1.2 2), oX1 ty (g1.2 3).1.1 (g1.2 3).1.2 (g1.2 3).2, oCB ty (g1.2 4), oCB ty (g1.2 5), oCB ty (g1.2 6), oCB ty (g1.2 7), oCB ty (g1.2 8), oCB ty (g1.2 9), oX1 ty h11 a11 z11] ([oX1 ty h11 a11 z11, oX1 ty (g1.2 3).1.1 (g1.2 3).1.2 (g1.2 3).2] ++ [oXA ty h0 aa0 g1, oCB ty (g1.2 0), oCB ty (g1.2 1), oCB ty (g1.2 2), oCB ty (g1.2 4), oCB ty (g1.2 5), oCB ty (g1.2 6), oCB ty (g1.2 7), oCB ty (g1.2 8), oCB ty (g1.2 9)]) := (((List.perm_middle (a := (oX1 ty h11 a11 z11 : va_W)) (l₁ := ([oXA ty h0 aa0 g1, oCB ty (g1.2 0), oCB ty (g1.2 1), oCB ty (g1.2 2), oX1 ty (g1.2 3).1.1 (g1.2 3).1.2 (g1.2 3).2, oCB ty (g1.2 4), oCB ty (g1.2 5), oCB ty (g1.2 6), oCB ty (g1.2 7), oCB ty (g1.2 8), oCB ty (g1.2 9)] : List va_W)) (l₂ := ([] : List va_W))).trans (List.Perm.cons _ (List.perm_middle (a := (oX1 ty (g1.2 3).1.1 (g1.2 3).1.2 (g1.2 3).2 : va_W)) (l₁ := ([oXA ty h0 aa0 g1, oCB ty (g1.2 0), oCB ty (g1.2 1), oCB ty (g1.2 2)] : List va_W)) (l₂ := ([oCB ty (g1.2 4), oCB ty (g1.2 5), oCB ty (g1.2 6), oCB ty (g1.2 7), oCB ty (g1.2 8), oCB ty (g1.2 9)] : List va_W))))) : List.Perm ([oXA ty h0 aa0 g1, oCB ty (g1.2 0), oCB ty (g1.2 1), oCB ty (g1.2 2), oX1 ty (g1.2 3).1.1 (g1.2 3).1.2 (g1.2 3).2, oCB ty (g1.2 4), oCB ty (g1.2 5), oCB ty (g1.2 6), oCB ty (g1.2 7), oCB ty (g1.2 8), oCB ty (g1.2 9), oX1 ty h11 a11 z11] : List va_W) ([oX1 ty h11 a11 z11, oX1 ty (g1.2 3).1.1 (g1.2 3).1.2 (g1.2 3).2, oXA ty h0 aa0 g1, oCB ty (g1.2 0), oCB ty (g1.2 1), oCB ty (g1.2 2), oCB ty (g1.2 4), oCB ty (g1.2 5), oCB ty (g1.2 6), oCB ty (g1.2 7), oCB ty (g1.2 8), oCB ty (g1.2 9)] : List va_W))
      refine cv_call (os := [oXA ty h0 aa0 g1, oCB ty (g1.2 0), oCB ty (g1.2 1), oCB ty (g1.2 2), oX1 ty (g1.2 3).1.1 (g1.2 3).1.2 (g1.2 3).2, oCB ty (g1.2 4), oCB ty (g1.2 5), oCB ty (g1.2 6), oCB ty (g1.2 7), oCB ty (g1.2 8), oCB ty (g1.2 9), oX1 ty h11 a11 z11]) (oc := [oX1 ty h11 a11 z11, oX1 ty (g1.2 3).1.1 (g1.2 3).1.2 (g1.2 3).2]) (oc' := [oX1 ty h11 a11 g5, oX1 ty (g1.2 3).1.1 (g1.2 3).1.2 (g1.2 3).2]) (or_ := [oXA ty h0 aa0 g1, oCB ty (g1.2 0), oCB ty (g1.2 1), oCB ty (g1.2 2), oCB ty (g1.2 4), oCB ty (g1.2 5), oCB ty (g1.2 6), oCB ty (g1.2 7), oCB ty (g1.2 8), oCB ty (g1.2 9)]) (os' := [oXA ty h0 aa0 g1, oCB ty (g1.2 0), oCB ty (g1.2 1), oCB ty (g1.2 2), oX1 ty (g1.2 3).1.1 (g1.2 3).1.2 (g1.2 3).2, oCB ty (g1.2 4), oCB ty (g1.2 5), oCB ty (g1.2 6), oCB ty (g1.2 7), oCB ty (g1.2 8), oCB ty (g1.2 9), oX1 ty h11 a11 g5]) (va_runV (As := [.ref (g1.2 3).1.1]) (rest := []) F (c_X1_copyRings l D ty h11 a11 (g1.2 3).1.1 (g1.2 3).1.2 _ _ _ hv _) (cwV 1 F.2.2.2.2 gX0_undoLast_X1_copyRings rfl rfl rfl ⟨rfl, hd_X1_copyRings⟩ ⟨Nat.le_of_ble_eq_true rfl, Nat.le_of_ble_eq_true rfl⟩) (pre_v hK hP hD hp1 rfl rfl rfl) rfl rfl hl.1 rfl (lv_room (Nat.le_of_ble_eq_true rfl)) dX0_undoLast_27 ⟨Nat.zero_le _, Nat.zero_le _⟩) hp1 (((List.perm_middle (a := (oXA ty h0 aa0 g1 : va_W)) (l₁ := ([oX1 ty h11 a11 g5, oX1 ty (g1.2 3).1.1 (g1.2 3).1.2 (g1.2 3).2] : List va_W)) (l₂ := ([oCB ty (g1.2 0), oCB ty (g1.2 1), oCB ty (g1.2 2), oCB ty (g1.2 4), oCB ty (g1.2 5), oCB ty (g1.2 6), oCB ty (g1.2 7), oCB ty (g1.2 8), oCB ty (g1.2 9)] : List va_W))).trans (List.Perm.cons _ ((List.perm_middle (a := (oCB ty (g1.2 0) : va_W)) (l₁ := ([oX1 ty h11 a11 g5, oX1 ty (g1.2 3).1.1 (g1.2 3).1.2 (g1.2 3).2] : List va_W)) (l₂ := ([oCB ty (g1.2 1), oCB ty (g1.2 2), oCB ty (g1.2 4), oCB ty (g1.2 5), oCB ty (g1.2 6), oCB ty (g1.2 7), oCB ty (g1.2 8), oCB ty (g1.2 9)] : List va_W))).trans (List.Perm.cons _ ((List.perm_middle (a := (oCB ty (g1.2 1) : va_W)) (l₁ := ([oX1 ty h11 a11 g5, oX1 ty (g1.2 3).1.1 (g1.2 3).1.2 (g1.2 3).2] : List va_W)) (l₂ := ([oCB ty (g1.2 2), oCB ty (g1.2 4), oCB ty (g1.2 5), oCB ty (g1.2 6), oCB ty (g1.2 7), oCB ty (g1.2 8), oCB ty (g1.2 9)] : List va_W))).trans (List.Perm.cons _ ((List.perm_middle (a := (oCB ty (g1.2 2) : va_W)) (l₁ := ([oX1 ty h11 a11 g5, oX1 ty (g1.2 3).1.1 (g1.2 3).1.2 (g1.2 3).2] : List va_W)) (l₂ := ([oCB ty (g1.2 4), oCB ty (g1.2 5), oCB ty (g1.2 6), oCB ty (g1.2 7), oCB ty (g1.2 8), oCB ty (g1.2 9)] : List va_W))).trans (List.Perm.cons _ ((List.perm_middle (a := (oX1 ty (g1.2 3).1.1 (g1.2 3).1.2 (g1.2 3).2 : va_W)) (l₁ := ([oX1 ty h11 a11 g5] : List va_W)) (l₂ := ([oCB ty (g1.2 4), oCB ty (g1.2 5), oCB ty (g1.2 6), oCB ty (g1.2 7), oCB ty (g1.2 8), oCB ty (g1.2 9)] : List va_W))).trans (List.Perm.cons _ ((List.perm_middle (a := (oCB ty (g1.2 4) : va_W)) (l₁ := ([oX1 ty h11 a11 g5] : List va_W)) (l₂ := ([oCB ty (g1.2 5), oCB ty (g1.2 6), oCB ty (g1.2 7), oCB ty (g1.2 8), oCB ty (g1.2 9)] : List va_W))).trans (List.Perm.cons _ ((List.perm_middle (a := (oCB ty (g1.2 5) : va_W)) (l₁ := ([oX1 ty h11 a11 g5] : List va_W)) (l₂ := ([oCB ty (g1.2 6), oCB ty (g1.2 7), oCB ty (g1.2 8), oCB ty (g1.2 9)] : List va_W))).trans (List.Perm.cons _ ((List.perm_middle (a := (oCB ty (g1.2 6) : va_W)) (l₁ := ([oX1 ty h11 a11 g5] : List va_W)) (l₂ := ([oCB ty (g1.2 7), oCB ty (g1.2 8), oCB ty (g1.2 9)] : List va_W))).trans (List.Perm.cons _ ((List.perm_middle (a := (oCB ty (g1.2 7) : va_W)) (l₁ := ([oX1 ty h11 a11 g5] : List va_W)) (l₂ := ([oCB ty (g1.2 8), oCB ty (g1.2 9)] : List va_W))).trans (List.Perm.cons _ ((List.perm_middle (a := (oCB ty (g1.2 8) : va_W)) (l₁ := ([oX1 ty h11 a11 g5] : List va_W)) (l₂ := ([oCB ty (g1.2 9)] : List va_W))).trans (List.Perm.cons _ (List.perm_middle (a := (oCB ty (g1.2 9) : va_W)) (l₁ := ([oX1 ty h11 a11 g5] : List va_W)) (l₂ := ([] : List va_W))))))))))))))))))))))) : List.Perm ([oX1 ty h11 a11 g5, oX1 ty (g1.2 3).1.1 (g1.2 3).1.2 (g1.2 3).2, oXA ty h0 aa0 g1, oCB ty (g1.2 0), oCB ty (g1.2 1), oCB ty (g1.2 2), oCB ty (g1.2 4), oCB ty (g1.2 5), oCB ty (g1.2 6), oCB ty (g1.2 7), oCB ty (g1.2 8), oCB ty (g1.2 9)] : List va_W) ([oXA ty h0 aa0 g1, oCB ty (g1.2 0), oCB ty (g1.2 1), oCB ty (g1.2 2), oX1 ty (g1.2 3).1.1 (g1.2 3).1.2 (g1.2 3).2, oCB ty (g1.2 4), oCB ty (g1.2 5), oCB ty (g1.2 6), oCB ty (g1.2 7), oCB ty (g1.2 8), oCB ty (g1.2 9), oX1 ty h11 a11 g5] : List va_W)) hP hD hS hA (fun H locs hP hD hS => ?_)
      clear hp1 hv
      obtain hf := hf
      obtain ⟨e0, e1⟩ := tup2 hf
      rw [e0] at hP hD
      rw [e1] at hP hD
      exact CX_v F hr hlk hP hD hS dX0_undoLast_30
    replace hf := ite_f hf hc3
    by_cases hc4 : g1.1 = (4 : Int32)
    · replace hf := ite_t hf hc4
      refine W.eq (g2 := F0 m 27 ls [.ref (g1.2 4).1.1, .ref h11]) (by rw [hc4]; rfl) ?_
      obtain ⟨g6, hv, hf⟩ := obd hf
      have hp1 : List.Perm [oXA ty h0 aa0 g1, oCB ty (g1.2 0), oCB ty (g1.2 1), oCB ty (g1.2 2), oCB ty (g1.2 3), oX1 ty (g1.2 4).1.1 (g1.2 4).1.2 (g1.2 4).2, oCB ty (g1.2 5), oCB ty (g1.2 6), oCB ty (g1.2 7), oCB ty (g1.2 8), oCB ty (g1.2 9), oX1 ty h11 a11 z11] ([oX1 ty h11 a11 z11, oX1 ty (g1.2 4).1.1 (g1.2 4).1.2 (g1.2 4).2] ++ [oXA ty h0 aa0 g1, oCB ty (g1.2 0), oCB ty (g1.2 1), oCB ty (g1.2 2), oCB ty (g1.2 3), oCB ty (g1.2 5), oCB ty (g1.2 6), oCB ty (g1.2 7), oCB ty (g1.2 8), oCB ty (g1.2 9)]) := (((List.perm_middle (a := (oX1 ty h11 a11 z11 : va_W)) (l₁ := ([oXA ty h0 aa0 g1, oCB ty (g1.2 0), oCB ty (g1.2 1), oCB ty (g1.2 2), oCB ty (g1.2 3), oX1 ty (g1.2 4).1.1 (g1.2 4).1.2 (g1.2 4).2, oCB ty (g1.2 5), oCB ty (g1.2 6), oCB ty (g1.2 7), oCB ty (g1.2 8), oCB ty (g1.2 9)] : List va_W)) (l₂ := ([] : List va_W))).trans (List.Perm.cons _ (List.perm_middle (a := (oX1 ty (g1.2 4).1.1 (g1.2 4).1.2 (g1.2 4).2 : va_W)) (l₁ := ([oXA ty h0 aa0 g1, oCB ty (g1.2 0), oCB ty (g1.2 1), oCB ty (g1.2 2), oCB ty (g1.2 3)] : List va_W)) (l₂ := ([oCB ty (g1.2 5), oCB ty (g1.2 6), oCB ty (g1.2 7), oCB ty (g1.2 8), oCB ty (g1.2 9)] : List va_W))))) : List.Perm ([oXA ty h0 aa0 g1, oCB ty (g1.2 0), oCB ty (g1.2 1), oCB ty (g1.2 2), oCB ty (g1.2 3), oX1 ty (g1.2 4).1.1 (g1.2 4).1.2 (g1.2 4).2, oCB ty (g1.2 5), oCB ty (g1.2 6), oCB ty (g1.2 7), oCB ty (g1.2 8), oCB ty (g1.2 9), oX1 ty h11 a11 z11] : List va_W) ([oX1 ty h11 a11 z11, oX1 ty (g1.2 4).1.1 (g1.2 4).1.2 (g1.2 4).2, oXA ty h0 aa0 g1, oCB ty (g1.2 0), oCB ty (g1.2 1), oCB ty (g1.2 2), oCB ty (g1.2 3), oCB ty (g1.2 5), oCB ty (g1.2 6), oCB ty (g1.2 7), oCB ty (g1.2 8), oCB ty (g1.2 9)] : List va_W))
      refine cv_call (os := [oXA ty h0 aa0 g1, oCB ty (g1.2 0), oCB ty (g1.2 1), oCB ty (g1.2 2), oCB ty (g1.2 3), oX1 ty (g1.2 4).1.1 (g1.2 4).1.2 (g1.2 4).2, oCB ty (g1.2 5), oCB ty (g1.2 6), oCB ty (g1.2 7), oCB ty (g1.2 8), oCB ty (g1.2 9), oX1 ty h11 a11 z11]) (oc := [oX1 ty h11 a11 z11, oX1 ty (g1.2 4).1.1 (g1.2 4).1.2 (g1.2 4).2]) (oc' := [oX1 ty h11 a11 g6, oX1 ty (g1.2 4).1.1 (g1.2 4).1.2 (g1.2 4).2]) (or_ := [oXA ty h0 aa0 g1, oCB ty (g1.2 0), oCB ty (g1.2 1), oCB ty (g1.2 2), oCB ty (g1.2 3), oCB ty (g1.2 5), oCB ty (g1.2 6), oCB ty (g1.2 7), oCB ty (g1.2 8), oCB ty (g1.2 9)]) (os' := [oXA ty h0 aa0 g1, oCB ty (g1.2 0), oCB ty (g1.2 1), oCB ty (g1.2 2), oCB ty (g1.2 3), oX1 ty (g1.2 4).1.1 (g1.2 4).1.2 (g1.2 4).2, oCB ty (g1.2 5), oCB ty (g1.2 6), oCB ty (g1.2 7), oCB ty (g1.2 8), oCB ty (g1.2 9), oX1 ty h11 a11 g6]) (va_runV (As := [.ref (g1.2 4).1.1]) (rest := []) F (c_X1_copyRings l D ty h11 a11 (g1.2 4).1.1 (g1.2 4).1.2 _ _ _ hv _) (cwV 1 F.2.2.2.2 gX0_undoLast_X1_copyRings rfl rfl rfl ⟨rfl, hd_X1_copyRings⟩ ⟨Nat.le_of_ble_eq_true rfl, Nat.le_of_ble_eq_true rfl⟩) (pre_v hK hP hD hp1 rfl rfl rfl) rfl rfl hl.1 rfl (lv_room (Nat.le_of_ble_eq_true rfl)) dX0_undoLast_27 ⟨Nat.zero_le _, Nat.zero_le _⟩) hp1 (((List.perm_middle (a := (oXA ty h0 aa0 g1 : va_W)) (l₁ := ([oX1 ty h11 a11 g6, oX1 ty (g1.2 4).1.1 (g1.2 4).1.2 (g1.2 4).2] : List va_W)) (l₂ := ([oCB ty (g1.2 0), oCB ty (g1.2 1), oCB ty (g1.2 2), oCB ty (g1.2 3), oCB ty (g1.2 5), oCB ty (g1.2 6), oCB ty (g1.2 7), oCB ty (g1.2 8), oCB ty (g1.2 9)] : List va_W))).trans (List.Perm.cons _ ((List.perm_middle (a := (oCB ty (g1.2 0) : va_W)) (l₁ := ([oX1 ty h11 a11 g6, oX1 ty (g1.2 4).1.1 (g1.2 4).1.2 (g1.2 4).2] : List va_W)) (l₂ := ([oCB ty (g1.2 1), oCB ty (g1.2 2), oCB ty (g1.2 3), oCB ty (g1.2 5), oCB ty (g1.2 6), oCB ty (g1.2 7), oCB ty (g1.2 8), oCB ty (g1.2 9)] : List va_W))).trans (List.Perm.cons _ ((List.perm_middle (a := (oCB ty (g1.2 1) : va_W)) (l₁ := ([oX1 ty h11 a11 g6, oX1 ty (g1.2 4).1.1 (g1.2 4).1.2 (g1.2 4).2] : List va_W)) (l₂ := ([oCB ty (g1.2 2), oCB ty (g1.2 3), oCB ty (g1.2 5), oCB ty (g1.2 6), oCB ty (g1.2 7), oCB ty (g1.2 8), oCB ty (g1.2 9)] : List va_W))).trans (List.Perm.cons _ ((List.perm_middle (a := (oCB ty (g1.2 2) : va_W)) (l₁ := ([oX1 ty h11 a11 g6, oX1 ty (g1.2 4).1.1 (g1.2 4).1.2 (g1.2 4).2] : List va_W)) (l₂ := ([oCB ty (g1.2 3), oCB ty (g1.2 5), oCB ty (g1.2 6), oCB ty (g1.2 7), oCB ty (g1.2 8), oCB ty (g1.2 9)] : List va_W))).trans (List.Perm.cons _ ((List.perm_middle (a := (oCB ty (g1.2 3) : va_W)) (l₁ := ([oX1 ty h11 a11 g6, oX1 ty (g1.2 4).1.1 (g1.2 4).1.2 (g1.2 4).2] : List va_W)) (l₂ := ([oCB ty (g1.2 5), oCB ty (g1.2 6), oCB ty (g1.2 7), oCB ty (g1.2 8), oCB ty (g1.2 9)] : List va_W))).trans (List.Perm.cons _ ((List.perm_middle (a := (oX1 ty (g1.2 4).1.1 (g1.2 4).1.2 (g1.2 4).2 : va_W)) (l₁ := ([oX1 ty h11 a11 g6] : List va_W)) (l₂ := ([oCB ty (g1.2 5), oCB ty (g1.2 6), oCB ty (g1.2 7), oCB ty (g1.2 8), oCB ty (g1.2 9)] : List va_W))).trans (List.Perm.cons _ ((List.perm_middle (a := (oCB ty (g1.2 5) : va_W)) (l₁ := ([oX1 ty h11 a11 g6] : List va_W)) (l₂ := ([oCB ty (g1.2 6), oCB ty (g1.2 7), oCB ty (g1.2 8), oCB ty (g1.2 9)] : List va_W))).trans (List.Perm.cons _ ((List.perm_middle (a := (oCB ty (g1.2 6) : va_W)) (l₁ := ([oX1 ty h11 a11 g6] : List va_W)) (l₂ := ([oCB ty (g1.2 7), oCB ty (g1.2 8), oCB ty (g1.2 9)] : List va_W))).trans (List.Perm.cons _ ((List.perm_middle (a := (oCB ty (g1.2 7) : va_W)) (l₁ := ([oX1 ty h11 a11 g6] : List va_W)) (l₂ := ([oCB ty (g1.2 8), oCB ty (g1.2 9)] : List va_W))).trans (List.Perm.cons _ ((List.perm_middle (a := (oCB ty (g1.2 8) : va_W)) (l₁ := ([oX1 ty h11 a11 g6] : List va_W)) (l₂ := ([oCB ty (g1.2 9)] : List va_W))).trans (List.Perm.cons _ (List.perm_middle (a := (oCB ty (g1.2 9) : va_W)) (l₁ := ([oX1 ty h11 a11 g6] : List va_W)) (l₂ := ([] : List va_W))))))))))))))))))))))) : List.Perm ([oX1 ty h11 a11 g6, oX1 ty (g1.2 4).1.1 (g1.2 4).1.2 (g1.2 4).2, oXA ty h0 aa0 g1, oCB ty (g1.2 0), oCB ty (g1.2 1), oCB ty (g1.2 2), oCB ty (g1.2 3), oCB ty (g1.2 5), oCB ty (g1.2 6), oCB ty (g1.2 7), oCB ty (g1.2 8), oCB ty (g1.2 9)] : List va_W) ([oXA ty h0 aa0 g1, oCB ty (g1.2 0), oCB ty (g1.2 1), oCB ty (g1.2 2), oCB ty (g1.2 3), oX1 ty (g1.2 4).1.1 (g1.2 4).1.2 (g1.2 4).2, oCB ty (g1.2 5), oCB ty (g1.2 6), oCB ty (g1.2 7), oCB ty (g1.2 8), oCB ty (g1.2 9), oX1 ty h11 a11 g6] : List va_W)) hP hD hS hA (fun H locs hP hD hS => ?_)
      clear hp1 hv
      obtain hf := hf
      obtain ⟨e0, e1⟩ := tup2 hf
      rw [e0] at hP hD
      rw [e1] at hP hD
      exact CX_v F hr hlk hP hD hS dX0_undoLast_30
    replace hf := ite_f hf hc4
    by_cases hc5 : g1.1 = (5 : Int32)
    · replace hf := ite_t hf hc5
      refine W.eq (g2 := F0 m 27 ls [.ref (g1.2 5).1.1, .ref h11]) (by rw [hc5]; rfl) ?_
      obtain ⟨g7, hv, hf⟩ := obd hf
      have hp1 : List.Perm [oXA ty h0 aa0 g1, oCB ty (g1.2 0), oCB ty (g1.2 1), oCB ty (g1.2 2), oCB ty (g1.2 3), oCB ty (g1.2 4), oX1 ty (g1.2 5).1.1 (g1.2 5).1.2 (g1.2 5).2, oCB ty (g1.2 6), oCB ty (g1.2 7), oCB ty (g1.2 8), oCB ty (g1.2 9), oX1 ty h11 a11 z11] ([oX1 ty h11 a11 z11, oX1 ty (g1.2 5).1.1 (g1.2 5).1.2 (g1.2 5).2] ++ [oXA ty h0 aa0 g1, oCB ty (g1.2 0), oCB ty (g1.2 1), oCB ty (g1.2 2), oCB ty (g1.2 3), oCB ty (g1.2 4), oCB ty (g1.2 6), oCB ty (g1.2 7), oCB ty (g1.2 8), oCB ty (g1.2 9)]) := (((List.perm_middle (a := (oX1 ty h11 a11 z11 : va_W)) (l₁ := ([oXA ty h0 aa0 g1, oCB ty (g1.2 0), oCB ty (g1.2 1), oCB ty (g1.2 2), oCB ty (g1.2 3), oCB ty (g1.2 4), oX1 ty (g1.2 5).1.1 (g1.2 5).1.2 (g1.2 5).2, oCB ty (g1.2 6), oCB ty (g1.2 7), oCB ty (g1.2 8), oCB ty (g1.2 9)] : List va_W)) (l₂ := ([] : List va_W))).trans (List.Perm.cons _ (List.perm_middle (a := (oX1 ty (g1.2 5).1.1 (g1.2 5).1.2 (g1.2 5).2 : va_W)) (l₁ := ([oXA ty h0 aa0 g1, oCB ty (g1.2 0), oCB ty (g1.2 1), oCB ty (g1.2 2), oCB ty (g1.2 3), oCB ty (g1.2 4)] : List va_W)) (l₂ := ([oCB ty (g1.2 6), oCB ty (g1.2 7), oCB ty (g1.2 8), oCB ty (g1.2 9)] : List va_W))))) : List.Perm ([oXA ty h0 aa0 g1, oCB ty (g1.2 0), oCB ty (g1.2 1), oCB ty (g1.2 2), oCB ty (g1.2 3), oCB ty (g1.2 4), oX1 ty (g1.2 5).1.1 (g1.2 5).1.2 (g1.2 5).2, oCB ty (g1.2 6), oCB ty (g1.2 7), oCB ty (g1.2 8), oCB ty (g1.2 9), oX1 ty h11 a11 z11] : List va_W) ([oX1 ty h11 a11 z11, oX1 ty (g1.2 5).1.1 (g1.2 5).1.2 (g1.2 5).2, oXA ty h0 aa0 g1, oCB ty (g1.2 0), oCB ty (g1.2 1), oCB ty (g1.2 2), oCB ty (g1.2 3), oCB ty (g1.2 4), oCB ty (g1.2 6), oCB ty (g1.2 7), oCB ty (g1.2 8), oCB ty (g1.2 9)] : List va_W))
      refine cv_call (os := [oXA ty h0 aa0 g1, oCB ty (g1.2 0), oCB ty (g1.2 1), oCB ty (g1.2 2), oCB ty (g1.2 3), oCB ty (g1.2 4), oX1 ty (g1.2 5).1.1 (g1.2 5).1.2 (g1.2 5).2, oCB ty (g1.2 6), oCB ty (g1.2 7), oCB ty (g1.2 8), oCB ty (g1.2 9), oX1 ty h11 a11 z11]) (oc := [oX1 ty h11 a11 z11, oX1 ty (g1.2 5).1.1 (g1.2 5).1.2 (g1.2 5).2]) (oc' := [oX1 ty h11 a11 g7, oX1 ty (g1.2 5).1.1 (g1.2 5).1.2 (g1.2 5).2]) (or_ := [oXA ty h0 aa0 g1, oCB ty (g1.2 0), oCB ty (g1.2 1), oCB ty (g1.2 2), oCB ty (g1.2 3), oCB ty (g1.2 4), oCB ty (g1.2 6), oCB ty (g1.2 7), oCB ty (g1.2 8), oCB ty (g1.2 9)]) (os' := [oXA ty h0 aa0 g1, oCB ty (g1.2 0), oCB ty (g1.2 1), oCB ty (g1.2 2), oCB ty (g1.2 3), oCB ty (g1.2 4), oX1 ty (g1.2 5).1.1 (g1.2 5).1.2 (g1.2 5).2, oCB ty (g1.2 6), oCB ty (g1.2 7), oCB ty (g1.2 8), oCB ty (g1.2 9), oX1 ty h11 a11 g7]) (va_runV (As := [.ref (g1.2 5).1.1]) (rest := []) F (c_X1_copyRings l D ty h11 a11 (g1.2 5).1.1 (g1.2 5).1.2 _ _ _ hv _) (cwV 1 F.2.2.2.2 gX0_undoLast_X1_copyRings rfl rfl rfl ⟨rfl, hd_X1_copyRings⟩ ⟨Nat.le_of_ble_eq_true rfl, Nat.le_of_ble_eq_true rfl⟩) (pre_v hK hP hD hp1 rfl rfl rfl) rfl rfl hl.1 rfl (lv_room (Nat.le_of_ble_eq_true rfl)) dX0_undoLast_27 ⟨Nat.zero_le _, Nat.zero_le _⟩) hp1 (((List.perm_middle (a := (oXA ty h0 aa0 g1 : va_W)) (l₁ := ([oX1 ty h11 a11 g7, oX1 ty (g1.2 5).1.1 (g1.2 5).1.2 (g1.2 5).2] : List va_W)) (l₂ := ([oCB ty (g1.2 0), oCB ty (g1.2 1), oCB ty (g1.2 2), oCB ty (g1.2 3), oCB ty (g1.2 4), oCB ty (g1.2 6), oCB ty (g1.2 7), oCB ty (g1.2 8), oCB ty (g1.2 9)] : List va_W))).trans (List.Perm.cons _ ((List.perm_middle (a := (oCB ty (g1.2 0) : va_W)) (l₁ := ([oX1 ty h11 a11 g7, oX1 ty (g1.2 5).1.1 (g1.2 5).1.2 (g1.2 5).2] : List va_W)) (l₂ := ([oCB ty (g1.2 1), oCB ty (g1.2 2), oCB ty (g1.2 3), oCB ty (g1.2 4), oCB ty (g1.2 6), oCB ty (g1.2 7), oCB ty (g1.2 8), oCB ty (g1.2 9)] : List va_W))).trans (List.Perm.cons _ ((List.perm_middle (a := (oCB ty (g1.2 1) : va_W)) (l₁ := ([oX1 ty h11 a11 g7, oX1 ty (g1.2 5).1.1 (g1.2 5).1.2 (g1.2 5).2] : List va_W)) (l₂ := ([oCB ty (g1.2 2), oCB ty (g1.2 3), oCB ty (g1.2 4), oCB ty (g1.2 6), oCB ty (g1.2 7), oCB ty (g1.2 8), oCB ty (g1.2 9)] : List va_W))).trans (List.Perm.cons _ ((List.perm_middle (a := (oCB ty (g1.2 2) : va_W)) (l₁ := ([oX1 ty h11 a11 g7, oX1 ty (g1.2 5).1.1 (g1.2 5).1.2 (g1.2 5).2] : List va_W)) (l₂ := ([oCB ty (g1.2 3), oCB ty (g1.2 4), oCB ty (g1.2 6), oCB ty (g1.2 7), oCB ty (g1.2 8), oCB ty (g1.2 9)] : List va_W))).trans (List.Perm.cons _ ((List.perm_middle (a := (oCB ty (g1.2 3) : va_W)) (l₁ := ([oX1 ty h11 a11 g7, oX1 ty (g1.2 5).1.1 (g1.2 5).1.2 (g1.2 5).2] : List va_W)) (l₂ := ([oCB ty (g1.2 4), oCB ty (g1.2 6), oCB ty (g1.2 7), oCB ty (g1.2 8), oCB ty (g1.2 9)] : List va_W))).trans (List.Perm.cons _ ((List.perm_middle (a := (oCB ty (g1.2 4) : va_W)) (l₁ := ([oX1 ty h11 a11 g7, oX1 ty (g1.2 5).1.1 (g1.2 5).1.2 (g1.2 5).2] : List va_W)) (l₂ := ([oCB ty (g1.2 6), oCB ty (g1.2 7), oCB ty (g1.2 8), oCB ty (g1.2 9)] : List va_W))).trans (List.Perm.cons _ ((List.perm_middle (a := (oX1 ty (g1.2 5).1.1 (g1.2 5).1.2 (g1.2 5).2 : va_W)) (l₁ := ([oX1 ty h11 a11 g7] : List va_W)) (l₂ := ([oCB ty (g1.2 6), oCB ty (g1.2 7), oCB ty (g1.2 8), oCB ty (g1.2 9)] : List va_W))).trans (List.Perm.cons _ ((List.perm_middle (a := (oCB ty (g1.2 6) : va_W)) (l₁ := ([oX1 ty h11 a11 g7] : List va_W)) (l₂ := ([oCB ty (g1.2 7), oCB ty (g1.2 8), oCB ty (g1.2 9)] : List va_W))).trans (List.Perm.cons _ ((List.perm_middle (a := (oCB ty (g1.2 7) : va_W)) (l₁ := ([oX1 ty h11 a11 g7] : List va_W)) (l₂ := ([oCB ty (g1.2 8), oCB ty (g1.2 9)] : List va_W))).trans (List.Perm.cons _ ((List.perm_middle (a := (oCB ty (g1.2 8) : va_W)) (l₁ := ([oX1 ty h11 a11 g7] : List va_W)) (l₂ := ([oCB ty (g1.2 9)] : List va_W))).trans (List.Perm.cons _ (List.perm_middle (a := (oCB ty (g1.2 9) : va_W)) (l₁ := ([oX1 ty h11 a11 g7] : List va_W)) (l₂ := ([] : List va_W))))))))))))))))))))))) : List.Perm ([oX1 ty h11 a11 g7, oX1 ty (g1.2 5).1.1 (g1.2 5).1.2 (g1.2 5).2, oXA ty h0 aa0 g1, oCB ty (g1.2 0), oCB ty (g1.2 1), oCB ty (g1.2 2), oCB ty (g1.2 3), oCB ty (g1.2 4), oCB ty (g1.2 6), oCB ty (g1.2 7), oCB ty (g1.2 8), oCB ty (g1.2 9)] : List va_W) ([oXA ty h0 aa0 g1, oCB ty (g1.2 0), oCB ty (g1.2 1), oCB ty (g1.2 2), oCB ty (g1.2 3), oCB ty (g1.2 4), oX1 ty (g1.2 5).1.1 (g1.2 5).1.2 (g1.2 5).2, oCB ty (g1.2 6), oCB ty (g1.2 7), oCB ty (g1.2 8), oCB ty (g1.2 9), oX1 ty h11 a11 g7] : List va_W)) hP hD hS hA (fun H locs hP hD hS => ?_)
      clear hp1 hv
      obtain hf := hf
      obtain ⟨e0, e1⟩ := tup2 hf
      rw [e0] at hP hD
      rw [e1] at hP hD
      exact CX_v F hr hlk hP hD hS dX0_undoLast_30
    replace hf := ite_f hf hc5
    by_cases hc6 : g1.1 = (6 : Int32)
    · replace hf := ite_t hf hc6
      refine W.eq (g2 := F0 m 27 ls [.ref (g1.2 6).1.1, .ref h11]) (by rw [hc6]; rfl) ?_
      obtain ⟨g8, hv, hf⟩ := obd hf
      have hp1 : List.Perm [oXA ty h0 aa0 g1, oCB ty (g1.2 0), oCB ty (g1.2 1), oCB ty (g1.2 2), oCB ty (g1.2 3), oCB ty (g1.2 4), oCB ty (g1.2 5), oX1 ty (g1.2 6).1.1 (g1.2 6).1.2 (g1.2 6).2, oCB ty (g1.2 7), oCB ty (g1.2 8), oCB ty (g1.2 9), oX1 ty h11 a11 z11] ([oX1 ty h11 a11 z11, oX1 ty (g1.2 6).1.1 (g1.2 6).1.2 (g1.2 6).2] ++ [oXA ty h0 aa0 g1, oCB ty (g1.2 0), oCB ty (g1.2 1), oCB ty (g1.2 2), oCB ty (g1.2 3), oCB ty (g1.2 4), oCB ty (g1.2 5), oCB ty (g1.2 7), oCB ty (g1.2 8), oCB ty (g1.2 9)]) := (((List.perm_middle (a := (oX1 ty h11 a11 z11 : va_W)) (l₁ := ([oXA ty h0 aa0 g1, oCB ty (g1.2 0), oCB ty (g1.2 1), oCB ty (g1.2 2), oCB ty (g1.2 3), oCB ty (g1.2 4), oCB ty (g1.2 5), oX1 ty (g1.2 6).1.1 (g1.2 6).1.2 (g1.2 6).2, oCB ty (g1.2 7), oCB ty (g1.2 8), oCB ty (g1.2 9)] : List va_W)) (l₂ := ([] : List va_W))).trans (List.Perm.cons _ (List.perm_middle (a := (oX1 ty (g1.2 6).1.1 (g1.2 6).1.2 (g1.2 6).2 : va_W)) (l₁ := ([oXA ty h0 aa0 g1, oCB ty (g1.2 0), oCB ty (g1.2 1), oCB ty (g1.2 2), oCB ty (g1.2 3), oCB ty (g1.2 4), oCB ty (g1.2 5)] : List va_W)) (l₂ := ([oCB ty (g1.2 7), oCB ty (g1.2 8), oCB ty (g1.2 9)] : List va_W))))) : List.Perm ([oXA ty h0 aa0 g1, oCB ty (g1.2 0), oCB ty (g1.2 1), oCB ty (g1.2 2), oCB ty (g1.2 3), oCB ty (g1.2 4), oCB ty (g1.2 5), oX1 ty (g1.2 6).1.1 (g1.2 6).1.2 (g1.2 6).2, oCB ty (g1.2 7), oCB ty (g1.2 8), oCB ty (g1.2 9), oX1 ty h11 a11 z11] : List va_W) ([oX1 ty h11 a11 z11, oX1 ty (g1.2 6).1.1 (g1.2 6).1.2 (g1.2 6).2, oXA ty h0 aa0 g1, oCB ty (g1.2 0), oCB ty (g1.2 1), oCB ty (g1.2 2), oCB ty (g1.2 3), oCB ty (g1.2 4), oCB ty (g1.2 5), oCB ty (g1.2 7), oCB ty (g1.2 8), oCB ty (g1.2 9)] : List va_W))
      refine cv_call (os := [oXA ty h0 aa0 g1, oCB ty (g1.2 0), oCB ty (g1.2 1), oCB ty (g1.2 2), oCB ty (g1.2 3), oCB ty (g1.2 4), oCB ty (g1.2 5), oX1 ty (g1.2 6).1.1 (g1.2 6).1.2 (g1.2 6).2, oCB ty (g1.2 7), oCB ty (g1.2 8), oCB ty (g1.2 9), oX1 ty h11 a11 z11]) (oc := [oX1 ty h11 a11 z11, oX1 ty (g1.2 6).1.1 (g1.2 6).1.2 (g1.2 6).2]) (oc' := [oX1 ty h11 a11 g8, oX1 ty (g1.2 6).1.1 (g1.2 6).1.2 (g1.2 6).2]) (or_ := [oXA ty h0 aa0 g1, oCB ty (g1.2 0), oCB ty (g1.2 1), oCB ty (g1.2 2), oCB ty (g1.2 3), oCB ty (g1.2 4), oCB ty (g1.2 5), oCB ty (g1.2 7), oCB ty (g1.2 8), oCB ty (g1.2 9)]) (os' := [oXA ty h0 aa0 g1, oCB ty (g1.2 0), oCB ty (g1.2 1), oCB ty (g1.2 2), oCB ty (g1.2 3), oCB ty (g1.2 4), oCB ty (g1.2 5), oX1 ty (g1.2 6).1.1 (g1.2 6).1.2 (g1.2 6).2, oCB ty (g1.2 7), oCB ty (g1.2 8), oCB ty (g1.2 9), oX1 ty h11 a11 g8]) (va_runV (As := [.ref (g1.2 6).1.1]) (rest := []) F (c_X1_copyRings l D ty h11 a11 (g1.2 6).1.1 (g1.2 6).1.2 _ _ _ hv _) (cwV 1 F.2.2.2.2 gX0_undoLast_X1_copyRings rfl rfl rfl ⟨rfl, hd_X1_copyRings⟩ ⟨Nat.le_of_ble_eq_true rfl, Nat.le_of_ble_eq_true rfl⟩) (pre_v hK hP hD hp1 rfl rfl rfl) rfl rfl hl.1 rfl (lv_room (Nat.le_of_ble_eq_true rfl)) dX0_undoLast_27 ⟨Nat.zero_le _, Nat.zero_le _⟩) hp1 (((List.perm_middle (a := (oXA ty h0 aa0 g1 : va_W)) (l₁ := ([oX1 ty h11 a11 g8, oX1 ty (g1.2 6).1.1 (g1.2 6).1.2 (g1.2 6).2] : List va_W)) (l₂ := ([oCB ty (g1.2 0), oCB ty (g1.2 1), oCB ty (g1.2 2), oCB ty (g1.2 3), oCB ty (g1.2 4), oCB ty (g1.2 5), oCB ty (g1.2 7), oCB ty (g1.2 8), oCB ty (g1.2 9)] : List va_W))).trans (List.Perm.cons _ ((List.perm_middle (a := (oCB ty (g1.2 0) : va_W)) (l₁ := ([oX1 ty h11 a11 g8, oX1 ty (g1.2 6).1.1 (g1.2 6).1.2 (g1.2 6).2] : List va_W)) (l₂ := ([oCB ty (g1.2 1), oCB ty (g1.2 2), oCB ty (g1.2 3), oCB ty (g1.2 4), oCB ty (g1.2 5), oCB ty (g1.2 7), oCB ty (g1.2 8), oCB ty (g1.2 9)] : List va_W))).trans (List.Perm.cons _ ((List.perm_middle (a := (oCB ty (g1.2 1) : va_W)) (l₁ := ([oX1 ty h11 a11 g8, oX1 ty (g1.2 6).1.1 (g1.2 6).1.2 (g1.2 6).2] : List va_W)) (l₂ := ([oCB ty (g1.2 2), oCB ty (g1.2 3), oCB ty (g1.2 4), oCB ty (g1.2 5), oCB ty (g1.2 7), oCB ty (g1.2 8), oCB ty (g1.2 9)] : List va_W))).trans (List.Perm.cons _ ((List.perm_middle (a := (oCB ty (g1.2 2) : va_W)) (l₁ := ([oX1 ty h11 a11 g8, oX1 ty (g1.2 6).1.1 (g1.2 6).1.2 (g1.2 6).2] : List va_W)) (l₂ := ([oCB ty (g1.2 3), oCB ty (g1.2 4), oCB ty (g1.2 5), oCB ty (g1.2 7), oCB ty (g1.2 8), oCB ty (g1.2 9)] : List va_W))).trans (List.Perm.cons _ ((List.perm_middle (a := (oCB ty (g1.2 3) : va_W)) (l₁ := ([oX1 ty h11 a11 g8, oX1 ty (g1.2 6).1.1 (g1.2 6).1.2 (g1.2 6).2] : List va_W)) (l₂ := ([oCB ty (g1.2 4), oCB ty (g1.2 5), oCB ty (g1.2 7), oCB ty (g1.2 8), oCB ty (g1.2 9)] : List va_W))).trans (List.Perm.cons _ ((List.perm_middle (a := (oCB ty (g1.2 4) : va_W)) (l₁ := ([oX1 ty h11 a11 g8, oX1 ty (g1.2 6).1.1 (g1.2 6).1.2 (g1.2 6).2] : List va_W)) (l₂ := ([oCB ty (g1.2 5), oCB ty (g1.2 7), oCB ty (g1.2 8), oCB ty (g1.2 9)] : List va_W))).trans (List.Perm.cons _ ((List.perm_middle (a := (oCB ty (g1.2 5) : va_W)) (l₁ := ([oX1 ty h11 a11 g8, oX1 ty (g1.2 6).1.1 (g1.2 6).1.2 (g1.2 6).2] : List va_W)) (l₂ := ([oCB ty (g1.2 7), oCB ty (g1.2 8), oCB ty (g1.2 9)] : List va_W))).trans (List.Perm.cons _ ((List.perm_middle (a := (oX1 ty (g1.2 6).1.1 (g1.2 6).1.2 (g1.2 6).2 : va_W)) (l₁ := ([oX1 ty h11 a11 g8] : List va_W)) (l₂ := ([oCB ty (g1.2 7), oCB ty (g1.2 8), oCB ty (g1.2 9)] : List va_W))).trans (List.Perm.cons _ ((List.perm_middle (a := (oCB ty (g1.2 7) : va_W)) (l₁ := ([oX1 ty h11 a11 g8] : List va_W)) (l₂ := ([oCB ty (g1.2 8), oCB ty (g1.2 9)] : List va_W))).trans (List.Perm.cons _ ((List.perm_middle (a := (oCB ty (g1.2 8) : va_W)) (l₁ := ([oX1 ty h11 a11 g8] : List va_W)) (l₂ := ([oCB ty (g1.2 9)] : List va_W))).trans (List.Perm.cons _ (List.perm_middle (a := (oCB ty (g1.2 9) : va_W)) (l₁ := ([oX1 ty h11 a11 g8] : List va_W)) (l₂ := ([] : List va_W))))))))))))))))))))))) : List.Perm ([oX1 ty h11 a11 g8, oX1 ty (g1.2 6).1.1 (g1.2 6).1.2 (g1.2 6).2, oXA ty h0 aa0 g1, oCB ty (g1.2 0), oCB ty (g1.2 1), oCB ty (g1.2 2), oCB ty (g1.2 3), oCB ty (g1.2 4), oCB ty (g1.2 5), oCB ty (g1.2 7), oCB ty (g1.2 8), oCB ty (g1.2 9)] : List va_W) ([oXA ty h0 aa0 g1, oCB ty (g1.2 0), oCB ty (g1.2 1), oCB ty (g1.2 2), oCB ty (g1.2 3), oCB ty (g1.2 4), oCB ty (g1.2 5), oX1 ty (g1.2 6).1.1 (g1.2 6).1.2 (g1.2 6).2, oCB ty (g1.2 7), oCB ty (g1.2 8), oCB ty (g1.2 9), oX1 ty h11 a11 g8] : List va_W)) hP hD hS hA (fun H locs hP hD hS => ?_)
      clear hp1 hv
      obtain hf := hf
      obtain ⟨e0, e1⟩ := tup2 hf
      rw [e0] at hP hD
      rw [e1] at hP hD
      exact CX_v F hr hlk hP hD hS dX0_undoLast_30
    replace hf := ite_f hf hc6
    by_cases hc7 : g1.1 = (7 : Int32)
    · replace hf := ite_t hf hc7
      refine W.eq (g2 := F0 m 27 ls [.ref (g1.2 7).1.1, .ref h11]) (by rw [hc7]; rfl) ?_
      obtain ⟨g9, hv, hf⟩ := obd hf
      have hp1 : List.Perm [oXA ty h0 aa0 g1, oCB ty (g1.2 0), oCB ty (g1.2 1), oCB ty (g1.2 2), oCB ty (g1.2 3), oCB ty (g1.2 4), oCB ty (g1.2 5), oCB ty (g1.2 6), oX1 ty (g1.2 7).1.1 (g1.2 7).1.2 (g1.2 7).2, oCB ty (g1.2 8), oCB ty (g1.2 9), oX1 ty h11 a11 z11] ([oX1 ty h11 a11 z11, oX1 ty (g1.2 7).1.1 (g1.2 7).1.2 (g1.2 7).2] ++ [oXA ty h0 aa0 g1, oCB ty (g1.2 0), oCB ty (g1.2 1), oCB ty (g1.2 2), oCB ty (g1.2 3), oCB ty (g1.2 4), oCB ty (g1.2 5), oCB ty (g1.2 6), oCB ty (g1.2 8), oCB ty (g1.2 9)]) := (((List.perm_middle (a := (oX1 ty h11 a11 z11 : va_W)) (l₁ := ([oXA ty h0 aa0 g1, oCB ty (g1.2 0), oCB ty (g1.2 1), oCB ty (g1.2 2), oCB ty (g1.2 3), oCB ty (g1.2 4), oCB ty (g1.2 5), oCB ty (g1.2 6), oX1 ty (g1.2 7).1.1 (g1.2 7).1.2 (g1.2 7).2, oCB ty (g1.2 8), oCB ty (g1.2 9)] : List va_W)) (l₂ := ([] : List va_W))).trans (List.Perm.cons _ (List.perm_middle (a := (oX1 ty (g1.2 7).1.1 (g1.2 7).1.2 (g1.2 7).2 : va_W)) (l₁ := ([oXA ty h0 aa0 g1, oCB ty (g1.2 0), oCB ty (g1.2 1), oCB ty (g1.2 2), oCB ty (g1.2 3), oCB ty (g1.2 4), oCB ty (g1.2 5), oCB ty (g1.2 6)] : List va_W)) (l₂ := ([oCB ty (g1.2 8), oCB ty (g1.2 9)] : List va_W))))) : List.Perm ([oXA ty h0 aa0 g1, oCB ty (g1.2 0), oCB ty (g1.2 1), oCB ty (g1.2 2), oCB ty (g1.2 3), oCB ty (g1.2 4), oCB ty (g1.2 5), oCB ty (g1.2 6), oX1 ty (g1.2 7).1.1 (g1.2 7).1.2 (g1.2 7).2, oCB ty (g1.2 8), oCB ty (g1.2 9), oX1 ty h11 a11 z11] : List va_W) ([oX1 ty h11 a11 z11, oX1 ty (g1.2 7).1.1 (g1.2 7).1.2 (g1.2 7).2, oXA ty h0 aa0 g1, oCB ty (g1.2 0), oCB ty (g1.2 1), oCB ty (g1.2 2), oCB ty (g1.2 3), oCB ty (g1.2 4), oCB ty (g1.2 5), oCB ty (g1.2 6), oCB ty (g1.2 8), oCB ty (g1.2 9)] : List va_W))
      refine cv_call (os := [oXA ty h0 aa0 g1, oCB ty (g1.2 0), oCB ty (g1.2 1), oCB ty (g1.2 2), oCB ty (g1.2 3), oCB ty (g1.2 4), oCB ty (g1.2 5), oCB ty (g1.2 6), oX1 ty (g1.2 7).1.1 (g1.2 7).1.2 (g1.2 7).2, oCB ty (g1.2 8), oCB ty (g1.2 9), oX1 ty h11 a11 z11]) (oc := [oX1 ty h11 a11 z11, oX1 ty (g1.2 7).1.1 (g1.2 7).1.2 (g1.2 7).2]) (oc' := [oX1 ty h11 a11 g9, oX1 ty (g1.2 7).1.1 (g1.2 7).1.2 (g1.2 7).2]) (or_ := [oXA ty h0 aa0 g1, oCB ty (g1.2 0), oCB ty (g1.2 1), oCB ty (g1.2 2), oCB ty (g1.2 3), oCB ty (g1.2 4), oCB ty (g1.2 5), oCB ty (g1.2 6), oCB ty (g1.2 8), oCB ty (g1.2 9)]) (os' := [oXA ty h0 aa0 g1, oCB ty (g1.2 0), oCB ty (g1.2 1), oCB ty (g1.2 2), oCB ty (g1.2 3), oCB ty (g1.2 4), oCB ty (g1.2 5), oCB ty (g1.2 6), oX1 ty (g1.2 7).1.1 (g1.2 7).1.2 (g1.2 7).2, oCB ty (g1.2 8), oCB ty (g1.2 9), oX1 ty h11 a11 g9]) (va_runV (As := [.ref (g1.2 7).1.1]) (rest := []) F (c_X1_copyRings l D ty h11 a11 (g1.2 7).1.1 (g1.2 7).1.2 _ _ _ hv _) (cwV 1 F.2.2.2.2 gX0_undoLast_X1_copyRings rfl rfl rfl ⟨rfl, hd_X1_copyRings⟩ ⟨Nat.le_of_ble_eq_true rfl, Nat.le_of_ble_eq_true rfl⟩) (pre_v hK hP hD hp1 rfl rfl rfl) rfl rfl hl.1 rfl (lv_room (Nat.le_of_ble_eq_true rfl)) dX0_undoLast_27 ⟨Nat.zero_le _, Nat.zero_le _⟩) hp1 (((List.perm_middle (a := (oXA ty h0 aa0 g1 : va_W)) (l₁ := ([oX1 ty h11 a11 g9, oX1 ty (g1.2 7).1.1 (g1.2 7).1.2 (g1.2 7).2] : List va_W)) (l₂ := ([oCB ty (g1.2 0), oCB ty (g1.2 1), oCB ty (g1.2 2), oCB ty (g1.2 3), oCB ty (g1.2 4), oCB ty (g1.2 5), oCB ty (g1.2 6), oCB ty (g1.2 8), oCB ty (g1.2 9)] : List va_W))).trans (List.Perm.cons _ ((List.perm_middle (a := (oCB ty (g1.2 0) : va_W)) (l₁ := ([oX1 ty h11 a11 g9, oX1 ty (g1.2 7).1.1 (g1.2 7).1.2 (g1.2 7).2] : List va_W)) (l₂ := ([oCB ty (g1.2 1), oCB ty (g1.2 2), oCB ty (g1.2 3), oCB ty (g1.2 4), oCB ty (g1.2 5), oCB ty (g1.2 6), oCB ty (g1.2 8), oCB ty (g1.2 9)] : List va_W))).trans (List.Perm.cons _ ((List.perm_middle (a := (oCB ty (g1.2 1) : va_W)) (l₁ := ([oX1 ty h11 a11 g9, oX1 ty (g1.2 7).1.1 (g1.2 7).1.2 (g1.2 7).2] : List va_W)) (l₂ := ([oCB ty (g1.2 2), oCB ty (g1.2 3), oCB ty (g1.2 4), oCB ty (g1.2 5), oCB ty (g1.2 6), oCB ty (g1.2 8), oCB ty (g1.2 9)] : List va_W))).trans (List.Perm.cons _ ((List.perm_middle (a := (oCB ty (g1.2 2) : va_W)) (l₁ := ([oX1 ty h11 a11 g9, oX1 ty (g1.2 7).1.1 (g1.2 7).1.2 (g1.2 7).2] : List va_W)) (l₂ := ([oCB ty (g1.2 3), oCB ty (g1.2 4), oCB ty (g1.2 5), oCB ty (g1.2 6), oCB ty (g1.2 8), oCB ty (g1.2 9)] : List va_W))).trans (List.Perm.cons _ ((List.perm_middle (a := (oCB ty (g1.2 3) : va_W)) (l₁ := ([oX1 ty h11 a11 g9, oX1 ty (g1.2 7).1.1 (g1.2 7).1.2 (g1.2 7).2] : List va_W)) (l₂ := ([oCB ty (g1.2 4), oCB ty (g1.2 5), oCB ty (g1.2 6), oCB ty (g1.2 8), oCB ty (g1.2 9)] : List va_W))).trans (List.Perm.cons _ ((List.perm_middle (a := (oCB ty (g1.2 4) : va_W)) (l₁ := ([oX1 ty h11 a11 g9, oX1 ty (g1.2 7).1.1 (g1.2 7).1.2 (g1.2 7).2] : List va_W)) (l₂ := ([oCB ty (g1.2 5), oCB ty (g1.2 6), oCB ty (g1.2 8), oCB ty (g1.2 9)] : List va_W))).trans (List.Perm.cons _ ((List.perm_middle (a := (oCB ty (g1.2 5) : va_W)) (l₁ := ([oX1 ty h11 a11 g9, oX1 ty (g1.2 7).1.1 (g1.2 7).1.2 (g1.2 7).2] : List va_W)) (l₂ := ([oCB ty (g1.2 6), oCB ty (g1.2 8), oCB ty (g1.2 9)] : List va_W))).trans (List.Perm.cons _ ((List.perm_middle (a := (oCB ty (g1.2 6) : va_W)) (l₁ := ([oX1 ty h11 a11 g9, oX1 ty (g1.2 7).1.1 (g1.2 7).1.2 (g1.2 7).2] : List va_W)) (l₂ := ([oCB ty (g1.2 8), oCB ty (g1.2 9)] : List va_W))).trans (List.Perm.cons _ ((List.perm_middle (a := (oX1 ty (g1.2 7).1.1 (g1.2 7).1.2 (g1.2 7).2 : va_W)) (l₁ := ([oX1 ty h11 a11 g9] : List va_W)) (l₂ := ([oCB ty (g1.2 8), oCB ty (g1.2 9)] : List va_W))).trans (List.Perm.cons _ ((List.perm_middle (a := (oCB ty (g1.2 8) : va_W)) (l₁ := ([oX1 ty h11 a11 g9] : List va_W)) (l₂ := ([oCB ty (g1.2 9)] : List va_W))).trans (List.Perm.cons _ (List.perm_middle (a := (oCB ty (g1.2 9) : va_W)) (l₁ := ([oX1 ty h11 a11 g9] : List va_W)) (l₂ := ([] : List va_W))))))))))))))))))))))) : List.Perm ([oX1 ty h11 a11 g9, oX1 ty (g1.2 7).1.1 (g1.2 7).1.2 (g1.2 7).2, oXA ty h0 aa0 g1, oCB ty (g1.2 0), oCB ty (g1.2 1), oCB ty (g1.2 2), oCB ty (g1.2 3), oCB ty (g1.2 4), oCB ty (g1.2 5), oCB ty (g1.2 6), oCB ty (g1.2 8), oCB ty (g1.2 9)] : List va_W) ([oXA ty h0 aa0 g1, oCB ty (g1.2 0), oCB ty (g1.2 1), oCB ty (g1.2 2), oCB ty (g1.2 3), oCB ty (g1.2 4), oCB ty (g1.2 5), oCB ty (g1.2 6), oX1 ty (g1.2 7).1.1 (g1.2 7).1.2 (g1.2 7).2, oCB ty (g1.2 8), oCB ty (g1.2 9), oX1 ty h11 a11 g9] : List va_W)) hP hD hS hA (fun H locs hP hD hS => ?_)
      clear hp1 hv
      obtain hf := hf
      obtain ⟨e0, e1⟩ := tup2 hf
      rw [e0] at hP hD
      rw [e1] at hP hD
      exact CX_v F hr hlk hP hD hS dX0_undoLast_30
    replace hf := ite_f hf hc7
    by_cases hc8 : g1.1 = (8 : Int32)
    · replace hf := ite_t hf hc8
      refine W.eq (g2 := F0 m 27 ls [.ref (g1.2 8).1.1, .ref h11]) (by rw [hc8]; rfl) ?_
      obtain ⟨g10, hv, hf⟩ := obd hf
      have hp1 : List.Perm [oXA ty h0 aa0 g1, oCB ty (g1.2 0), oCB ty (g1.2 1), oCB ty (g1.2 2), oCB ty (g1.2 3), oCB ty (g1.2 4), oCB ty (g1.2 5), oCB ty (g1.2 6), oCB ty (g1.2 7), oX1 ty (g1.2 8).1.1 (g1.2 8).1.2 (g1.2 8).2, oCB ty (g1.2 9), oX1 ty h11 a11 z11] ([oX1 ty h11 a11 z11, oX1 ty (g1.2 8).1.1 (g1.2 8).1.2 (g1.2 8).2] ++ [oXA ty h0 aa0 g1, oCB ty (g1.2 0), oCB ty (g1.2 1), oCB ty (g1.2 2), oCB ty (g1.2 3), oCB ty (g1.2 4), oCB ty (g1.2 5), oCB ty (g1.2 6), oCB ty (g1.2 7), oCB ty (g1.2 9)]) := (((List.perm_middle (a := (oX1 ty h11 a11 z11 : va_W)) (l₁ := ([oXA ty h0 aa0 g1, oCB ty (g1.2 0), oCB ty (g1.2 1), oCB ty (g1.2 2), oCB ty (g1.2 3), oCB ty (g1.2 4), oCB ty (g1.2 5), oCB ty (g1.2 6), oCB ty (g1.2 7), oX1 ty (g1.2 8).1.1 (g1.2 8).1.2 (g1.2 8).2, oCB ty (g1.2 9)] : List va_W)) (l₂ := ([] : List va_W))).trans (List.Perm.cons _ (List.perm_middle (a := (oX1 ty (g1.2 8).1.1 (g1.2 8).1.2 (g1.2 8).2 : va_W)) (l₁ := ([oXA ty h0 aa0 g1, oCB ty (g1.2 0), oCB ty (g1.2 1), oCB ty (g1.2 2), oCB ty (g1.2 3), oCB ty (g1.2 4), oCB ty (g1.2 5), oCB ty (g1.2 6), oCB ty (g1.2 7)] : List va_W)) (l₂ := ([oCB ty (g1.2 9)] : List va_W))))) : List.Perm ([oXA ty h0 aa0 g1, oCB ty (g1.2 0), oCB ty (g1.2 1), oCB ty (g1.2 2), oCB ty (g1.2 3), oCB ty (g1.2 4), oCB ty (g1.2 5), oCB ty (g1.2 6), oCB ty (g1.2 7), oX1 ty (g1.2 8).1.1 (g1.2 8).1.2 (g1.2 8).2, oCB ty (g1.2 9), oX1 ty h11 a11 z11] : List va_W) ([oX1 ty h11 a11 z11, oX1 ty (g1.2 8).1.1 (g1.2 8).1.2 (g1.2 8).2, oXA ty h0 aa0 g1, oCB ty (g1.2 0), oCB ty (g1.2 1), oCB ty (g1.2 2), oCB ty (g1.2 3), oCB ty (g1.2 4), oCB ty (g1.2 5), oCB ty (g1.2 6), oCB ty (g1.2 7), oCB ty (g1.2 9)] : List va_W))
      refine cv_call (os := [oXA ty h0 aa0 g1, oCB ty (g1.2 0), oCB ty (g1.2 1), oCB ty (g1.2 2), oCB ty (g1.2 3), oCB ty (g1.2 4), oCB ty (g1.2 5), oCB ty (g1.2 6), oCB ty (g1.2 7), oX1 ty (g1.2 8).1.1 (g1.2 8).1.2 (g1.2 8).2, oCB ty (g1.2 9), oX1 ty h11 a11 z11]) (oc := [oX1 ty h11 a11 z11, oX1 ty (g1.2 8).1.1 (g1.2 8).1.2 (g1.2 8).2]) (oc' := [oX1 ty h11 a11 g10, oX1 ty (g1.2 8).1.1 (g1.2 8).1.2 (g1.2 8).2]) (or_ := [oXA ty h0 aa0 g1, oCB ty (g1.2 0), oCB ty (g1.2 1), oCB ty (g1.2 2), oCB ty (g1.2 3), oCB ty (g1.2 4), oCB ty (g1.2 5), oCB ty (g1.2 6), oCB ty (g1.2 7), oCB ty (g1.2 9)]) (os' := [oXA ty h0 aa0 g1, oCB ty (g1.2 0), oCB ty (g1.2 1), oCB ty (g1.2 2), oCB ty (g1.2 3), oCB ty (g1.2 4), oCB ty (g1.2 5), oCB ty (g1.2 6), oCB ty (g1.2 7), oX1 ty (g1.2 8).1.1 (g1.2 8).1.2 (g1.2 8).2, oCB ty (g1.2 9), oX1 ty h11 a11 g10]) (va_runV (As := [.ref (g1.2 8).1.1]) (rest := []) F (c_X1_copyRings l D ty h11 a11 (g1.2 8).1.1 (g1.2 8).1.2 _ _ _ hv _) (cwV 1 F.2.2.2.2 gX0_undoLast_X1_copyRings rfl rfl rfl ⟨rfl, hd_X1_copyRings⟩ ⟨Nat.le_of_ble_eq_true rfl, Nat.le_of_ble_eq_true rfl⟩) (pre_v hK hP hD hp1 rfl rfl rfl) rfl rfl hl.1 rfl (lv_room (Nat.le_of_ble_eq_true rfl)) dX0_undoLast_27 ⟨Nat.zero_le _, Nat.zero_le _⟩) hp1 (((List.perm_middle (a := (oXA ty h0 aa0 g1 : va_W)) (l₁ := ([oX1 ty h11 a11 g10, oX1 ty (g1.2 8).1.1 (g1.2 8).1.2 (g1.2 8).2] : List va_W)) (l₂ := ([oCB ty (g1.2 0), oCB ty (g1.2 1), oCB ty (g1.2 2), oCB ty (g1.2 3), oCB ty (g1.2 4), oCB ty (g1.2 5), oCB ty (g1.2 6), oCB ty (g1.2 7), oCB ty (g1.2 9)] : List va_W))).trans (List.Perm.cons _ ((List.perm_middle (a := (oCB ty (g1.2 0) : va_W)) (l₁ := ([oX1 ty h11 a11 g10, oX1 ty (g1.2 8).1.1 (g1.2 8).1.2 (g1.2 8).2] : List va_W)) (l₂ := ([oCB ty (g1.2 1), oCB ty (g1.2 2), oCB ty (g1.2 3), oCB ty (g1.2 4), oCB ty (g1.2 5), oCB ty (g1.2 6), oCB ty (g1.2 7), oCB ty (g1.2 9)] : List va_W))).trans (List.Perm.cons _ ((List.perm_middle (a := (oCB ty (g1.2 1) : va_W)) (l₁ := ([oX1 ty h11 a11 g10, oX1 ty (g1.2 8).1.1 (g1.2 8).1.2 (g1.2 8).2] : List va_W)) (l₂ := ([oCB ty (g1.2 2), oCB ty (g1.2 3), oCB ty (g1.2 4), oCB ty (g1.2 5), oCB ty (g1.2 6), oCB ty (g1.2 7), oCB ty (g1.2 9)] : List va_W))).trans (List.Perm.cons _ ((List.perm_middle (a := (oCB ty (g1.2 2) : va_W)) (l₁ := ([oX1 ty h11 a11 g10, oX1 ty (g1.2 8).1.1 (g1.2 8).1.2 (g1.2 8).2] : List va_W)) (l₂ := ([oCB ty (g1.2 3), oCB ty (g1.2 4), oCB ty (g1.2 5), oCB ty (g1.2 6), oCB ty (g1.2 7), oCB ty (g1.2 9)] : List va_W))).trans (List.Perm.cons _ ((List.perm_middle (a := (oCB ty (g1.2 3) : va_W)) (l₁ := ([oX1 ty h11 a11 g10, oX1 ty (g1.2 8).1.1 (g1.2 8).1.2 (g1.2 8).2] : List va_W)) (l₂ := ([oCB ty (g1.2 4), oCB ty (g1.2 5), oCB ty (g1.2 6), oCB ty (g1.2 7), oCB ty (g1.2 9)] : List va_W))).trans (List.Perm.cons _ ((List.perm_middle (a := (oCB ty (g1.2 4) : va_W)) (l₁ := ([oX1 ty h11 a11 g10, oX1 ty (g1.2 8).1.1 (g1.2 8).1.2 (g1.2 8).2] : List va_W)) (l₂ := ([oCB ty (g1.2 5), oCB ty (g1.2 6), oCB ty (g1.2 7), oCB ty (g1.2 9)] : List va_W))).trans (List.Perm.cons _ ((List.perm_middle (a := (oCB ty (g1.2 5) : va_W)) (l₁ := ([oX1 ty h11 a11 g10, oX1 ty (g1.2 8).1.1 (g1.2 8).1.2 (g1.2 8).2] : List va_W)) (l₂ := ([oCB ty (g1.2 6), oCB ty (g1.2 7), oCB ty (g1.2 9)] : List va_W))).trans (List.Perm.cons _ ((List.perm_middle (a := (oCB ty (g1.2 6) : va_W)) (l₁ := ([oX1 ty h11 a11 g10, oX1 ty (g1.2 8).1.1 (g1.2 8).1.2 (g1.2 8).2] : List va_W)) (l₂ := ([oCB ty (g1.2 7), oCB ty (g1.2 9)] : List va_W))).trans (List.Perm.cons _ ((List.perm_middle (a := (oCB ty (g1.2 7) : va_W)) (l₁ := ([oX1 ty h11 a11 g10, oX1 ty (g1.2 8).1.1 (g1.2 8).1.2 (g1.2 8).2] : List va_W)) (l₂ := ([oCB ty (g1.2 9)] : List va_W))).trans (List.Perm.cons _ ((List.perm_middle (a := (oX1 ty (g1.2 8).1.1 (g1.2 8).1.2 (g1.2 8).2 : va_W)) (l₁ := ([oX1 ty h11 a11 g10] : List va_W)) (l₂ := ([oCB ty (g1.2 9)] : List va_W))).trans (List.Perm.cons _ (List.perm_middle (a := (oCB ty (g1.2 9) : va_W)) (l₁ := ([oX1 ty h11 a11 g10] : List va_W)) (l₂ := ([] : List va_W))))))))))))))))))))))) : List.Perm ([oX1 ty h11 a11 g10, oX1 ty (g1.2 8).1.1 (g1.2 8).1.2 (g1.2 8).2, oXA ty h0 aa0 g1, oCB ty (g1.2 0), oCB ty (g1.2 1), oCB ty (g1.2 2), oCB ty (g1.2 3), oCB ty (g1.2 4), oCB ty (g1.2 5), oCB ty (g1.2 6), oCB ty (g1.2 7), oCB ty (g1.2 9)] : List va_W) ([oXA ty h0 aa0 g1, oCB ty (g1.2 0), oCB ty (g1.2 1), oCB ty (g1.2 2), oCB ty (g1.2 3), oCB ty (g1.2 4), oCB ty (g1.2 5), oCB ty (g1.2 6), oCB ty (g1.2 7), oX1 ty (g1.2 8).1.1 (g1.2 8).1.2 (g1.2 8).2, oCB ty (g1.2 9), oX1 ty h11 a11 g10] : List va_W)) hP hD hS hA (fun H locs hP hD hS => ?_)
      clear hp1 hv
      obtain hf := hf
      obtain ⟨e0, e1⟩ := tup2 hf
      rw [e0] at hP hD
      rw [e1] at hP hD
      exact CX_v F hr hlk hP hD hS dX0_undoLast_30
    replace hf := ite_f hf hc8
    by_cases hc9 : g1.1 = (9 : Int32)
    · replace hf := ite_t hf hc9
      refine W.eq (g2 := F0 m 27 ls [.ref (g1.2 9).1.1, .ref h11]) (by rw [hc9]; rfl) ?_
      obtain ⟨g11, hv, hf⟩ := obd hf
      have hp1 : List.Perm [oXA ty h0 aa0 g1, oCB ty (g1.2 0), oCB ty (g1.2 1), oCB ty (g1.2 2), oCB ty (g1.2 3), oCB ty (g1.2 4), oCB ty (g1.2 5), oCB ty (g1.2 6), oCB ty (g1.2 7), oCB ty (g1.2 8), oX1 ty (g1.2 9).1.1 (g1.2 9).1.2 (g1.2 9).2, oX1 ty h11 a11 z11] ([oX1 ty h11 a11 z11, oX1 ty (g1.2 9).1.1 (g1.2 9).1.2 (g1.2 9).2] ++ [oXA ty h0 aa0 g1, oCB ty (g1.2 0), oCB ty (g1.2 1), oCB ty (g1.2 2), oCB ty (g1.2 3), oCB ty (g1.2 4), oCB ty (g1.2 5), oCB ty (g1.2 6), oCB ty (g1.2 7), oCB ty (g1.2 8)]) := (((List.perm_middle (a := (oX1 ty h11 a11 z11 : va_W)) (l₁ := ([oXA ty h0 aa0 g1, oCB ty (g1.2 0), oCB ty (g1.2 1), oCB ty (g1.2 2), oCB ty (g1.2 3), oCB ty (g1.2 4), oCB ty (g1.2 5), oCB ty (g1.2 6), oCB ty (g1.2 7), oCB ty (g1.2 8), oX1 ty (g1.2 9).1.1 (g1.2 9).1.2 (g1.2 9).2] : List va_W)) (l₂ := ([] : List va_W))).trans (List.Perm.cons _ (List.perm_middle (a := (oX1 ty (g1.2 9).1.1 (g1.2 9).1.2 (g1.2 9).2 : va_W)) (l₁ := ([oXA ty h0 aa0 g1, oCB ty (g1.2 0), oCB ty (g1.2 1), oCB ty (g1.2 2), oCB ty (g1.2 3), oCB ty (g1.2 4), oCB ty (g1.2 5), oCB ty (g1.2 6), oCB ty (g1.2 7), oCB ty (g1.2 8)] : List va_W)) (l₂ := ([] : List va_W))))) : List.Perm ([oXA ty h0 aa0 g1, oCB ty (g1.2 0), oCB ty (g1.2 1), oCB ty (g1.2 2), oCB ty (g1.2 3), oCB ty (g1.2 4), oCB ty (g1.2 5), oCB ty (g1.2 6), oCB ty (g1.2 7), oCB ty (g1.2 8), oX1 ty (g1.2 9).1.1 (g1.2 9).1.2 (g1.2 9).2, oX1 ty h11 a11 z11] : List va_W) ([oX1 ty h11 a11 z11, oX1 ty (g1.2 9).1.1 (g1.2 9).1.2 (g1.2 9).2, oXA ty h0 aa0 g1, oCB ty (g1.2 0), oCB ty (g1.2 1), oCB ty (g1.2 2), oCB ty (g1.2 3), oCB ty (g1.2 4), oCB ty (g1.2 5), oCB ty (g1.2 6), oCB ty (g1.2 7), oCB ty (g1.2 8)] : List va_W))
      refine cv_call (os := [oXA ty h0 aa0 g1, oCB ty (g1.2 0), oCB ty (g1.2 1), oCB ty (g1.2 2), oCB ty (g1.2 3), oCB ty (g1.2 4), oCB ty (g1.2 5), oCB ty (g1.2 6), oCB ty (g1.2 7), oCB ty (g1.2 8), oX1 ty (g1.2 9).1.1 (g1.2 9).1.2 (g1.2 9).2, oX1 ty h11 a11 z11]) (oc := [oX1 ty h11 a11 z11, oX1 ty (g1.2 9).1.1 (g1.2 9).1.2 (g1.2 9).2]) (oc' := [oX1 ty h11 a11 g11, oX1 ty (g1.2 9).1.1 (g1.2 9).1.2 (g1.2 9).2]) (or_ := [oXA ty h0 aa0 g1, oCB ty (g1.2 0), oCB ty (g1.2 1), oCB ty (g1.2 2), oCB ty (g1.2 3), oCB ty (g1.2 4), oCB ty (g1.2 5), oCB ty (g1.2 6), oCB ty (g1.2 7), oCB ty (g1.2 8)]) (os' := [oXA ty h0 aa0 g1, oCB ty (g1.2 0), oCB ty (g1.2 1), oCB ty (g1.2 2), oCB ty (g1.2 3), oCB ty (g1.2 4), oCB ty (g1.2 5), oCB ty (g1.2 6), oCB ty (g1.2 7), oCB ty (g1.2 8), oX1 ty (g1.2 9).1.1 (g1.2 9).1.2 (g1.2 9).2, oX1 ty h11 a11 g11]) (va_runV (As := [.ref (g1.2 9).1.1]) (rest := []) F (c_X1_copyRings l D ty h11 a11 (g1.2 9).1.1 (g1.2 9).1.2 _ _ _ hv _) (cwV 1 F.2.2.2.2 gX0_undoLast_X1_copyRings rfl rfl rfl ⟨rfl, hd_X1_copyRings⟩ ⟨Nat.le_of_ble_eq_true rfl, Nat.le_of_ble_eq_true rfl⟩) (pre_v hK hP hD hp1 rfl rfl rfl) rfl rfl hl.1 rfl (lv_room (Nat.le_of_ble_eq_true rfl)) dX0_undoLast_27 ⟨Nat.zero_le _, Nat.zero_le _⟩) hp1 (((List.perm_middle (a := (oXA ty h0 aa0 g1 : va_W)) (l₁ := ([oX1 ty h11 a11 g11, oX1 ty (g1.2 9).1.1 (g1.2 9).1.2 (g1.2 9).2] : List va_W)) (l₂ := ([oCB ty (g1.2 0), oCB ty (g1.2 1), oCB ty (g1.2 2), oCB ty (g1.2 3), oCB ty (g1.2 4), oCB ty (g1.2 5), oCB ty (g1.2 6), oCB ty (g1.2 7), oCB ty (g1.2 8)] : List va_W))).trans (List.Perm.cons _ ((List.perm_middle (a := (oCB ty (g1.2 0) : va_W)) (l₁ := ([oX1 ty h11 a11 g11, oX1 ty (g1.2 9).1.1 (g1.2 9).1.2 (g1.2 9).2] : List va_W)) (l₂ := ([oCB ty (g1.2 1), oCB ty (g1.2 2), oCB ty (g1.2 3), oCB ty (g1.2 4), oCB ty (g1.2 5), oCB ty (g1.2 6), oCB ty (g1.2 7), oCB ty (g1.2 8)] : List va_W))).trans (List.Perm.cons _ ((List.perm_middle (a := (oCB ty (g1.2 1) : va_W)) (l₁ := ([oX1 ty h11 a11 g11, oX1 ty (g1.2 9).1.1 (g1.2 9).1.2 (g1.2 9).2] : List va_W)) (l₂ := ([oCB ty (g1.2 2), oCB ty (g1.2 3), oCB ty (g1.2 4), oCB ty (g1.2 5), oCB ty (g1.2 6), oCB ty (g1.2 7), oCB ty (g1.2 8)] : List va_W))).trans (List.Perm.cons _ ((List.perm_middle (a := (oCB ty (g1.2 2) : va_W)) (l₁ := ([oX1 ty h11 a11 g11, oX1 ty (g1.2 9).1.1 (g1.2 9).1.2 (g1.2 9).2] : List va_W)) (l₂ := ([oCB ty (g1.2 3), oCB ty (g1.2 4), oCB ty (g1.2 5), oCB ty (g1.2 6), oCB ty (g1.2 7), oCB ty (g1.2 8)] : List va_W))).trans (List.Perm.cons _ ((List.perm_middle (a := (oCB ty (g1.2 3) : va_W)) (l₁ := ([oX1 ty h11 a11 g11, oX1 ty (g1.2 9).1.1 (g1.2 9).1.2 (g1.2 9).2] : List va_W)) (l₂ := ([oCB ty (g1.2 4), oCB ty (g1.2 5), oCB ty (g1.2 6), oCB ty (g1.2 7), oCB ty (g1.2 8)] : List va_W))).trans (List.Perm.cons _ ((List.perm_middle (a := (oCB ty (g1.2 4) : va_W)) (l₁ := ([oX1 ty h11 a11 g11, oX1 ty (g1.2 9).1.1 (g1.2 9).1.2 (g1.2 9).2] : List va_W)) (l₂ := ([oCB ty (g1.2 5), oCB ty (g1.2 6), oCB ty (g1.2 7), oCB ty (g1.2 8)] : List va_W))).trans (List.Perm.cons _ ((List.perm_middle (a := (oCB ty (g1.2 5) : va_W)) (l₁ := ([oX1 ty h11 a11 g11, oX1 ty (g1.2 9).1.1 (g1.2 9).1.2 (g1.2 9).2] : List va_W)) (l₂ := ([oCB ty (g1.2 6), oCB ty (g1.2 7), oCB ty (g1.2 8)] : List va_W))).trans (List.Perm.cons _ ((List.perm_middle (a := (oCB ty (g1.2 6) : va_W)) (l₁ := ([oX1 ty h11 a11 g11, oX1 ty (g1.2 9).1.1 (g1.2 9).1.2 (g1.2 9).2] : List va_W)) (l₂ := ([oCB ty (g1.2 7), oCB ty (g1.2 8)] : List va_W))).trans (List.Perm.cons _ ((List.perm_middle (a := (oCB ty (g1.2 7) : va_W)) (l₁ := ([oX1 ty h11 a11 g11, oX1 ty (g1.2 9).1.1 (g1.2 9).1.2 (g1.2 9).2] : List va_W)) (l₂ := ([oCB ty (g1.2 8)] : List va_W))).trans (List.Perm.cons _ ((List.perm_middle (a := (oCB ty (g1.2 8) : va_W)) (l₁ := ([oX1 ty h11 a11 g11, oX1 ty (g1.2 9).1.1 (g1.2 9).1.2 (g1.2 9).2] : List va_W)) (l₂ := ([] : List va_W))).trans (List.Perm.cons _ (List.perm_middle (a := (oX1 ty (g1.2 9).1.1 (g1.2 9).1.2 (g1.2 9).2 : va_W)) (l₁ := ([oX1 ty h11 a11 g11] : List va_W)) (l₂ := ([] : List va_W))))))))))))))))))))))) : List.Perm ([oX1 ty h11 a11 g11, oX1 ty (g1.2 9).1.1 (g1.2 9).1.2 (g1.2 9).2, oXA ty h0 aa0 g1, oCB ty (g1.2 0), oCB ty (g1.2 1), oCB ty (g1.2 2), oCB ty (g1.2 3), oCB ty (g1.2 4), oCB ty (g1.2 5), oCB ty (g1.2 6), oCB ty (g1.2 7), oCB ty (g1.2 8)] : List va_W) ([oXA ty h0 aa0 g1, oCB ty (g1.2 0), oCB ty (g1.2 1), oCB ty (g1.2 2), oCB ty (g1.2 3), oCB ty (g1.2 4), oCB ty (g1.2 5), oCB ty (g1.2 6), oCB ty (g1.2 7), oCB ty (g1.2 8), oX1 ty (g1.2 9).1.1 (g1.2 9).1.2 (g1.2 9).2, oX1 ty h11 a11 g11] : List va_W)) hP hD hS hA (fun H locs hP hD hS => ?_)
      clear hp1 hv
      obtain hf := hf
      obtain ⟨e0, e1⟩ := tup2 hf
      rw [e0] at hP hD
      rw [e1] at hP hD
      exact CX_v F hr hlk hP hD hS dX0_undoLast_30
    replace hf := ite_f hf hc9
    cases hf
def f_X3_clear (z0 : AS) : Option (AS) := bnd (((0 : Int32), z0.2) : AS) (fun g1 => some g1)
abbrev rm_X3_clear : Room := { frames := 0, cells := 0, slots := 0, locals := 0 }
theorem hd_X3_clear : yX3_clear.cls ≠ "java/lang/invoke/MethodHandle" ∧ yX3_clear.cls ≠ "java/lang/invoke/VarHandle" ∧ (parseMethodDescriptor yX3_clear.desc).map (fun d => d.parameters.length) = some 0 := by decide +kernel
theorem in_X3_clear_X3 : ∀ w ∈ wsX30, w ∈ wsX3_clear := fun w h => List.mem_cons_of_mem _ (List.mem_append_right _ h)
set_option maxHeartbeats 4000000 in
set_option maxRecDepth 100000 in
theorem c_X3_clear (l : Launch) (D : va_G) (ty : TY) (h0 : Nat) (aa0 : Nat) (z0 : AS) (o0 : AS) (hf : f_X3_clear z0 = some o0) (sz : Nat) : CX l yX3_clear wsX3_clear rm_X3_clear ([.ref h0] : List Value) D ty (fl [oX3 ty h0 aa0 z0]) sz (qV D (fl [oX3 ty h0 aa0 o0])) 0 0 := by
  refine CX_of (cc := cX3_clear) (maxL := 1) (ret := none) (C := RX3) (by decide) rfl rfl (Nat.le_of_ble_eq_true rfl) ?_
  intro p e s m below meth c A ls F hr hlk _ hK hP hD hS hA hl
  have hx := F.1
  have hb := F.2.1
  replace hl : lv_has ls 1 [(0, .ref h0)] := hl
  replace hP : va_P D vwC (fl [oXS ty h0 aa0 z0, oCB ty (z0.2 0), oCB ty (z0.2 1)]) s.heap := hP
  replace hD : va_D A (fl [oXS ty h0 aa0 z0, oCB ty (z0.2 0), oCB ty (z0.2 1)]) := hD
  unfold f_X3_clear at hf
  refine lv_aload_n hx hb dX3_clear_0 rfl (lv_at hl 0 rfl) ?_
  refine lv_iconst (v := (0 : Int32)) hx hb dX3_clear_1 (by decide) ?_
  refine pt_put (D := D) (ci := 3) (fty := .int) (C := RX3) (T := TX3) (N := 2) (w1 := fl [oXS ty h0 aa0 (((0 : Int32), z0.2) : AS), oCB ty ((((0 : Int32), z0.2) : AS).2 0), oCB ty ((((0 : Int32), z0.2) : AS).2 1)]) F in_X3_clear_X3 tyX3 tyX3_ok nmX3 hK.1 hP hD hS 0 rfl rfl 1 (Nat.le_of_ble_eq_true rfl) (F.2.2.2.2 (.fieldLink RX3 18 "LouderRoom$Slots" "filled" "I") (List.mem_of_getElem? (i := 1) rfl)) (fun _ h9 => h9) rfl (by decide +kernel) rfl rfl (Nat.le_of_ble_eq_true rfl) rfl dX3_clear_2 (fun H locs hP hD hS => ?_)
  obtain ⟨g1, ex⟩ : ∃ y : AS, y = (((0 : Int32), z0.2) : AS) := ⟨_, rfl⟩
  replace hf := bnd_at hf ex; rw [← ex] at hP hD; clear ex
  obtain hf := hf
  have e0 := Option.some.inj hf
  rw [e0] at hP hD
  exact CX_v F hr hlk hP hD hS dX3_clear_5
def f_X3_isKept (z0 : AS) (p1 : Int32) : Option (Int32) := (if ((z0.1 >>> (p1 &&& 31)) &&& (1 : Int32)) = (1 : Int32) then some (1 : Int32) else some (0 : Int32))
abbrev rm_X3_isKept : Room := { frames := 0, cells := 0, slots := 0, locals := 0 }
theorem hd_X3_isKept : yX3_isKept.cls ≠ "java/lang/invoke/MethodHandle" ∧ yX3_isKept.cls ≠ "java/lang/invoke/VarHandle" ∧ (parseMethodDescriptor yX3_isKept.desc).map (fun d => d.parameters.length) = some 1 := by decide +kernel
theorem in_X3_isKept_X3 : ∀ w ∈ wsX30, w ∈ wsX3_isKept := fun w h => List.mem_cons_of_mem _ (List.mem_append_right _ h)
set_option maxHeartbeats 4000000 in
set_option maxRecDepth 100000 in
theorem c_X3_isKept (l : Launch) (D : va_G) (ty : TY) (h0 : Nat) (aa0 : Nat) (z0 : AS) (p1 : Int32) (o0 : Int32) (hf : f_X3_isKept z0 p1 = some o0) (sz : Nat) : CX l yX3_isKept wsX3_isKept rm_X3_isKept ([.ref h0, .int p1] : List Value) D ty (fl [oX3 ty h0 aa0 z0]) sz (qI D o0 (fl [oX3 ty h0 aa0 z0])) 0 0 := by
  refine CX_of (cc := cX3_isKept) (maxL := 2) (ret := (some .boolean)) (C := RX3) (by decide) rfl rfl (Nat.le_of_ble_eq_true rfl) ?_
  intro p e s m below meth c A ls F hr hlk _ hK hP hD hS hA hl
  have hx := F.1
  have hb := F.2.1
  replace hl : lv_has ls 2 [(0, .ref h0), (1, .int p1)] := hl
  replace hP : va_P D vwC (fl [oXS ty h0 aa0 z0, oCB ty (z0.2 0), oCB ty (z0.2 1)]) s.heap := hP
  replace hD : va_D A (fl [oXS ty h0 aa0 z0, oCB ty (z0.2 0), oCB ty (z0.2 1)]) := hD
  unfold f_X3_isKept at hf
  refine lv_aload_n hx hb dX3_isKept_0 rfl (lv_at hl 0 rfl) ?_
  refine va_get (D := D) (ci := 3) (C := RX3) (T := TX3) (N := 2) hx hb F.2.2.2.2 in_X3_isKept_X3 F.2.2.2.1 hK.1 hP 0 rfl rfl 1 (Nat.le_of_ble_eq_true rfl) (F.2.2.2.2 (.fieldLink RX3 18 "LouderRoom$Slots" "filled" "I") (List.mem_of_getElem? (i := 1) rfl)) (fun _ h9 => h9) rfl dX3_isKept_1 ?_
  refine lv_iload_n hx hb dX3_isKept_4 rfl (lv_at hl 1 rfl) ?_
  refine lv_ishr hx hb dX3_isKept_5 ?_
  refine lv_iconst (v := (1 : Int32)) hx hb dX3_isKept_6 (by decide) ?_
  refine lv_iand hx hb dX3_isKept_7 ?_
  refine lv_iconst (v := (1 : Int32)) hx hb dX3_isKept_8 (by decide) ?_
  refine lv_icmp_ne (tgt := 16) hx hb dX3_isKept_9 (by decide) (fun hc => ?_) (fun hc => ?_)
  · replace hf := ite_f hf hc
    refine lv_iconst (v := (0 : Int32)) hx hb dX3_isKept_16 (by decide) ?_
    obtain hf := hf
    have e0 := Option.some.inj hf
    exact CX_z F hr hlk hP hD hS narrow_b0 e0 dX3_isKept_17
  · replace hf := ite_t hf hc
    refine lv_iconst (v := (1 : Int32)) hx hb dX3_isKept_12 (by decide) ?_
    refine lv_goto (tgt := 17) hx hb dX3_isKept_13 (by decide) ?_
    obtain hf := hf
    have e0 := Option.some.inj hf
    exact CX_z F hr hlk hP hD hS narrow_b1 e0 dX3_isKept_17
def f_X3_put (z0 : AS) (z3 : Ob) (p1 : Int32) : Option (AS) := (if inb p1 2 = true then (if p1 = (0 : Int32) then (f_X1_copyFrom (z0.2 0).2 z3).bind (fun g1 => bnd ((z0.1, pI z0.2 0 ((z0.2 0).1, g1)) : AS) (fun g2 => bnd (((g2.1 ||| ((1 : Int32) <<< (p1 &&& 31))), g2.2) : AS) (fun g3 => some g3))) else (if p1 = (1 : Int32) then (f_X1_copyFrom (z0.2 1).2 z3).bind (fun g4 => bnd ((z0.1, pI z0.2 1 ((z0.2 1).1, g4)) : AS) (fun g5 => bnd (((g5.1 ||| ((1 : Int32) <<< (p1 &&& 31))), g5.2) : AS) (fun g6 => some g6))) else none)) else none)
abbrev rm_X3_put : Room := { frames := 2, cells := 0, slots := 0, locals := 43 }
theorem hd_X3_put : yX3_put.cls ≠ "java/lang/invoke/MethodHandle" ∧ yX3_put.cls ≠ "java/lang/invoke/VarHandle" ∧ (parseMethodDescriptor yX3_put.desc).map (fun d => d.parameters.length) = some 2 := by decide +kernel
theorem in_X3_put_X3 : ∀ w ∈ wsX30, w ∈ wsX3_put := fun w h => List.mem_cons_of_mem _ (List.mem_append_left _ (List.mem_append_right _ h))
set_option maxHeartbeats 4000000 in
set_option maxRecDepth 100000 in
theorem c_X3_put (l : Launch) (D : va_G) (ty : TY) (h0 : Nat) (aa0 : Nat) (h3 : Nat) (a3 : Nat → Nat) (z0 : AS) (z3 : Ob) (p1 : Int32) (o0 : AS) (hf : f_X3_put z0 z3 p1 = some o0) (sz : Nat) : CX l yX3_put wsX3_put rm_X3_put ([.ref h0, .int p1, .ref h3] : List Value) D ty (fl [oX3 ty h0 aa0 z0, oX1 ty h3 a3 z3]) sz (qV D (fl [oX3 ty h0 aa0 o0, oX1 ty h3 a3 z3])) 0 0 := by
  refine CX_of (cc := cX3_put) (maxL := 3) (ret := none) (C := RX3) (by decide) rfl rfl (Nat.le_of_ble_eq_true rfl) ?_
  intro p e s m below meth c A ls F hr hlk _ hK hP hD hS hA hl
  have hx := F.1
  have hb := F.2.1
  replace hl : lv_has ls 3 [(0, .ref h0), (1, .int p1), (2, .ref h3)] := hl
  replace hP : va_P D vwC (fl [oXS ty h0 aa0 z0, oCB ty (z0.2 0), oCB ty (z0.2 1), oX1 ty h3 a3 z3]) s.heap := hP
  replace hD : va_D A (fl [oXS ty h0 aa0 z0, oCB ty (z0.2 0), oCB ty (z0.2 1), oX1 ty h3 a3 z3]) := hD
  unfold f_X3_put at hf
  refine lv_aload_n hx hb dX3_put_0 rfl (lv_at hl 0 rfl) ?_
  refine va_get (D := D) (ci := 3) (C := RX3) (T := TX3) (N := 2) hx hb F.2.2.2.2 in_X3_put_X3 F.2.2.2.1 hK.1 hP 0 rfl rfl 0 (Nat.le_of_ble_eq_true rfl) (F.2.2.2.2 (.fieldLink RX3 11 "LouderRoom$Slots" "kept" "[LLouderRoom$Crowd;") (List.mem_of_getElem? (i := 1) rfl)) (fun _ h9 => h9) rfl dX3_put_1 ?_
  refine lv_iload_n hx hb dX3_put_4 rfl (lv_at hl 1 rfl) ?_
  obtain ⟨hi, hf⟩ := grd hf
  refine va_aldq hx hb hK.1 hP 1 3 rfl rfl (inb_in hi) dX3_put_5 ?_
  by_cases hc0 : p1 = (0 : Int32)
  · replace hf := ite_t hf hc0
    refine W.eq (g2 := F0 m 6 ls [.ref (z0.2 0).1.1]) (by rw [hc0]; rfl) ?_
    refine lv_aload_n hx hb dX3_put_6 rfl (lv_at hl 2 rfl) ?_
    obtain ⟨g1, hv, hf⟩ := obd hf
    have hp1 : List.Perm [oXS ty h0 aa0 z0, oX1 ty (z0.2 0).1.1 (z0.2 0).1.2 (z0.2 0).2, oCB ty (z0.2 1), oX1 ty h3 a3 z3] ([oX1 ty (z0.2 0).1.1 (z0.2 0).1.2 (z0.2 0).2, oX1 ty h3 a3 z3] ++ [oXS ty h0 aa0 z0, oCB ty (z0.2 1)]) := (((List.perm_middle (a := (oX1 ty (z0.2 0).1.1 (z0.2 0).1.2 (z0.2 0).2 : va_W)) (l₁ := ([oXS ty h0 aa0 z0] : List va_W)) (l₂ := ([oCB ty (z0.2 1), oX1 ty h3 a3 z3] : List va_W))).trans (List.Perm.cons _ (List.perm_middle (a := (oX1 ty h3 a3 z3 : va_W)) (l₁ := ([oXS ty h0 aa0 z0, oCB ty (z0.2 1)] : List va_W)) (l₂ := ([] : List va_W))))) : List.Perm ([oXS ty h0 aa0 z0, oX1 ty (z0.2 0).1.1 (z0.2 0).1.2 (z0.2 0).2, oCB ty (z0.2 1), oX1 ty h3 a3 z3] : List va_W) ([oX1 ty (z0.2 0).1.1 (z0.2 0).1.2 (z0.2 0).2, oX1 ty h3 a3 z3, oXS ty h0 aa0 z0, oCB ty (z0.2 1)] : List va_W))
    refine cv_call (os := [oXS ty h0 aa0 z0, oX1 ty (z0.2 0).1.1 (z0.2 0).1.2 (z0.2 0).2, oCB ty (z0.2 1), oX1 ty h3 a3 z3]) (oc := [oX1 ty (z0.2 0).1.1 (z0.2 0).1.2 (z0.2 0).2, oX1 ty h3 a3 z3]) (oc' := [oX1 ty (z0.2 0).1.1 (z0.2 0).1.2 g1, oX1 ty h3 a3 z3]) (or_ := [oXS ty h0 aa0 z0, oCB ty (z0.2 1)]) (os' := [oXS ty h0 aa0 z0, oX1 ty (z0.2 0).1.1 (z0.2 0).1.2 g1, oCB ty (z0.2 1), oX1 ty h3 a3 z3]) (va_runV (As := [.ref h3]) (rest := []) F (c_X1_copyFrom l D ty (z0.2 0).1.1 (z0.2 0).1.2 h3 a3 _ _ _ hv _) (cwV 1 F.2.2.2.2 gX3_put_X1_copyFrom rfl rfl rfl ⟨rfl, hd_X1_copyFrom⟩ ⟨Nat.le_of_ble_eq_true rfl, Nat.le_of_ble_eq_true rfl⟩) (pre_v hK hP hD hp1 rfl rfl rfl) rfl rfl hl.1 rfl (lv_room (Nat.le_of_ble_eq_true rfl)) dX3_put_7 ⟨Nat.zero_le _, Nat.zero_le _⟩) hp1 (((List.perm_middle (a := (oXS ty h0 aa0 z0 : va_W)) (l₁ := ([oX1 ty (z0.2 0).1.1 (z0.2 0).1.2 g1, oX1 ty h3 a3 z3] : List va_W)) (l₂ := ([oCB ty (z0.2 1)] : List va_W))).trans (List.Perm.cons _ (List.Perm.cons _ (List.perm_middle (a := (oCB ty (z0.2 1) : va_W)) (l₁ := ([oX1 ty h3 a3 z3] : List va_W)) (l₂ := ([] : List va_W)))))) : List.Perm ([oX1 ty (z0.2 0).1.1 (z0.2 0).1.2 g1, oX1 ty h3 a3 z3, oXS ty h0 aa0 z0, oCB ty (z0.2 1)] : List va_W) ([oXS ty h0 aa0 z0, oX1 ty (z0.2 0).1.1 (z0.2 0).1.2 g1, oCB ty (z0.2 1), oX1 ty h3 a3 z3] : List va_W)) hP hD hS hA (fun H locs hP hD hS => ?_)
    clear hp1 hv
    rw [← oXS_up ty h0 aa0 z0 0 g1] at hP hD
    replace hP : va_P D vwC (fl [oXS ty h0 aa0 ((z0.1, pI z0.2 0 ((z0.2 0).1, g1)) : AS), oCB ty (((z0.1, pI z0.2 0 ((z0.2 0).1, g1)) : AS).2 0), oCB ty (((z0.1, pI z0.2 0 ((z0.2 0).1, g1)) : AS).2 1), oX1 ty h3 a3 z3]) H := hP
    replace hD : va_D A (fl [oXS ty h0 aa0 ((z0.1, pI z0.2 0 ((z0.2 0).1, g1)) : AS), oCB ty (((z0.1, pI z0.2 0 ((z0.2 0).1, g1)) : AS).2 0), oCB ty (((z0.1, pI z0.2 0 ((z0.2 0).1, g1)) : AS).2 1), oX1 ty h3 a3 z3]) := hD
    obtain ⟨g2, ex⟩ : ∃ y : AS, y = ((z0.1, pI z0.2 0 ((z0.2 0).1, g1)) : AS) := ⟨_, rfl⟩
    replace hf := bnd_at hf ex; rw [← ex] at hP hD; clear ex
    refine lv_aload_n hx hb dX3_put_10 rfl (lv_at hl 0 rfl) ?_
    refine lv_dup hx hb dX3_put_11 rfl ?_
    refine va_get (D := D) (ci := 3) (C := RX3) (T := TX3) (N := 2) hx hb F.2.2.2.2 in_X3_put_X3 F.2.2.2.1 hK.1 hP 0 rfl rfl 1 (Nat.le_of_ble_eq_true rfl) (F.2.2.2.2 (.fieldLink RX3 18 "LouderRoom$Slots" "filled" "I") (List.mem_of_getElem? (i := 2) rfl)) (fun _ h9 => h9) rfl dX3_put_12 ?_
    refine lv_iconst (v := (1 : Int32)) hx hb dX3_put_15 (by decide) ?_
    refine lv_iload_n hx hb dX3_put_16 rfl (lv_at hl 1 rfl) ?_
    refine lv_ishl hx hb dX3_put_17 ?_
    refine lv_ior hx hb dX3_put_18 ?_
    refine pt_put (D := D) (ci := 3) (fty := .int) (C := RX3) (T := TX3) (N := 2) (w1 := fl [oXS ty h0 aa0 (((g2.1 ||| ((1 : Int32) <<< (p1 &&& 31))), g2.2) : AS), oCB ty ((((g2.1 ||| ((1 : Int32) <<< (p1 &&& 31))), g2.2) : AS).2 0), oCB ty ((((g2.1 ||| ((1 : Int32) <<< (p1 &&& 31))), g2.2) : AS).2 1), oX1 ty h3 a3 z3]) F in_X3_put_X3 tyX3 tyX3_ok nmX3 hK.1 hP hD hS 0 rfl rfl 1 (Nat.le_of_ble_eq_true rfl) (F.2.2.2.2 (.fieldLink RX3 18 "LouderRoom$Slots" "filled" "I") (List.mem_of_getElem? (i := 2) rfl)) (fun _ h9 => h9) rfl (by decide +kernel) rfl rfl (Nat.le_of_ble_eq_true rfl) rfl dX3_put_19 (fun H locs hP hD hS => ?_)
    obtain ⟨g3, ex⟩ : ∃ y : AS, y = (((g2.1 ||| ((1 : Int32) <<< (p1 &&& 31))), g2.2) : AS) := ⟨_, rfl⟩
    replace hf := bnd_at hf ex; rw [← ex] at hP hD; clear ex
    obtain hf := hf
    have e0 := Option.some.inj hf
    rw [e0] at hP hD
    exact CX_v F hr hlk hP hD hS dX3_put_22
  replace hf := ite_f hf hc0
  by_cases hc1 : p1 = (1 : Int32)
  · replace hf := ite_t hf hc1
    refine W.eq (g2 := F0 m 6 ls [.ref (z0.2 1).1.1]) (by rw [hc1]; rfl) ?_
    refine lv_aload_n hx hb dX3_put_6 rfl (lv_at hl 2 rfl) ?_
    obtain ⟨g4, hv, hf⟩ := obd hf
    have hp1 : List.Perm [oXS ty h0 aa0 z0, oCB ty (z0.2 0), oX1 ty (z0.2 1).1.1 (z0.2 1).1.2 (z0.2 1).2, oX1 ty h3 a3 z3] ([oX1 ty (z0.2 1).1.1 (z0.2 1).1.2 (z0.2 1).2, oX1 ty h3 a3 z3] ++ [oXS ty h0 aa0 z0, oCB ty (z0.2 0)]) := (((List.perm_middle (a := (oX1 ty (z0.2 1).1.1 (z0.2 1).1.2 (z0.2 1).2 : va_W)) (l₁ := ([oXS ty h0 aa0 z0, oCB ty (z0.2 0)] : List va_W)) (l₂ := ([oX1 ty h3 a3 z3] : List va_W))).trans (List.Perm.cons _ (List.perm_middle (a := (oX1 ty h3 a3 z3 : va_W)) (l₁ := ([oXS ty h0 aa0 z0, oCB ty (z0.2 0)] : List va_W)) (l₂ := ([] : List va_W))))) : List.Perm ([oXS ty h0 aa0 z0, oCB ty (z0.2 0), oX1 ty (z0.2 1).1.1 (z0.2 1).1.2 (z0.2 1).2, oX1 ty h3 a3 z3] : List va_W) ([oX1 ty (z0.2 1).1.1 (z0.2 1).1.2 (z0.2 1).2, oX1 ty h3 a3 z3, oXS ty h0 aa0 z0, oCB ty (z0.2 0)] : List va_W))
    refine cv_call (os := [oXS ty h0 aa0 z0, oCB ty (z0.2 0), oX1 ty (z0.2 1).1.1 (z0.2 1).1.2 (z0.2 1).2, oX1 ty h3 a3 z3]) (oc := [oX1 ty (z0.2 1).1.1 (z0.2 1).1.2 (z0.2 1).2, oX1 ty h3 a3 z3]) (oc' := [oX1 ty (z0.2 1).1.1 (z0.2 1).1.2 g4, oX1 ty h3 a3 z3]) (or_ := [oXS ty h0 aa0 z0, oCB ty (z0.2 0)]) (os' := [oXS ty h0 aa0 z0, oCB ty (z0.2 0), oX1 ty (z0.2 1).1.1 (z0.2 1).1.2 g4, oX1 ty h3 a3 z3]) (va_runV (As := [.ref h3]) (rest := []) F (c_X1_copyFrom l D ty (z0.2 1).1.1 (z0.2 1).1.2 h3 a3 _ _ _ hv _) (cwV 1 F.2.2.2.2 gX3_put_X1_copyFrom rfl rfl rfl ⟨rfl, hd_X1_copyFrom⟩ ⟨Nat.le_of_ble_eq_true rfl, Nat.le_of_ble_eq_true rfl⟩) (pre_v hK hP hD hp1 rfl rfl rfl) rfl rfl hl.1 rfl (lv_room (Nat.le_of_ble_eq_true rfl)) dX3_put_7 ⟨Nat.zero_le _, Nat.zero_le _⟩) hp1 (((List.perm_middle (a := (oXS ty h0 aa0 z0 : va_W)) (l₁ := ([oX1 ty (z0.2 1).1.1 (z0.2 1).1.2 g4, oX1 ty h3 a3 z3] : List va_W)) (l₂ := ([oCB ty (z0.2 0)] : List va_W))).trans (List.Perm.cons _ (List.perm_middle (a := (oCB ty (z0.2 0) : va_W)) (l₁ := ([oX1 ty (z0.2 1).1.1 (z0.2 1).1.2 g4, oX1 ty h3 a3 z3] : List va_W)) (l₂ := ([] : List va_W))))) : List.Perm ([oX1 ty (z0.2 1).1.1 (z0.2 1).1.2 g4, oX1 ty h3 a3 z3, oXS ty h0 aa0 z0, oCB ty (z0.2 0)] : List va_W) ([oXS ty h0 aa0 z0, oCB ty (z0.2 0), oX1 ty (z0.2 1).1.1 (z0.2 1).1.2 g4, oX1 ty h3 a3 z3] : List va_W)) hP hD hS hA (fun H locs hP hD hS => ?_)
    clear hp1 hv
    rw [← oXS_up ty h0 aa0 z0 1 g4] at hP hD
    replace hP : va_P D vwC (fl [oXS ty h0 aa0 ((z0.1, pI z0.2 1 ((z0.2 1).1, g4)) : AS), oCB ty (((z0.1, pI z0.2 1 ((z0.2 1).1, g4)) : AS).2 0), oCB ty (((z0.1, pI z0.2 1 ((z0.2 1).1, g4)) : AS).2 1), oX1 ty h3 a3 z3]) H := hP
    replace hD : va_D A (fl [oXS ty h0 aa0 ((z0.1, pI z0.2 1 ((z0.2 1).1, g4)) : AS), oCB ty (((z0.1, pI z0.2 1 ((z0.2 1).1, g4)) : AS).2 0), oCB ty (((z0.1, pI z0.2 1 ((z0.2 1).1, g4)) : AS).2 1), oX1 ty h3 a3 z3]) := hD
    obtain ⟨g5, ex⟩ : ∃ y : AS, y = ((z0.1, pI z0.2 1 ((z0.2 1).1, g4)) : AS) := ⟨_, rfl⟩
    replace hf := bnd_at hf ex; rw [← ex] at hP hD; clear ex
    refine lv_aload_n hx hb dX3_put_10 rfl (lv_at hl 0 rfl) ?_
    refine lv_dup hx hb dX3_put_11 rfl ?_
    refine va_get (D := D) (ci := 3) (C := RX3) (T := TX3) (N := 2) hx hb F.2.2.2.2 in_X3_put_X3 F.2.2.2.1 hK.1 hP 0 rfl rfl 1 (Nat.le_of_ble_eq_true rfl) (F.2.2.2.2 (.fieldLink RX3 18 "LouderRoom$Slots" "filled" "I") (List.mem_of_getElem? (i := 2) rfl)) (fun _ h9 => h9) rfl dX3_put_12 ?_
    refine lv_iconst (v := (1 : Int32)) hx hb dX3_put_15 (by decide) ?_
    refine lv_iload_n hx hb dX3_put_16 rfl (lv_at hl 1 rfl) ?_
    refine lv_ishl hx hb dX3_put_17 ?_
    refine lv_ior hx hb dX3_put_18 ?_
    refine pt_put (D := D) (ci := 3) (fty := .int) (C := RX3) (T := TX3) (N := 2) (w1 := fl [oXS ty h0 aa0 (((g5.1 ||| ((1 : Int32) <<< (p1 &&& 31))), g5.2) : AS), oCB ty ((((g5.1 ||| ((1 : Int32) <<< (p1 &&& 31))), g5.2) : AS).2 0), oCB ty ((((g5.1 ||| ((1 : Int32) <<< (p1 &&& 31))), g5.2) : AS).2 1), oX1 ty h3 a3 z3]) F in_X3_put_X3 tyX3 tyX3_ok nmX3 hK.1 hP hD hS 0 rfl rfl 1 (Nat.le_of_ble_eq_true rfl) (F.2.2.2.2 (.fieldLink RX3 18 "LouderRoom$Slots" "filled" "I") (List.mem_of_getElem? (i := 2) rfl)) (fun _ h9 => h9) rfl (by decide +kernel) rfl rfl (Nat.le_of_ble_eq_true rfl) rfl dX3_put_19 (fun H locs hP hD hS => ?_)
    obtain ⟨g6, ex⟩ : ∃ y : AS, y = (((g5.1 ||| ((1 : Int32) <<< (p1 &&& 31))), g5.2) : AS) := ⟨_, rfl⟩
    replace hf := bnd_at hf ex; rw [← ex] at hP hD; clear ex
    obtain hf := hf
    have e0 := Option.some.inj hf
    rw [e0] at hP hD
    exact CX_v F hr hlk hP hD hS dX3_put_22
  replace hf := ite_f hf hc1
  cases hf
def f_X3_at (z0 : AS) (p1 : Int32) : Option (Nat) := (if inb p1 2 = true then (if p1 = (0 : Int32) then some 0 else (if p1 = (1 : Int32) then some 1 else none)) else none)
abbrev rm_X3_at : Room := { frames := 0, cells := 0, slots := 0, locals := 0 }
theorem hd_X3_at : yX3_at.cls ≠ "java/lang/invoke/MethodHandle" ∧ yX3_at.cls ≠ "java/lang/invoke/VarHandle" ∧ (parseMethodDescriptor yX3_at.desc).map (fun d => d.parameters.length) = some 1 := by decide +kernel
theorem in_X3_at_X3 : ∀ w ∈ wsX30, w ∈ wsX3_at := fun w h => List.mem_cons_of_mem _ (List.mem_append_right _ h)
set_option maxHeartbeats 4000000 in
set_option maxRecDepth 100000 in
theorem c_X3_at (l : Launch) (D : va_G) (ty : TY) (h0 : Nat) (aa0 : Nat) (z0 : AS) (p1 : Int32) (o0 : Nat) (hf : f_X3_at z0 p1 = some o0) (sz : Nat) : CX l yX3_at wsX3_at rm_X3_at ([.ref h0, .int p1] : List Value) D ty (fl [oXS ty h0 aa0 z0, oCB ty (z0.2 0), oCB ty (z0.2 1)]) sz (qR D (z0.2 o0).1.1 (fl [oXS ty h0 aa0 z0, oCB ty (z0.2 0), oCB ty (z0.2 1)])) 0 0 := by
  refine CX_of (cc := cX3_at) (maxL := 2) (ret := (some (.object "LouderRoom$Crowd"))) (C := RX3) (by decide) rfl rfl (Nat.le_of_ble_eq_true rfl) ?_
  intro p e s m below meth c A ls F hr hlk _ hK hP hD hS hA hl
  have hx := F.1
  have hb := F.2.1
  replace hl : lv_has ls 2 [(0, .ref h0), (1, .int p1)] := hl
  replace hP : va_P D vwC (fl [oXS ty h0 aa0 z0, oCB ty (z0.2 0), oCB ty (z0.2 1)]) s.heap := hP
  replace hD : va_D A (fl [oXS ty h0 aa0 z0, oCB ty (z0.2 0), oCB ty (z0.2 1)]) := hD
  unfold f_X3_at at hf
  refine lv_aload_n hx hb dX3_at_0 rfl (lv_at hl 0 rfl) ?_
  refine va_get (D := D) (ci := 3) (C := RX3) (T := TX3) (N := 2) hx hb F.2.2.2.2 in_X3_at_X3 F.2.2.2.1 hK.1 hP 0 rfl rfl 0 (Nat.le_of_ble_eq_true rfl) (F.2.2.2.2 (.fieldLink RX3 11 "LouderRoom$Slots" "kept" "[LLouderRoom$Crowd;") (List.mem_of_getElem? (i := 1) rfl)) (fun _ h9 => h9) rfl dX3_at_1 ?_
  refine lv_iload_n hx hb dX3_at_4 rfl (lv_at hl 1 rfl) ?_
  obtain ⟨hi, hf⟩ := grd hf
  refine va_aldq hx hb hK.1 hP 1 3 rfl rfl (inb_in hi) dX3_at_5 ?_
  by_cases hc0 : p1 = (0 : Int32)
  · replace hf := ite_t hf hc0
    refine W.eq (g2 := F0 m 6 ls [.ref (z0.2 0).1.1]) (by rw [hc0]; rfl) ?_
    obtain hf := hf
    have e0 := Option.some.inj hf
    subst e0
    exact CX_r F hr hlk hP hD hS dX3_at_6
  replace hf := ite_f hf hc0
  by_cases hc1 : p1 = (1 : Int32)
  · replace hf := ite_t hf hc1
    refine W.eq (g2 := F0 m 6 ls [.ref (z0.2 1).1.1]) (by rw [hc1]; rfl) ?_
    obtain hf := hf
    have e0 := Option.some.inj hf
    subst e0
    exact CX_r F hr hlk hP hD hS dX3_at_6
  replace hf := ite_f hf hc1
  cases hf
def f_X6_write (z0 : Ob) (p1 : Int32) (p2 : Int64) : Option (Int32 × Ob) := (if p1 < (1 : Int32) then some ((-2 : Int32), z0) else (if p1 ≤ (8 : Int32) then bd2 (f_X4_append z0 p1 p2) (fun v1 g2 => some (v1, g2)) else some ((-2 : Int32), z0)))
abbrev rm_X6_write : Room := { frames := 1, cells := 0, slots := 0, locals := 24 }
theorem hd_X6_write : yX6_write.cls ≠ "java/lang/invoke/MethodHandle" ∧ yX6_write.cls ≠ "java/lang/invoke/VarHandle" ∧ (parseMethodDescriptor yX6_write.desc).map (fun d => d.parameters.length) = some 2 := by decide +kernel
theorem in_X6_write_X6 : ∀ w ∈ wsX60, w ∈ wsX6_write := fun w h => List.mem_cons_of_mem _ (List.mem_append_left _ (List.mem_append_right _ h))
set_option maxHeartbeats 4000000 in
set_option maxRecDepth 100000 in
theorem c_X6_write (l : Launch) (D : va_G) (ty : TY) (h0 : Nat) (r0 : Nat → Nat) (a0 : Nat → Nat) (z0 : Ob) (p1 : Int32) (p2 : Int64) (o0 : Int32) (o1 : Ob) (hf : f_X6_write z0 p1 p2 = some (o0, o1)) (sz : Nat) : CX l yX6_write wsX6_write rm_X6_write ([.ref h0, .int p1, .long p2] : List Value) D ty (fl [oX6 h0 r0, oX4 ty (r0 0) a0 z0]) sz (qI D o0 (fl [oX6 h0 r0, oX4 ty (r0 0) a0 o1])) 0 0 := by
  refine CX_of (cc := cX6_write) (maxL := 4) (ret := (some .int)) (C := RX6) (by decide) rfl rfl (Nat.le_of_ble_eq_true rfl) ?_
  intro p e s m below meth c A ls F hr hlk _ hK hP hD hS hA hl
  have hx := F.1
  have hb := F.2.1
  replace hl : lv_has ls 4 [(0, .ref h0), (1, .int p1), (2, .long p2)] := hl
  unfold f_X6_write at hf
  refine lv_iload_n hx hb dX6_write_0 rfl (lv_at hl 1 rfl) ?_
  refine lv_iconst (v := (1 : Int32)) hx hb dX6_write_1 (by decide) ?_
  refine lv_icmp_lt (tgt := 11) hx hb dX6_write_2 (by decide) (fun hc => ?_) (fun hc => ?_)
  · replace hf := ite_t hf hc
    refine lv_bipush (v := (-2 : Int32)) hx hb dX6_write_11 (by decide) ?_
    obtain hf := hf
    obtain ⟨e0, e1⟩ := tup2 hf
    rw [e1] at hP hD
    exact CX_i F hr hlk hP hD hS e0 dX6_write_13
  · replace hf := ite_f hf hc
    refine lv_iload_n hx hb dX6_write_5 rfl (lv_at hl 1 rfl) ?_
    refine lv_bipush (v := (8 : Int32)) hx hb dX6_write_6 (by decide) ?_
    refine lv_icmp_le (tgt := 14) hx hb dX6_write_8 (by decide) (fun hc => ?_) (fun hc => ?_)
    · replace hf := ite_t hf hc
      refine lv_aload_n hx hb dX6_write_14 rfl (lv_at hl 0 rfl) ?_
      refine va_get (D := D) (ci := 6) (C := RX6) (T := TX6) (N := 8) hx hb F.2.2.2.2 in_X6_write_X6 F.2.2.2.1 hK.1 hP 0 rfl rfl 0 (Nat.le_of_ble_eq_true rfl) (F.2.2.2.2 (.fieldLink RX6 10 "LouderRoom" "told" "LLouderRoom$Told;") (List.mem_of_getElem? (i := 1) rfl)) (fun _ h9 => h9) rfl dX6_write_15 ?_
      refine lv_iload_n hx hb dX6_write_18 rfl (lv_at hl 1 rfl) ?_
      refine lv_lload_n hx hb dX6_write_19 rfl (lv_at hl 2 rfl) ?_
      obtain ⟨v1, g2, hv, hf⟩ := obd2 hf
      have hp1 : List.Perm [oX6 h0 r0, oX4 ty (r0 0) a0 z0] ([oX4 ty (r0 0) a0 z0] ++ [oX6 h0 r0]) := ((List.perm_middle (a := (oX4 ty (r0 0) a0 z0 : va_W)) (l₁ := ([oX6 h0 r0] : List va_W)) (l₂ := ([] : List va_W))) : List.Perm ([oX6 h0 r0, oX4 ty (r0 0) a0 z0] : List va_W) ([oX4 ty (r0 0) a0 z0, oX6 h0 r0] : List va_W))
      refine ci_call (out := v1) (os := [oX6 h0 r0, oX4 ty (r0 0) a0 z0]) (oc := [oX4 ty (r0 0) a0 z0]) (oc' := [oX4 ty (r0 0) a0 g2]) (or_ := [oX6 h0 r0]) (os' := [oX6 h0 r0, oX4 ty (r0 0) a0 g2]) (va_runV (As := [.int p1, .long p2]) (rest := []) F (c_X4_append l D ty (r0 0) a0 _ _ _ _ _ hv _) (cwV 2 F.2.2.2.2 gX6_write_X4_append rfl rfl rfl ⟨rfl, hd_X4_append⟩ ⟨Nat.le_of_ble_eq_true rfl, Nat.le_of_ble_eq_true rfl⟩) (pre_v hK hP hD hp1 rfl rfl rfl) rfl rfl hl.1 rfl (lv_room (Nat.le_of_ble_eq_true rfl)) dX6_write_20 ⟨Nat.zero_le _, Nat.zero_le _⟩) hp1 ((List.perm_middle (a := (oX6 h0 r0 : va_W)) (l₁ := ([oX4 ty (r0 0) a0 g2] : List va_W)) (l₂ := ([] : List va_W))) : List.Perm ([oX4 ty (r0 0) a0 g2, oX6 h0 r0] : List va_W) ([oX6 h0 r0, oX4 ty (r0 0) a0 g2] : List va_W)) hP hD hS hA (fun H locs hP hD hS => ?_)
      clear hp1 hv
      obtain hf := hf
      obtain ⟨e0, e1⟩ := tup2 hf
      rw [e1] at hP hD
      exact CX_i F hr hlk hP hD hS e0 dX6_write_23
    · replace hf := ite_f hf hc
      refine lv_bipush (v := (-2 : Int32)) hx hb dX6_write_11 (by decide) ?_
      obtain hf := hf
      obtain ⟨e0, e1⟩ := tup2 hf
      rw [e1] at hP hD
      exact CX_i F hr hlk hP hD hS e0 dX6_write_13
def f_X6_wipe (z0 : Ob) : Option (Int32 × Ob) := bd2 (f_X4_clear z0) (fun v1 g2 => some (v1, g2))
abbrev rm_X6_wipe : Room := { frames := 1, cells := 0, slots := 0, locals := 21 }
theorem hd_X6_wipe : yX6_wipe.cls ≠ "java/lang/invoke/MethodHandle" ∧ yX6_wipe.cls ≠ "java/lang/invoke/VarHandle" ∧ (parseMethodDescriptor yX6_wipe.desc).map (fun d => d.parameters.length) = some 0 := by decide +kernel
theorem in_X6_wipe_X6 : ∀ w ∈ wsX60, w ∈ wsX6_wipe := fun w h => List.mem_cons_of_mem _ (List.mem_append_left _ (List.mem_append_right _ h))
set_option maxHeartbeats 4000000 in
set_option maxRecDepth 100000 in
theorem c_X6_wipe (l : Launch) (D : va_G) (ty : TY) (h0 : Nat) (r0 : Nat → Nat) (a0 : Nat → Nat) (z0 : Ob) (o0 : Int32) (o1 : Ob) (hf : f_X6_wipe z0 = some (o0, o1)) (sz : Nat) : CX l yX6_wipe wsX6_wipe rm_X6_wipe ([.ref h0] : List Value) D ty (fl [oX6 h0 r0, oX4 ty (r0 0) a0 z0]) sz (qI D o0 (fl [oX6 h0 r0, oX4 ty (r0 0) a0 o1])) 0 0 := by
  refine CX_of (cc := cX6_wipe) (maxL := 1) (ret := (some .int)) (C := RX6) (by decide) rfl rfl (Nat.le_of_ble_eq_true rfl) ?_
  intro p e s m below meth c A ls F hr hlk _ hK hP hD hS hA hl
  have hx := F.1
  have hb := F.2.1
  replace hl : lv_has ls 1 [(0, .ref h0)] := hl
  unfold f_X6_wipe at hf
  refine lv_aload_n hx hb dX6_wipe_0 rfl (lv_at hl 0 rfl) ?_
  refine va_get (D := D) (ci := 6) (C := RX6) (T := TX6) (N := 8) hx hb F.2.2.2.2 in_X6_wipe_X6 F.2.2.2.1 hK.1 hP 0 rfl rfl 0 (Nat.le_of_ble_eq_true rfl) (F.2.2.2.2 (.fieldLink RX6 10 "LouderRoom" "told" "LLouderRoom$Told;") (List.mem_of_getElem? (i := 1) rfl)) (fun _ h9 => h9) rfl dX6_wipe_1 ?_
  obtain ⟨v1, g2, hv, hf⟩ := obd2 hf
  have hp1 : List.Perm [oX6 h0 r0, oX4 ty (r0 0) a0 z0] ([oX4 ty (r0 0) a0 z0] ++ [oX6 h0 r0]) := ((List.perm_middle (a := (oX4 ty (r0 0) a0 z0 : va_W)) (l₁ := ([oX6 h0 r0] : List va_W)) (l₂ := ([] : List va_W))) : List.Perm ([oX6 h0 r0, oX4 ty (r0 0) a0 z0] : List va_W) ([oX4 ty (r0 0) a0 z0, oX6 h0 r0] : List va_W))
  refine ci_call (out := v1) (os := [oX6 h0 r0, oX4 ty (r0 0) a0 z0]) (oc := [oX4 ty (r0 0) a0 z0]) (oc' := [oX4 ty (r0 0) a0 g2]) (or_ := [oX6 h0 r0]) (os' := [oX6 h0 r0, oX4 ty (r0 0) a0 g2]) (va_runV (As := []) (rest := []) F (c_X4_clear l D ty (r0 0) a0 _ _ _ hv _) (cwV 0 F.2.2.2.2 gX6_wipe_X4_clear rfl rfl rfl ⟨rfl, hd_X4_clear⟩ ⟨Nat.le_of_ble_eq_true rfl, Nat.le_of_ble_eq_true rfl⟩) (pre_v hK hP hD hp1 rfl rfl rfl) rfl rfl hl.1 rfl (lv_room (Nat.le_of_ble_eq_true rfl)) dX6_wipe_4 ⟨Nat.zero_le _, Nat.zero_le _⟩) hp1 ((List.perm_middle (a := (oX6 h0 r0 : va_W)) (l₁ := ([oX4 ty (r0 0) a0 g2] : List va_W)) (l₂ := ([] : List va_W))) : List.Perm ([oX4 ty (r0 0) a0 g2, oX6 h0 r0] : List va_W) ([oX6 h0 r0, oX4 ty (r0 0) a0 g2] : List va_W)) hP hD hS hA (fun H locs hP hD hS => ?_)
  clear hp1 hv
  obtain hf := hf
  obtain ⟨e0, e1⟩ := tup2 hf
  rw [e1] at hP hD
  exact CX_i F hr hlk hP hD hS e0 dX6_wipe_7
def f_X6_fault (z0 : Ob) (z2 : Ob) (z4 : Ob) : Option (Int32 × Ob × Ob × Ob) := bd4 (f_X4_read z0 z2 z4) (fun v1 g2 g3 g4 => some (v1, g2, g3, g4))
abbrev rm_X6_fault : Room := { frames := 5, cells := 0, slots := 0, locals := 117 }
theorem hd_X6_fault : yX6_fault.cls ≠ "java/lang/invoke/MethodHandle" ∧ yX6_fault.cls ≠ "java/lang/invoke/VarHandle" ∧ (parseMethodDescriptor yX6_fault.desc).map (fun d => d.parameters.length) = some 0 := by decide +kernel
theorem in_X6_fault_X6 : ∀ w ∈ wsX60, w ∈ wsX6_fault := fun w h => List.mem_cons_of_mem _ (List.mem_append_left _ (List.mem_append_left _ (List.mem_append_left _ (List.mem_append_right _ h))))
set_option maxHeartbeats 4000000 in
set_option maxRecDepth 100000 in
theorem c_X6_fault (l : Launch) (D : va_G) (ty : TY) (h0 : Nat) (r0 : Nat → Nat) (a0 : Nat → Nat) (a2 : Nat → Nat) (a4 : Nat → Nat) (z0 : Ob) (z2 : Ob) (z4 : Ob) (o0 : Int32) (o1 : Ob) (o2 : Ob) (o3 : Ob) (hf : f_X6_fault z0 z2 z4 = some (o0, o1, o2, o3)) (sz : Nat) : CX l yX6_fault wsX6_fault rm_X6_fault ([.ref h0] : List Value) D ty (fl [oX6 h0 r0, oX4 ty (r0 0) a0 z0, oX1 ty (r0 2) a2 z2, oX5 ty (r0 4) a4 z4]) sz (qI D o0 (fl [oX6 h0 r0, oX4 ty (r0 0) a0 o1, oX1 ty (r0 2) a2 o2, oX5 ty (r0 4) a4 o3])) 0 0 := by
  refine CX_of (cc := cX6_fault) (maxL := 1) (ret := (some .int)) (C := RX6) (by decide) rfl rfl (Nat.le_of_ble_eq_true rfl) ?_
  intro p e s m below meth c A ls F hr hlk _ hK hP hD hS hA hl
  have hx := F.1
  have hb := F.2.1
  replace hl : lv_has ls 1 [(0, .ref h0)] := hl
  unfold f_X6_fault at hf
  refine lv_aload_n hx hb dX6_fault_0 rfl (lv_at hl 0 rfl) ?_
  refine va_get (D := D) (ci := 6) (C := RX6) (T := TX6) (N := 8) hx hb F.2.2.2.2 in_X6_fault_X6 F.2.2.2.1 hK.1 hP 0 rfl rfl 0 (Nat.le_of_ble_eq_true rfl) (F.2.2.2.2 (.fieldLink RX6 10 "LouderRoom" "told" "LLouderRoom$Told;") (List.mem_of_getElem? (i := 1) rfl)) (fun _ h9 => h9) rfl dX6_fault_1 ?_
  refine lv_aload_n hx hb dX6_fault_4 rfl (lv_at hl 0 rfl) ?_
  refine va_get (D := D) (ci := 6) (C := RX6) (T := TX6) (N := 8) hx hb F.2.2.2.2 in_X6_fault_X6 F.2.2.2.1 hK.1 hP 0 rfl rfl 2 (Nat.le_of_ble_eq_true rfl) (F.2.2.2.2 (.fieldLink RX6 23 "LouderRoom" "trial" "LLouderRoom$Crowd;") (List.mem_of_getElem? (i := 2) rfl)) (fun _ h9 => h9) rfl dX6_fault_5 ?_
  refine lv_aload_n hx hb dX6_fault_8 rfl (lv_at hl 0 rfl) ?_
  refine va_get (D := D) (ci := 6) (C := RX6) (T := TX6) (N := 8) hx hb F.2.2.2.2 in_X6_fault_X6 F.2.2.2.1 hK.1 hP 0 rfl rfl 4 (Nat.le_of_ble_eq_true rfl) (F.2.2.2.2 (.fieldLink RX6 33 "LouderRoom" "trialWares" "LLouderRoom$Wares;") (List.mem_of_getElem? (i := 3) rfl)) (fun _ h9 => h9) rfl dX6_fault_9 ?_
  obtain ⟨v1, g2, g3, g4, hv, hf⟩ := obd4 hf
  have hp1 : List.Perm [oX6 h0 r0, oX4 ty (r0 0) a0 z0, oX1 ty (r0 2) a2 z2, oX5 ty (r0 4) a4 z4] ([oX4 ty (r0 0) a0 z0, oX1 ty (r0 2) a2 z2, oX5 ty (r0 4) a4 z4] ++ [oX6 h0 r0]) := (((List.perm_middle (a := (oX4 ty (r0 0) a0 z0 : va_W)) (l₁ := ([oX6 h0 r0] : List va_W)) (l₂ := ([oX1 ty (r0 2) a2 z2, oX5 ty (r0 4) a4 z4] : List va_W))).trans (List.Perm.cons _ ((List.perm_middle (a := (oX1 ty (r0 2) a2 z2 : va_W)) (l₁ := ([oX6 h0 r0] : List va_W)) (l₂ := ([oX5 ty (r0 4) a4 z4] : List va_W))).trans (List.Perm.cons _ (List.perm_middle (a := (oX5 ty (r0 4) a4 z4 : va_W)) (l₁ := ([oX6 h0 r0] : List va_W)) (l₂ := ([] : List va_W))))))) : List.Perm ([oX6 h0 r0, oX4 ty (r0 0) a0 z0, oX1 ty (r0 2) a2 z2, oX5 ty (r0 4) a4 z4] : List va_W) ([oX4 ty (r0 0) a0 z0, oX1 ty (r0 2) a2 z2, oX5 ty (r0 4) a4 z4, oX6 h0 r0] : List va_W))
  refine ci_call (out := v1) (os := [oX6 h0 r0, oX4 ty (r0 0) a0 z0, oX1 ty (r0 2) a2 z2, oX5 ty (r0 4) a4 z4]) (oc := [oX4 ty (r0 0) a0 z0, oX1 ty (r0 2) a2 z2, oX5 ty (r0 4) a4 z4]) (oc' := [oX4 ty (r0 0) a0 g2, oX1 ty (r0 2) a2 g3, oX5 ty (r0 4) a4 g4]) (or_ := [oX6 h0 r0]) (os' := [oX6 h0 r0, oX4 ty (r0 0) a0 g2, oX1 ty (r0 2) a2 g3, oX5 ty (r0 4) a4 g4]) (va_runV (As := [.ref (r0 2), .ref (r0 4)]) (rest := []) F (c_X4_read l D ty (r0 0) a0 (r0 2) a2 (r0 4) a4 _ _ _ _ _ _ _ hv _) (cwV 2 F.2.2.2.2 gX6_fault_X4_read rfl rfl rfl ⟨rfl, hd_X4_read⟩ ⟨Nat.le_of_ble_eq_true rfl, Nat.le_of_ble_eq_true rfl⟩) (pre_v hK hP hD hp1 rfl rfl rfl) rfl rfl hl.1 rfl (lv_room (Nat.le_of_ble_eq_true rfl)) dX6_fault_12 ⟨Nat.zero_le _, Nat.zero_le _⟩) hp1 ((List.perm_middle (a := (oX6 h0 r0 : va_W)) (l₁ := ([oX4 ty (r0 0) a0 g2, oX1 ty (r0 2) a2 g3, oX5 ty (r0 4) a4 g4] : List va_W)) (l₂ := ([] : List va_W))) : List.Perm ([oX4 ty (r0 0) a0 g2, oX1 ty (r0 2) a2 g3, oX5 ty (r0 4) a4 g4, oX6 h0 r0] : List va_W) ([oX6 h0 r0, oX4 ty (r0 0) a0 g2, oX1 ty (r0 2) a2 g3, oX5 ty (r0 4) a4 g4] : List va_W)) hP hD hS hA (fun H locs hP hD hS => ?_)
  clear hp1 hv
  obtain hf := hf
  obtain ⟨e0, e1, e2, e3⟩ := tup4 hf
  rw [e1] at hP hD
  rw [e2] at hP hD
  rw [e3] at hP hD
  exact CX_i F hr hlk hP hD hS e0 dX6_fault_15
def f_X6_room (z0 : Ob) (z1 : Ob) (z2 : Ob) (z3 : Ob) (z4 : Ob) (z5 : AS) (z7 : AS) : Option (Int32 × Ob × Ob × Ob × Ob × Ob × AS × AS) := bd4 (f_X4_read z0 z2 z4) (fun v1 g2 g3 g4 => (if v1 = (-9 : Int32) then (f_X1_copyFrom z1 g3).bind (fun g5 => (f_X5_copyFrom z3 g4).bind (fun g6 => (f_X0_clear z5).bind (fun g7 => (f_X3_clear z7).bind (fun g8 => some ((g5.1 6), g2, g5, g3, g6, g4, g7, g8))))) else some ((-3 : Int32), g2, z1, g3, z3, g4, z5, z7)))
abbrev rm_X6_room : Room := { frames := 5, cells := 0, slots := 0, locals := 117 }
theorem hd_X6_room : yX6_room.cls ≠ "java/lang/invoke/MethodHandle" ∧ yX6_room.cls ≠ "java/lang/invoke/VarHandle" ∧ (parseMethodDescriptor yX6_room.desc).map (fun d => d.parameters.length) = some 0 := by decide +kernel
theorem in_X6_room_X6 : ∀ w ∈ wsX60, w ∈ wsX6_room := fun w h => List.mem_cons_of_mem _ (List.mem_append_left _ (List.mem_append_left _ (List.mem_append_left _ (List.mem_append_left _ (List.mem_append_left _ (List.mem_append_right _ h))))))
theorem in_X6_room_X1 : ∀ w ∈ wsX10, w ∈ wsX6_room := fun w h => List.mem_cons_of_mem _ (List.mem_append_left _ (List.mem_append_left _ (List.mem_append_left _ (List.mem_append_left _ (List.mem_append_right _ h)))))
set_option maxHeartbeats 4000000 in
set_option maxRecDepth 100000 in
theorem c_X6_room (l : Launch) (D : va_G) (ty : TY) (h0 : Nat) (r0 : Nat → Nat) (a0 : Nat → Nat) (a1 : Nat → Nat) (a2 : Nat → Nat) (a3 : Nat → Nat) (a4 : Nat → Nat) (aa5 : Nat) (aa7 : Nat) (z0 : Ob) (z1 : Ob) (z2 : Ob) (z3 : Ob) (z4 : Ob) (z5 : AS) (z7 : AS) (o0 : Int32) (o1 : Ob) (o2 : Ob) (o3 : Ob) (o4 : Ob) (o5 : Ob) (o6 : AS) (o7 : AS) (hf : f_X6_room z0 z1 z2 z3 z4 z5 z7 = some (o0, o1, o2, o3, o4, o5, o6, o7)) (sz : Nat) : CX l yX6_room wsX6_room rm_X6_room ([.ref h0] : List Value) D ty (fl [oX6 h0 r0, oX4 ty (r0 0) a0 z0, oX1 ty (r0 1) a1 z1, oX1 ty (r0 2) a2 z2, oX5 ty (r0 3) a3 z3, oX5 ty (r0 4) a4 z4, oX0 ty (r0 5) aa5 z5, oX3 ty (r0 7) aa7 z7]) sz (qI D o0 (fl [oX6 h0 r0, oX4 ty (r0 0) a0 o1, oX1 ty (r0 1) a1 o2, oX1 ty (r0 2) a2 o3, oX5 ty (r0 3) a3 o4, oX5 ty (r0 4) a4 o5, oX0 ty (r0 5) aa5 o6, oX3 ty (r0 7) aa7 o7])) 0 0 := by
  refine CX_of (cc := cX6_room) (maxL := 1) (ret := (some .int)) (C := RX6) (by decide) rfl rfl (Nat.le_of_ble_eq_true rfl) ?_
  intro p e s m below meth c A ls F hr hlk _ hK hP hD hS hA hl
  have hx := F.1
  have hb := F.2.1
  replace hl : lv_has ls 1 [(0, .ref h0)] := hl
  unfold f_X6_room at hf
  refine lv_aload_n hx hb dX6_room_0 rfl (lv_at hl 0 rfl) ?_
  refine va_get (D := D) (ci := 6) (C := RX6) (T := TX6) (N := 8) hx hb F.2.2.2.2 in_X6_room_X6 F.2.2.2.1 hK.1 hP 0 rfl rfl 0 (Nat.le_of_ble_eq_true rfl) (F.2.2.2.2 (.fieldLink RX6 10 "LouderRoom" "told" "LLouderRoom$Told;") (List.mem_of_getElem? (i := 1) rfl)) (fun _ h9 => h9) rfl dX6_room_1 ?_
  refine lv_aload_n hx hb dX6_room_4 rfl (lv_at hl 0 rfl) ?_
  refine va_get (D := D) (ci := 6) (C := RX6) (T := TX6) (N := 8) hx hb F.2.2.2.2 in_X6_room_X6 F.2.2.2.1 hK.1 hP 0 rfl rfl 2 (Nat.le_of_ble_eq_true rfl) (F.2.2.2.2 (.fieldLink RX6 23 "LouderRoom" "trial" "LLouderRoom$Crowd;") (List.mem_of_getElem? (i := 2) rfl)) (fun _ h9 => h9) rfl dX6_room_5 ?_
  refine lv_aload_n hx hb dX6_room_8 rfl (lv_at hl 0 rfl) ?_
  refine va_get (D := D) (ci := 6) (C := RX6) (T := TX6) (N := 8) hx hb F.2.2.2.2 in_X6_room_X6 F.2.2.2.1 hK.1 hP 0 rfl rfl 4 (Nat.le_of_ble_eq_true rfl) (F.2.2.2.2 (.fieldLink RX6 33 "LouderRoom" "trialWares" "LLouderRoom$Wares;") (List.mem_of_getElem? (i := 3) rfl)) (fun _ h9 => h9) rfl dX6_room_9 ?_
  obtain ⟨v1, g2, g3, g4, hv, hf⟩ := obd4 hf
  have hp1 : List.Perm [oX6 h0 r0, oX4 ty (r0 0) a0 z0, oX1 ty (r0 1) a1 z1, oX1 ty (r0 2) a2 z2, oX5 ty (r0 3) a3 z3, oX5 ty (r0 4) a4 z4, oX0 ty (r0 5) aa5 z5, oX3 ty (r0 7) aa7 z7] ([oX4 ty (r0 0) a0 z0, oX1 ty (r0 2) a2 z2, oX5 ty (r0 4) a4 z4] ++ [oX6 h0 r0, oX1 ty (r0 1) a1 z1, oX5 ty (r0 3) a3 z3, oX0 ty (r0 5) aa5 z5, oX3 ty (r0 7) aa7 z7]) := (((List.perm_middle (a := (oX4 ty (r0 0) a0 z0 : va_W)) (l₁ := ([oX6 h0 r0] : List va_W)) (l₂ := ([oX1 ty (r0 1) a1 z1, oX1 ty (r0 2) a2 z2, oX5 ty (r0 3) a3 z3, oX5 ty (r0 4) a4 z4, oX0 ty (r0 5) aa5 z5, oX3 ty (r0 7) aa7 z7] : List va_W))).trans (List.Perm.cons _ ((List.perm_middle (a := (oX1 ty (r0 2) a2 z2 : va_W)) (l₁ := ([oX6 h0 r0, oX1 ty (r0 1) a1 z1] : List va_W)) (l₂ := ([oX5 ty (r0 3) a3 z3, oX5 ty (r0 4) a4 z4, oX0 ty (r0 5) aa5 z5, oX3 ty (r0 7) aa7 z7] : List va_W))).trans (List.Perm.cons _ (List.perm_middle (a := (oX5 ty (r0 4) a4 z4 : va_W)) (l₁ := ([oX6 h0 r0, oX1 ty (r0 1) a1 z1, oX5 ty (r0 3) a3 z3] : List va_W)) (l₂ := ([oX0 ty (r0 5) aa5 z5, oX3 ty (r0 7) aa7 z7] : List va_W))))))) : List.Perm ([oX6 h0 r0, oX4 ty (r0 0) a0 z0, oX1 ty (r0 1) a1 z1, oX1 ty (r0 2) a2 z2, oX5 ty (r0 3) a3 z3, oX5 ty (r0 4) a4 z4, oX0 ty (r0 5) aa5 z5, oX3 ty (r0 7) aa7 z7] : List va_W) ([oX4 ty (r0 0) a0 z0, oX1 ty (r0 2) a2 z2, oX5 ty (r0 4) a4 z4, oX6 h0 r0, oX1 ty (r0 1) a1 z1, oX5 ty (r0 3) a3 z3, oX0 ty (r0 5) aa5 z5, oX3 ty (r0 7) aa7 z7] : List va_W))
  refine ci_call (out := v1) (os := [oX6 h0 r0, oX4 ty (r0 0) a0 z0, oX1 ty (r0 1) a1 z1, oX1 ty (r0 2) a2 z2, oX5 ty (r0 3) a3 z3, oX5 ty (r0 4) a4 z4, oX0 ty (r0 5) aa5 z5, oX3 ty (r0 7) aa7 z7]) (oc := [oX4 ty (r0 0) a0 z0, oX1 ty (r0 2) a2 z2, oX5 ty (r0 4) a4 z4]) (oc' := [oX4 ty (r0 0) a0 g2, oX1 ty (r0 2) a2 g3, oX5 ty (r0 4) a4 g4]) (or_ := [oX6 h0 r0, oX1 ty (r0 1) a1 z1, oX5 ty (r0 3) a3 z3, oX0 ty (r0 5) aa5 z5, oX3 ty (r0 7) aa7 z7]) (os' := [oX6 h0 r0, oX4 ty (r0 0) a0 g2, oX1 ty (r0 1) a1 z1, oX1 ty (r0 2) a2 g3, oX5 ty (r0 3) a3 z3, oX5 ty (r0 4) a4 g4, oX0 ty (r0 5) aa5 z5, oX3 ty (r0 7) aa7 z7]) (va_runV (As := [.ref (r0 2), .ref (r0 4)]) (rest := []) F (c_X4_read l D ty (r0 0) a0 (r0 2) a2 (r0 4) a4 _ _ _ _ _ _ _ hv _) (cwV 2 F.2.2.2.2 gX6_room_X4_read rfl rfl rfl ⟨rfl, hd_X4_read⟩ ⟨Nat.le_of_ble_eq_true rfl, Nat.le_of_ble_eq_true rfl⟩) (pre_v hK hP hD hp1 rfl rfl rfl) rfl rfl hl.1 rfl (lv_room (Nat.le_of_ble_eq_true rfl)) dX6_room_12 ⟨Nat.zero_le _, Nat.zero_le _⟩) hp1 (((List.perm_middle (a := (oX6 h0 r0 : va_W)) (l₁ := ([oX4 ty (r0 0) a0 g2, oX1 ty (r0 2) a2 g3, oX5 ty (r0 4) a4 g4] : List va_W)) (l₂ := ([oX1 ty (r0 1) a1 z1, oX5 ty (r0 3) a3 z3, oX0 ty (r0 5) aa5 z5, oX3 ty (r0 7) aa7 z7] : List va_W))).trans (List.Perm.cons _ (List.Perm.cons _ ((List.perm_middle (a := (oX1 ty (r0 1) a1 z1 : va_W)) (l₁ := ([oX1 ty (r0 2) a2 g3, oX5 ty (r0 4) a4 g4] : List va_W)) (l₂ := ([oX5 ty (r0 3) a3 z3, oX0 ty (r0 5) aa5 z5, oX3 ty (r0 7) aa7 z7] : List va_W))).trans (List.Perm.cons _ (List.Perm.cons _ (List.perm_middle (a := (oX5 ty (r0 3) a3 z3 : va_W)) (l₁ := ([oX5 ty (r0 4) a4 g4] : List va_W)) (l₂ := ([oX0 ty (r0 5) aa5 z5, oX3 ty (r0 7) aa7 z7] : List va_W))))))))) : List.Perm ([oX4 ty (r0 0) a0 g2, oX1 ty (r0 2) a2 g3, oX5 ty (r0 4) a4 g4, oX6 h0 r0, oX1 ty (r0 1) a1 z1, oX5 ty (r0 3) a3 z3, oX0 ty (r0 5) aa5 z5, oX3 ty (r0 7) aa7 z7] : List va_W) ([oX6 h0 r0, oX4 ty (r0 0) a0 g2, oX1 ty (r0 1) a1 z1, oX1 ty (r0 2) a2 g3, oX5 ty (r0 3) a3 z3, oX5 ty (r0 4) a4 g4, oX0 ty (r0 5) aa5 z5, oX3 ty (r0 7) aa7 z7] : List va_W)) hP hD hS hA (fun H locs hP hD hS => ?_)
  clear hp1 hv
  refine lv_bipush (v := (-9 : Int32)) hx hb dX6_room_15 (by decide) ?_
  refine lv_icmp_eq (tgt := 23) hx hb dX6_room_17 (by decide) (fun hc => ?_) (fun hc => ?_)
  · replace hf := ite_t hf hc
    refine lv_aload_n hx hb dX6_room_23 rfl (lv_at hl 0 rfl) ?_
    refine va_get (D := D) (ci := 6) (C := RX6) (T := TX6) (N := 8) hx hb F.2.2.2.2 in_X6_room_X6 F.2.2.2.1 hK.1 hP 0 rfl rfl 1 (Nat.le_of_ble_eq_true rfl) (F.2.2.2.2 (.fieldLink RX6 19 "LouderRoom" "now" "LLouderRoom$Crowd;") (List.mem_of_getElem? (i := 4) rfl)) (fun _ h9 => h9) rfl dX6_room_24 ?_
    refine lv_aload_n hx hb dX6_room_27 rfl (lv_at hl 0 rfl) ?_
    refine va_get (D := D) (ci := 6) (C := RX6) (T := TX6) (N := 8) hx hb F.2.2.2.2 in_X6_room_X6 F.2.2.2.1 hK.1 hP 0 rfl rfl 2 (Nat.le_of_ble_eq_true rfl) (F.2.2.2.2 (.fieldLink RX6 23 "LouderRoom" "trial" "LLouderRoom$Crowd;") (List.mem_of_getElem? (i := 2) rfl)) (fun _ h9 => h9) rfl dX6_room_28 ?_
    obtain ⟨g5, hv, hf⟩ := obd hf
    have hp1 : List.Perm [oX6 h0 r0, oX4 ty (r0 0) a0 g2, oX1 ty (r0 1) a1 z1, oX1 ty (r0 2) a2 g3, oX5 ty (r0 3) a3 z3, oX5 ty (r0 4) a4 g4, oX0 ty (r0 5) aa5 z5, oX3 ty (r0 7) aa7 z7] ([oX1 ty (r0 1) a1 z1, oX1 ty (r0 2) a2 g3] ++ [oX6 h0 r0, oX4 ty (r0 0) a0 g2, oX5 ty (r0 3) a3 z3, oX5 ty (r0 4) a4 g4, oX0 ty (r0 5) aa5 z5, oX3 ty (r0 7) aa7 z7]) := (((List.perm_middle (a := (oX1 ty (r0 1) a1 z1 : va_W)) (l₁ := ([oX6 h0 r0, oX4 ty (r0 0) a0 g2] : List va_W)) (l₂ := ([oX1 ty (r0 2) a2 g3, oX5 ty (r0 3) a3 z3, oX5 ty (r0 4) a4 g4, oX0 ty (r0 5) aa5 z5, oX3 ty (r0 7) aa7 z7] : List va_W))).trans (List.Perm.cons _ (List.perm_middle (a := (oX1 ty (r0 2) a2 g3 : va_W)) (l₁ := ([oX6 h0 r0, oX4 ty (r0 0) a0 g2] : List va_W)) (l₂ := ([oX5 ty (r0 3) a3 z3, oX5 ty (r0 4) a4 g4, oX0 ty (r0 5) aa5 z5, oX3 ty (r0 7) aa7 z7] : List va_W))))) : List.Perm ([oX6 h0 r0, oX4 ty (r0 0) a0 g2, oX1 ty (r0 1) a1 z1, oX1 ty (r0 2) a2 g3, oX5 ty (r0 3) a3 z3, oX5 ty (r0 4) a4 g4, oX0 ty (r0 5) aa5 z5, oX3 ty (r0 7) aa7 z7] : List va_W) ([oX1 ty (r0 1) a1 z1, oX1 ty (r0 2) a2 g3, oX6 h0 r0, oX4 ty (r0 0) a0 g2, oX5 ty (r0 3) a3 z3, oX5 ty (r0 4) a4 g4, oX0 ty (r0 5) aa5 z5, oX3 ty (r0 7) aa7 z7] : List va_W))
    refine cv_call (os := [oX6 h0 r0, oX4 ty (r0 0) a0 g2, oX1 ty (r0 1) a1 z1, oX1 ty (r0 2) a2 g3, oX5 ty (r0 3) a3 z3, oX5 ty (r0 4) a4 g4, oX0 ty (r0 5) aa5 z5, oX3 ty (r0 7) aa7 z7]) (oc := [oX1 ty (r0 1) a1 z1, oX1 ty (r0 2) a2 g3]) (oc' := [oX1 ty (r0 1) a1 g5, oX1 ty (r0 2) a2 g3]) (or_ := [oX6 h0 r0, oX4 ty (r0 0) a0 g2, oX5 ty (r0 3) a3 z3, oX5 ty (r0 4) a4 g4, oX0 ty (r0 5) aa5 z5, oX3 ty (r0 7) aa7 z7]) (os' := [oX6 h0 r0, oX4 ty (r0 0) a0 g2, oX1 ty (r0 1) a1 g5, oX1 ty (r0 2) a2 g3, oX5 ty (r0 3) a3 z3, oX5 ty (r0 4) a4 g4, oX0 ty (r0 5) aa5 z5, oX3 ty (r0 7) aa7 z7]) (va_runV (As := [.ref (r0 2)]) (rest := []) F (c_X1_copyFrom l D ty (r0 1) a1 (r0 2) a2 _ _ _ hv _) (cwV 1 F.2.2.2.2 gX6_room_X1_copyFrom rfl rfl rfl ⟨rfl, hd_X1_copyFrom⟩ ⟨Nat.le_of_ble_eq_true rfl, Nat.le_of_ble_eq_true rfl⟩) (pre_v hK hP hD hp1 rfl rfl rfl) rfl rfl hl.1 rfl (lv_room (Nat.le_of_ble_eq_true rfl)) dX6_room_31 ⟨Nat.zero_le _, Nat.zero_le _⟩) hp1 (((List.perm_middle (a := (oX6 h0 r0 : va_W)) (l₁ := ([oX1 ty (r0 1) a1 g5, oX1 ty (r0 2) a2 g3] : List va_W)) (l₂ := ([oX4 ty (r0 0) a0 g2, oX5 ty (r0 3) a3 z3, oX5 ty (r0 4) a4 g4, oX0 ty (r0 5) aa5 z5, oX3 ty (r0 7) aa7 z7] : List va_W))).trans (List.Perm.cons _ (List.perm_middle (a := (oX4 ty (r0 0) a0 g2 : va_W)) (l₁ := ([oX1 ty (r0 1) a1 g5, oX1 ty (r0 2) a2 g3] : List va_W)) (l₂ := ([oX5 ty (r0 3) a3 z3, oX5 ty (r0 4) a4 g4, oX0 ty (r0 5) aa5 z5, oX3 ty (r0 7) aa7 z7] : List va_W))))) : List.Perm ([oX1 ty (r0 1) a1 g5, oX1 ty (r0 2) a2 g3, oX6 h0 r0, oX4 ty (r0 0) a0 g2, oX5 ty (r0 3) a3 z3, oX5 ty (r0 4) a4 g4, oX0 ty (r0 5) aa5 z5, oX3 ty (r0 7) aa7 z7] : List va_W) ([oX6 h0 r0, oX4 ty (r0 0) a0 g2, oX1 ty (r0 1) a1 g5, oX1 ty (r0 2) a2 g3, oX5 ty (r0 3) a3 z3, oX5 ty (r0 4) a4 g4, oX0 ty (r0 5) aa5 z5, oX3 ty (r0 7) aa7 z7] : List va_W)) hP hD hS hA (fun H locs hP hD hS => ?_)
    clear hp1 hv
    refine lv_aload_n hx hb dX6_room_34 rfl (lv_at hl 0 rfl) ?_
    refine va_get (D := D) (ci := 6) (C := RX6) (T := TX6) (N := 8) hx hb F.2.2.2.2 in_X6_room_X6 F.2.2.2.1 hK.1 hP 0 rfl rfl 3 (Nat.le_of_ble_eq_true rfl) (F.2.2.2.2 (.fieldLink RX6 29 "LouderRoom" "wares" "LLouderRoom$Wares;") (List.mem_of_getElem? (i := 5) rfl)) (fun _ h9 => h9) rfl dX6_room_35 ?_
    refine lv_aload_n hx hb dX6_room_38 rfl (lv_at hl 0 rfl) ?_
    refine va_get (D := D) (ci := 6) (C := RX6) (T := TX6) (N := 8) hx hb F.2.2.2.2 in_X6_room_X6 F.2.2.2.1 hK.1 hP 0 rfl rfl 4 (Nat.le_of_ble_eq_true rfl) (F.2.2.2.2 (.fieldLink RX6 33 "LouderRoom" "trialWares" "LLouderRoom$Wares;") (List.mem_of_getElem? (i := 3) rfl)) (fun _ h9 => h9) rfl dX6_room_39 ?_
    obtain ⟨g6, hv, hf⟩ := obd hf
    have hp1 : List.Perm [oX6 h0 r0, oX4 ty (r0 0) a0 g2, oX1 ty (r0 1) a1 g5, oX1 ty (r0 2) a2 g3, oX5 ty (r0 3) a3 z3, oX5 ty (r0 4) a4 g4, oX0 ty (r0 5) aa5 z5, oX3 ty (r0 7) aa7 z7] ([oX5 ty (r0 3) a3 z3, oX5 ty (r0 4) a4 g4] ++ [oX6 h0 r0, oX4 ty (r0 0) a0 g2, oX1 ty (r0 1) a1 g5, oX1 ty (r0 2) a2 g3, oX0 ty (r0 5) aa5 z5, oX3 ty (r0 7) aa7 z7]) := (((List.perm_middle (a := (oX5 ty (r0 3) a3 z3 : va_W)) (l₁ := ([oX6 h0 r0, oX4 ty (r0 0) a0 g2, oX1 ty (r0 1) a1 g5, oX1 ty (r0 2) a2 g3] : List va_W)) (l₂ := ([oX5 ty (r0 4) a4 g4, oX0 ty (r0 5) aa5 z5, oX3 ty (r0 7) aa7 z7] : List va_W))).trans (List.Perm.cons _ (List.perm_middle (a := (oX5 ty (r0 4) a4 g4 : va_W)) (l₁ := ([oX6 h0 r0, oX4 ty (r0 0) a0 g2, oX1 ty (r0 1) a1 g5, oX1 ty (r0 2) a2 g3] : List va_W)) (l₂ := ([oX0 ty (r0 5) aa5 z5, oX3 ty (r0 7) aa7 z7] : List va_W))))) : List.Perm ([oX6 h0 r0, oX4 ty (r0 0) a0 g2, oX1 ty (r0 1) a1 g5, oX1 ty (r0 2) a2 g3, oX5 ty (r0 3) a3 z3, oX5 ty (r0 4) a4 g4, oX0 ty (r0 5) aa5 z5, oX3 ty (r0 7) aa7 z7] : List va_W) ([oX5 ty (r0 3) a3 z3, oX5 ty (r0 4) a4 g4, oX6 h0 r0, oX4 ty (r0 0) a0 g2, oX1 ty (r0 1) a1 g5, oX1 ty (r0 2) a2 g3, oX0 ty (r0 5) aa5 z5, oX3 ty (r0 7) aa7 z7] : List va_W))
    refine cv_call (os := [oX6 h0 r0, oX4 ty (r0 0) a0 g2, oX1 ty (r0 1) a1 g5, oX1 ty (r0 2) a2 g3, oX5 ty (r0 3) a3 z3, oX5 ty (r0 4) a4 g4, oX0 ty (r0 5) aa5 z5, oX3 ty (r0 7) aa7 z7]) (oc := [oX5 ty (r0 3) a3 z3, oX5 ty (r0 4) a4 g4]) (oc' := [oX5 ty (r0 3) a3 g6, oX5 ty (r0 4) a4 g4]) (or_ := [oX6 h0 r0, oX4 ty (r0 0) a0 g2, oX1 ty (r0 1) a1 g5, oX1 ty (r0 2) a2 g3, oX0 ty (r0 5) aa5 z5, oX3 ty (r0 7) aa7 z7]) (os' := [oX6 h0 r0, oX4 ty (r0 0) a0 g2, oX1 ty (r0 1) a1 g5, oX1 ty (r0 2) a2 g3, oX5 ty (r0 3) a3 g6, oX5 ty (r0 4) a4 g4, oX0 ty (r0 5) aa5 z5, oX3 ty (r0 7) aa7 z7]) (va_runV (As := [.ref (r0 4)]) (rest := []) F (c_X5_copyFrom l D ty (r0 3) a3 (r0 4) a4 _ _ _ hv _) (cwV 1 F.2.2.2.2 gX6_room_X5_copyFrom rfl rfl rfl ⟨rfl, hd_X5_copyFrom⟩ ⟨Nat.le_of_ble_eq_true rfl, Nat.le_of_ble_eq_true rfl⟩) (pre_v hK hP hD hp1 rfl rfl rfl) rfl rfl hl.1 rfl (lv_room (Nat.le_of_ble_eq_true rfl)) dX6_room_42 ⟨Nat.zero_le _, Nat.zero_le _⟩) hp1 (((List.perm_middle (a := (oX6 h0 r0 : va_W)) (l₁ := ([oX5 ty (r0 3) a3 g6, oX5 ty (r0 4) a4 g4] : List va_W)) (l₂ := ([oX4 ty (r0 0) a0 g2, oX1 ty (r0 1) a1 g5, oX1 ty (r0 2) a2 g3, oX0 ty (r0 5) aa5 z5, oX3 ty (r0 7) aa7 z7] : List va_W))).trans (List.Perm.cons _ ((List.perm_middle (a := (oX4 ty (r0 0) a0 g2 : va_W)) (l₁ := ([oX5 ty (r0 3) a3 g6, oX5 ty (r0 4) a4 g4] : List va_W)) (l₂ := ([oX1 ty (r0 1) a1 g5, oX1 ty (r0 2) a2 g3, oX0 ty (r0 5) aa5 z5, oX3 ty (r0 7) aa7 z7] : List va_W))).trans (List.Perm.cons _ ((List.perm_middle (a := (oX1 ty (r0 1) a1 g5 : va_W)) (l₁ := ([oX5 ty (r0 3) a3 g6, oX5 ty (r0 4) a4 g4] : List va_W)) (l₂ := ([oX1 ty (r0 2) a2 g3, oX0 ty (r0 5) aa5 z5, oX3 ty (r0 7) aa7 z7] : List va_W))).trans (List.Perm.cons _ (List.perm_middle (a := (oX1 ty (r0 2) a2 g3 : va_W)) (l₁ := ([oX5 ty (r0 3) a3 g6, oX5 ty (r0 4) a4 g4] : List va_W)) (l₂ := ([oX0 ty (r0 5) aa5 z5, oX3 ty (r0 7) aa7 z7] : List va_W))))))))) : List.Perm ([oX5 ty (r0 3) a3 g6, oX5 ty (r0 4) a4 g4, oX6 h0 r0, oX4 ty (r0 0) a0 g2, oX1 ty (r0 1) a1 g5, oX1 ty (r0 2) a2 g3, oX0 ty (r0 5) aa5 z5, oX3 ty (r0 7) aa7 z7] : List va_W) ([oX6 h0 r0, oX4 ty (r0 0) a0 g2, oX1 ty (r0 1) a1 g5, oX1 ty (r0 2) a2 g3, oX5 ty (r0 3) a3 g6, oX5 ty (r0 4) a4 g4, oX0 ty (r0 5) aa5 z5, oX3 ty (r0 7) aa7 z7] : List va_W)) hP hD hS hA (fun H locs hP hD hS => ?_)
    clear hp1 hv
    refine lv_aload_n hx hb dX6_room_45 rfl (lv_at hl 0 rfl) ?_
    refine va_get (D := D) (ci := 6) (C := RX6) (T := TX6) (N := 8) hx hb F.2.2.2.2 in_X6_room_X6 F.2.2.2.1 hK.1 hP 0 rfl rfl 5 (Nat.le_of_ble_eq_true rfl) (F.2.2.2.2 (.fieldLink RX6 39 "LouderRoom" "acts" "LLouderRoom$Acts;") (List.mem_of_getElem? (i := 6) rfl)) (fun _ h9 => h9) rfl dX6_room_46 ?_
    obtain ⟨g7, hv, hf⟩ := obd hf
    have hp1 : List.Perm [oX6 h0 r0, oX4 ty (r0 0) a0 g2, oX1 ty (r0 1) a1 g5, oX1 ty (r0 2) a2 g3, oX5 ty (r0 3) a3 g6, oX5 ty (r0 4) a4 g4, oX0 ty (r0 5) aa5 z5, oX3 ty (r0 7) aa7 z7] ([oX0 ty (r0 5) aa5 z5] ++ [oX6 h0 r0, oX4 ty (r0 0) a0 g2, oX1 ty (r0 1) a1 g5, oX1 ty (r0 2) a2 g3, oX5 ty (r0 3) a3 g6, oX5 ty (r0 4) a4 g4, oX3 ty (r0 7) aa7 z7]) := ((List.perm_middle (a := (oX0 ty (r0 5) aa5 z5 : va_W)) (l₁ := ([oX6 h0 r0, oX4 ty (r0 0) a0 g2, oX1 ty (r0 1) a1 g5, oX1 ty (r0 2) a2 g3, oX5 ty (r0 3) a3 g6, oX5 ty (r0 4) a4 g4] : List va_W)) (l₂ := ([oX3 ty (r0 7) aa7 z7] : List va_W))) : List.Perm ([oX6 h0 r0, oX4 ty (r0 0) a0 g2, oX1 ty (r0 1) a1 g5, oX1 ty (r0 2) a2 g3, oX5 ty (r0 3) a3 g6, oX5 ty (r0 4) a4 g4, oX0 ty (r0 5) aa5 z5, oX3 ty (r0 7) aa7 z7] : List va_W) ([oX0 ty (r0 5) aa5 z5, oX6 h0 r0, oX4 ty (r0 0) a0 g2, oX1 ty (r0 1) a1 g5, oX1 ty (r0 2) a2 g3, oX5 ty (r0 3) a3 g6, oX5 ty (r0 4) a4 g4, oX3 ty (r0 7) aa7 z7] : List va_W))
    refine cv_call (os := [oX6 h0 r0, oX4 ty (r0 0) a0 g2, oX1 ty (r0 1) a1 g5, oX1 ty (r0 2) a2 g3, oX5 ty (r0 3) a3 g6, oX5 ty (r0 4) a4 g4, oX0 ty (r0 5) aa5 z5, oX3 ty (r0 7) aa7 z7]) (oc := [oX0 ty (r0 5) aa5 z5]) (oc' := [oX0 ty (r0 5) aa5 g7]) (or_ := [oX6 h0 r0, oX4 ty (r0 0) a0 g2, oX1 ty (r0 1) a1 g5, oX1 ty (r0 2) a2 g3, oX5 ty (r0 3) a3 g6, oX5 ty (r0 4) a4 g4, oX3 ty (r0 7) aa7 z7]) (os' := [oX6 h0 r0, oX4 ty (r0 0) a0 g2, oX1 ty (r0 1) a1 g5, oX1 ty (r0 2) a2 g3, oX5 ty (r0 3) a3 g6, oX5 ty (r0 4) a4 g4, oX0 ty (r0 5) aa5 g7, oX3 ty (r0 7) aa7 z7]) (va_runV (As := []) (rest := []) F (c_X0_clear l D ty (r0 5) aa5 _ _ hv _) (cwV 0 F.2.2.2.2 gX6_room_X0_clear rfl rfl rfl ⟨rfl, hd_X0_clear⟩ ⟨Nat.le_of_ble_eq_true rfl, Nat.le_of_ble_eq_true rfl⟩) (pre_v hK hP hD hp1 rfl rfl rfl) rfl rfl hl.1 rfl (lv_room (Nat.le_of_ble_eq_true rfl)) dX6_room_49 ⟨Nat.zero_le _, Nat.zero_le _⟩) hp1 (((List.perm_middle (a := (oX6 h0 r0 : va_W)) (l₁ := ([oX0 ty (r0 5) aa5 g7] : List va_W)) (l₂ := ([oX4 ty (r0 0) a0 g2, oX1 ty (r0 1) a1 g5, oX1 ty (r0 2) a2 g3, oX5 ty (r0 3) a3 g6, oX5 ty (r0 4) a4 g4, oX3 ty (r0 7) aa7 z7] : List va_W))).trans (List.Perm.cons _ ((List.perm_middle (a := (oX4 ty (r0 0) a0 g2 : va_W)) (l₁ := ([oX0 ty (r0 5) aa5 g7] : List va_W)) (l₂ := ([oX1 ty (r0 1) a1 g5, oX1 ty (r0 2) a2 g3, oX5 ty (r0 3) a3 g6, oX5 ty (r0 4) a4 g4, oX3 ty (r0 7) aa7 z7] : List va_W))).trans (List.Perm.cons _ ((List.perm_middle (a := (oX1 ty (r0 1) a1 g5 : va_W)) (l₁ := ([oX0 ty (r0 5) aa5 g7] : List va_W)) (l₂ := ([oX1 ty (r0 2) a2 g3, oX5 ty (r0 3) a3 g6, oX5 ty (r0 4) a4 g4, oX3 ty (r0 7) aa7 z7] : List va_W))).trans (List.Perm.cons _ ((List.perm_middle (a := (oX1 ty (r0 2) a2 g3 : va_W)) (l₁ := ([oX0 ty (r0 5) aa5 g7] : List va_W)) (l₂ := ([oX5 ty (r0 3) a3 g6, oX5 ty (r0 4) a4 g4, oX3 ty (r0 7) aa7 z7] : List va_W))).trans (List.Perm.cons _ ((List.perm_middle (a := (oX5 ty (r0 3) a3 g6 : va_W)) (l₁ := ([oX0 ty (r0 5) aa5 g7] : List va_W)) (l₂ := ([oX5 ty (r0 4) a4 g4, oX3 ty (r0 7) aa7 z7] : List va_W))).trans (List.Perm.cons _ (List.perm_middle (a := (oX5 ty (r0 4) a4 g4 : va_W)) (l₁ := ([oX0 ty (r0 5) aa5 g7] : List va_W)) (l₂ := ([oX3 ty (r0 7) aa7 z7] : List va_W))))))))))))) : List.Perm ([oX0 ty (r0 5) aa5 g7, oX6 h0 r0, oX4 ty (r0 0) a0 g2, oX1 ty (r0 1) a1 g5, oX1 ty (r0 2) a2 g3, oX5 ty (r0 3) a3 g6, oX5 ty (r0 4) a4 g4, oX3 ty (r0 7) aa7 z7] : List va_W) ([oX6 h0 r0, oX4 ty (r0 0) a0 g2, oX1 ty (r0 1) a1 g5, oX1 ty (r0 2) a2 g3, oX5 ty (r0 3) a3 g6, oX5 ty (r0 4) a4 g4, oX0 ty (r0 5) aa5 g7, oX3 ty (r0 7) aa7 z7] : List va_W)) hP hD hS hA (fun H locs hP hD hS => ?_)
    clear hp1 hv
    refine lv_aload_n hx hb dX6_room_52 rfl (lv_at hl 0 rfl) ?_
    refine va_get (D := D) (ci := 6) (C := RX6) (T := TX6) (N := 8) hx hb F.2.2.2.2 in_X6_room_X6 F.2.2.2.1 hK.1 hP 0 rfl rfl 7 (Nat.le_of_ble_eq_true rfl) (F.2.2.2.2 (.fieldLink RX6 53 "LouderRoom" "slots" "LLouderRoom$Slots;") (List.mem_of_getElem? (i := 7) rfl)) (fun _ h9 => h9) rfl dX6_room_53 ?_
    obtain ⟨g8, hv, hf⟩ := obd hf
    have hp1 : List.Perm [oX6 h0 r0, oX4 ty (r0 0) a0 g2, oX1 ty (r0 1) a1 g5, oX1 ty (r0 2) a2 g3, oX5 ty (r0 3) a3 g6, oX5 ty (r0 4) a4 g4, oX0 ty (r0 5) aa5 g7, oX3 ty (r0 7) aa7 z7] ([oX3 ty (r0 7) aa7 z7] ++ [oX6 h0 r0, oX4 ty (r0 0) a0 g2, oX1 ty (r0 1) a1 g5, oX1 ty (r0 2) a2 g3, oX5 ty (r0 3) a3 g6, oX5 ty (r0 4) a4 g4, oX0 ty (r0 5) aa5 g7]) := ((List.perm_middle (a := (oX3 ty (r0 7) aa7 z7 : va_W)) (l₁ := ([oX6 h0 r0, oX4 ty (r0 0) a0 g2, oX1 ty (r0 1) a1 g5, oX1 ty (r0 2) a2 g3, oX5 ty (r0 3) a3 g6, oX5 ty (r0 4) a4 g4, oX0 ty (r0 5) aa5 g7] : List va_W)) (l₂ := ([] : List va_W))) : List.Perm ([oX6 h0 r0, oX4 ty (r0 0) a0 g2, oX1 ty (r0 1) a1 g5, oX1 ty (r0 2) a2 g3, oX5 ty (r0 3) a3 g6, oX5 ty (r0 4) a4 g4, oX0 ty (r0 5) aa5 g7, oX3 ty (r0 7) aa7 z7] : List va_W) ([oX3 ty (r0 7) aa7 z7, oX6 h0 r0, oX4 ty (r0 0) a0 g2, oX1 ty (r0 1) a1 g5, oX1 ty (r0 2) a2 g3, oX5 ty (r0 3) a3 g6, oX5 ty (r0 4) a4 g4, oX0 ty (r0 5) aa5 g7] : List va_W))
    refine cv_call (os := [oX6 h0 r0, oX4 ty (r0 0) a0 g2, oX1 ty (r0 1) a1 g5, oX1 ty (r0 2) a2 g3, oX5 ty (r0 3) a3 g6, oX5 ty (r0 4) a4 g4, oX0 ty (r0 5) aa5 g7, oX3 ty (r0 7) aa7 z7]) (oc := [oX3 ty (r0 7) aa7 z7]) (oc' := [oX3 ty (r0 7) aa7 g8]) (or_ := [oX6 h0 r0, oX4 ty (r0 0) a0 g2, oX1 ty (r0 1) a1 g5, oX1 ty (r0 2) a2 g3, oX5 ty (r0 3) a3 g6, oX5 ty (r0 4) a4 g4, oX0 ty (r0 5) aa5 g7]) (os' := [oX6 h0 r0, oX4 ty (r0 0) a0 g2, oX1 ty (r0 1) a1 g5, oX1 ty (r0 2) a2 g3, oX5 ty (r0 3) a3 g6, oX5 ty (r0 4) a4 g4, oX0 ty (r0 5) aa5 g7, oX3 ty (r0 7) aa7 g8]) (va_runV (As := []) (rest := []) F (c_X3_clear l D ty (r0 7) aa7 _ _ hv _) (cwV 0 F.2.2.2.2 gX6_room_X3_clear rfl rfl rfl ⟨rfl, hd_X3_clear⟩ ⟨Nat.le_of_ble_eq_true rfl, Nat.le_of_ble_eq_true rfl⟩) (pre_v hK hP hD hp1 rfl rfl rfl) rfl rfl hl.1 rfl (lv_room (Nat.le_of_ble_eq_true rfl)) dX6_room_56 ⟨Nat.zero_le _, Nat.zero_le _⟩) hp1 (((List.perm_middle (a := (oX6 h0 r0 : va_W)) (l₁ := ([oX3 ty (r0 7) aa7 g8] : List va_W)) (l₂ := ([oX4 ty (r0 0) a0 g2, oX1 ty (r0 1) a1 g5, oX1 ty (r0 2) a2 g3, oX5 ty (r0 3) a3 g6, oX5 ty (r0 4) a4 g4, oX0 ty (r0 5) aa5 g7] : List va_W))).trans (List.Perm.cons _ ((List.perm_middle (a := (oX4 ty (r0 0) a0 g2 : va_W)) (l₁ := ([oX3 ty (r0 7) aa7 g8] : List va_W)) (l₂ := ([oX1 ty (r0 1) a1 g5, oX1 ty (r0 2) a2 g3, oX5 ty (r0 3) a3 g6, oX5 ty (r0 4) a4 g4, oX0 ty (r0 5) aa5 g7] : List va_W))).trans (List.Perm.cons _ ((List.perm_middle (a := (oX1 ty (r0 1) a1 g5 : va_W)) (l₁ := ([oX3 ty (r0 7) aa7 g8] : List va_W)) (l₂ := ([oX1 ty (r0 2) a2 g3, oX5 ty (r0 3) a3 g6, oX5 ty (r0 4) a4 g4, oX0 ty (r0 5) aa5 g7] : List va_W))).trans (List.Perm.cons _ ((List.perm_middle (a := (oX1 ty (r0 2) a2 g3 : va_W)) (l₁ := ([oX3 ty (r0 7) aa7 g8] : List va_W)) (l₂ := ([oX5 ty (r0 3) a3 g6, oX5 ty (r0 4) a4 g4, oX0 ty (r0 5) aa5 g7] : List va_W))).trans (List.Perm.cons _ ((List.perm_middle (a := (oX5 ty (r0 3) a3 g6 : va_W)) (l₁ := ([oX3 ty (r0 7) aa7 g8] : List va_W)) (l₂ := ([oX5 ty (r0 4) a4 g4, oX0 ty (r0 5) aa5 g7] : List va_W))).trans (List.Perm.cons _ ((List.perm_middle (a := (oX5 ty (r0 4) a4 g4 : va_W)) (l₁ := ([oX3 ty (r0 7) aa7 g8] : List va_W)) (l₂ := ([oX0 ty (r0 5) aa5 g7] : List va_W))).trans (List.Perm.cons _ (List.perm_middle (a := (oX0 ty (r0 5) aa5 g7 : va_W)) (l₁ := ([oX3 ty (r0 7) aa7 g8] : List va_W)) (l₂ := ([] : List va_W))))))))))))))) : List.Perm ([oX3 ty (r0 7) aa7 g8, oX6 h0 r0, oX4 ty (r0 0) a0 g2, oX1 ty (r0 1) a1 g5, oX1 ty (r0 2) a2 g3, oX5 ty (r0 3) a3 g6, oX5 ty (r0 4) a4 g4, oX0 ty (r0 5) aa5 g7] : List va_W) ([oX6 h0 r0, oX4 ty (r0 0) a0 g2, oX1 ty (r0 1) a1 g5, oX1 ty (r0 2) a2 g3, oX5 ty (r0 3) a3 g6, oX5 ty (r0 4) a4 g4, oX0 ty (r0 5) aa5 g7, oX3 ty (r0 7) aa7 g8] : List va_W)) hP hD hS hA (fun H locs hP hD hS => ?_)
    clear hp1 hv
    refine lv_aload_n hx hb dX6_room_59 rfl (lv_at hl 0 rfl) ?_
    refine va_get (D := D) (ci := 6) (C := RX6) (T := TX6) (N := 8) hx hb F.2.2.2.2 in_X6_room_X6 F.2.2.2.1 hK.1 hP 0 rfl rfl 1 (Nat.le_of_ble_eq_true rfl) (F.2.2.2.2 (.fieldLink RX6 19 "LouderRoom" "now" "LLouderRoom$Crowd;") (List.mem_of_getElem? (i := 4) rfl)) (fun _ h9 => h9) rfl dX6_room_60 ?_
    refine va_getN (D := D) (ci := 1) (C := RX1) (T := TX1) (N := 12) hx hb F.2.2.2.2 in_X6_room_X1 F.2.2.2.1 hK.1 hP 3 rfl rfl 6 (Nat.le_of_ble_eq_true rfl) (KN.use hK 9 (w := .fieldLinkNest RX6 79 "LouderRoom$Crowd" "rings" "I" "LouderRoom") rfl _) (fun _ h9 => h9) rfl dX6_room_63 ?_
    obtain hf := hf
    obtain ⟨e0, e1, e2, e3, e4, e5, e6, e7⟩ := tup8 hf
    rw [e1] at hP hD
    rw [e2] at hP hD
    rw [e3] at hP hD
    rw [e4] at hP hD
    rw [e5] at hP hD
    rw [e6] at hP hD
    rw [e7] at hP hD
    exact CX_i F hr hlk hP hD hS e0 dX6_room_66
  · replace hf := ite_f hf hc
    refine lv_bipush (v := (-3 : Int32)) hx hb dX6_room_20 (by decide) ?_
    obtain hf := hf
    obtain ⟨e0, e1, e2, e3, e4, e5, e6, e7⟩ := tup8 hf
    rw [e1] at hP hD
    rw [e2] at hP hD
    rw [e3] at hP hD
    rw [e4] at hP hD
    rw [e5] at hP hD
    rw [e6] at hP hD
    rw [e7] at hP hD
    exact CX_i F hr hlk hP hD hS e0 dX6_room_22
def f_X6_about (z0 : Ob) (z1 : Ob) (z3 : Ob) (z5 : AS) (z6 : Ob) (p1 : Int32) : Option (Int32) := (if p1 = (0 : Int32) then some (z1.1 6) else (if p1 = (1 : Int32) then (f_X1_peopleAll z1).bind (fun v1 => some v1) else (if p1 = (2 : Int32) then some (z1.1 7) else (if p1 = (3 : Int32) then some (z1.1 8) else (if p1 = (4 : Int32) then (f_X1_echoing z1).bind (fun v2 => some v2) else (if p1 = (5 : Int32) then (f_X1_loudAll z1).bind (fun v3 => some v3) else (if p1 = (6 : Int32) then (f_X1_hearing z1).bind (fun v4 => some v4) else (if p1 = (7 : Int32) then some (z3.1 2) else (if p1 = (8 : Int32) then some z5.1 else (if p1 = (9 : Int32) then some (z6.1 2) else (if p1 = (10 : Int32) then some (z0.1 1) else some (-2 : Int32))))))))))))
abbrev rm_X6_about : Room := { frames := 6, cells := 0, slots := 0, locals := 133 }
theorem hd_X6_about : yX6_about.cls ≠ "java/lang/invoke/MethodHandle" ∧ yX6_about.cls ≠ "java/lang/invoke/VarHandle" ∧ (parseMethodDescriptor yX6_about.desc).map (fun d => d.parameters.length) = some 1 := by decide +kernel
theorem in_X6_about_X6 : ∀ w ∈ wsX60, w ∈ wsX6_about := fun w h => List.mem_cons_of_mem _ (List.mem_append_left _ (List.mem_append_left _ (List.mem_append_left _ (List.mem_append_left _ (List.mem_append_left _ (List.mem_append_right _ h))))))
theorem in_X6_about_X1 : ∀ w ∈ wsX10, w ∈ wsX6_about := fun w h => List.mem_cons_of_mem _ (List.mem_append_left _ (List.mem_append_left _ (List.mem_append_left _ (List.mem_append_left _ (List.mem_append_right _ h)))))
theorem in_X6_about_X5 : ∀ w ∈ wsX50, w ∈ wsX6_about := fun w h => List.mem_cons_of_mem _ (List.mem_append_left _ (List.mem_append_left _ (List.mem_append_left _ (List.mem_append_right _ h))))
theorem in_X6_about_X0 : ∀ w ∈ wsX00, w ∈ wsX6_about := fun w h => List.mem_cons_of_mem _ (List.mem_append_left _ (List.mem_append_left _ (List.mem_append_right _ h)))
theorem in_X6_about_X2 : ∀ w ∈ wsX20, w ∈ wsX6_about := fun w h => List.mem_cons_of_mem _ (List.mem_append_left _ (List.mem_append_right _ h))
theorem in_X6_about_X4 : ∀ w ∈ wsX40, w ∈ wsX6_about := fun w h => List.mem_cons_of_mem _ (List.mem_append_right _ h)
set_option maxHeartbeats 4000000 in
set_option maxRecDepth 100000 in
theorem c_X6_about (l : Launch) (D : va_G) (ty : TY) (h0 : Nat) (r0 : Nat → Nat) (a0 : Nat → Nat) (a1 : Nat → Nat) (a3 : Nat → Nat) (aa5 : Nat) (a6 : Nat → Nat) (z0 : Ob) (z1 : Ob) (z3 : Ob) (z5 : AS) (z6 : Ob) (p1 : Int32) (o0 : Int32) (hf : f_X6_about z0 z1 z3 z5 z6 p1 = some o0) (sz : Nat) : CX l yX6_about wsX6_about rm_X6_about ([.ref h0, .int p1] : List Value) D ty (fl [oX6 h0 r0, oX4 ty (r0 0) a0 z0, oX1 ty (r0 1) a1 z1, oX5 ty (r0 3) a3 z3, oX0 ty (r0 5) aa5 z5, oX2 ty (r0 6) a6 z6]) sz (qI D o0 (fl [oX6 h0 r0, oX4 ty (r0 0) a0 z0, oX1 ty (r0 1) a1 z1, oX5 ty (r0 3) a3 z3, oX0 ty (r0 5) aa5 z5, oX2 ty (r0 6) a6 z6])) 0 0 := by
  refine CX_of (cc := cX6_about) (maxL := 2) (ret := (some .int)) (C := RX6) (by decide) rfl rfl (Nat.le_of_ble_eq_true rfl) ?_
  intro p e s m below meth c A ls F hr hlk _ hK hP hD hS hA hl
  have hx := F.1
  have hb := F.2.1
  replace hl : lv_has ls 2 [(0, .ref h0), (1, .int p1)] := hl
  unfold f_X6_about at hf
  refine lv_iload_n hx hb dX6_about_0 rfl (lv_at hl 1 rfl) ?_
  by_cases hc0 : p1 = (0 : Int32)
  · replace hf := ite_t hf hc0
    refine lv_tableIn (tgt := 60) hx hb dX6_about_1 (by rw [hc0]; decide) (by rw [hc0]; decide) (by rw [hc0]; rfl) (by decide) ?_
    refine lv_aload_n hx hb dX6_about_60 rfl (lv_at hl 0 rfl) ?_
    refine va_get (D := D) (ci := 6) (C := RX6) (T := TX6) (N := 8) hx hb F.2.2.2.2 in_X6_about_X6 F.2.2.2.1 hK.1 hP 0 rfl rfl 1 (Nat.le_of_ble_eq_true rfl) (F.2.2.2.2 (.fieldLink RX6 19 "LouderRoom" "now" "LLouderRoom$Crowd;") (List.mem_of_getElem? (i := 1) rfl)) (fun _ h9 => h9) rfl dX6_about_61 ?_
    refine va_getN (D := D) (ci := 1) (C := RX1) (T := TX1) (N := 12) hx hb F.2.2.2.2 in_X6_about_X1 F.2.2.2.1 hK.1 hP 3 rfl rfl 6 (Nat.le_of_ble_eq_true rfl) (KN.use hK 9 (w := .fieldLinkNest RX6 79 "LouderRoom$Crowd" "rings" "I" "LouderRoom") rfl _) (fun _ h9 => h9) rfl dX6_about_64 ?_
    obtain hf := hf
    have e0 := Option.some.inj hf
    exact CX_i F hr hlk hP hD hS e0 dX6_about_67
  replace hf := ite_f hf hc0
  by_cases hc1 : p1 = (1 : Int32)
  · replace hf := ite_t hf hc1
    refine lv_tableIn (tgt := 68) hx hb dX6_about_1 (by rw [hc1]; decide) (by rw [hc1]; decide) (by rw [hc1]; rfl) (by decide) ?_
    refine lv_aload_n hx hb dX6_about_68 rfl (lv_at hl 0 rfl) ?_
    refine va_get (D := D) (ci := 6) (C := RX6) (T := TX6) (N := 8) hx hb F.2.2.2.2 in_X6_about_X6 F.2.2.2.1 hK.1 hP 0 rfl rfl 1 (Nat.le_of_ble_eq_true rfl) (F.2.2.2.2 (.fieldLink RX6 19 "LouderRoom" "now" "LLouderRoom$Crowd;") (List.mem_of_getElem? (i := 1) rfl)) (fun _ h9 => h9) rfl dX6_about_69 ?_
    obtain ⟨v1, hv, hf⟩ := obd hf
    have hp1 : List.Perm [oX6 h0 r0, oX4 ty (r0 0) a0 z0, oX1 ty (r0 1) a1 z1, oX5 ty (r0 3) a3 z3, oX0 ty (r0 5) aa5 z5, oX2 ty (r0 6) a6 z6] ([oX1 ty (r0 1) a1 z1] ++ [oX6 h0 r0, oX4 ty (r0 0) a0 z0, oX5 ty (r0 3) a3 z3, oX0 ty (r0 5) aa5 z5, oX2 ty (r0 6) a6 z6]) := ((List.perm_middle (a := (oX1 ty (r0 1) a1 z1 : va_W)) (l₁ := ([oX6 h0 r0, oX4 ty (r0 0) a0 z0] : List va_W)) (l₂ := ([oX5 ty (r0 3) a3 z3, oX0 ty (r0 5) aa5 z5, oX2 ty (r0 6) a6 z6] : List va_W))) : List.Perm ([oX6 h0 r0, oX4 ty (r0 0) a0 z0, oX1 ty (r0 1) a1 z1, oX5 ty (r0 3) a3 z3, oX0 ty (r0 5) aa5 z5, oX2 ty (r0 6) a6 z6] : List va_W) ([oX1 ty (r0 1) a1 z1, oX6 h0 r0, oX4 ty (r0 0) a0 z0, oX5 ty (r0 3) a3 z3, oX0 ty (r0 5) aa5 z5, oX2 ty (r0 6) a6 z6] : List va_W))
    refine ci_call (out := v1) (os := [oX6 h0 r0, oX4 ty (r0 0) a0 z0, oX1 ty (r0 1) a1 z1, oX5 ty (r0 3) a3 z3, oX0 ty (r0 5) aa5 z5, oX2 ty (r0 6) a6 z6]) (oc := [oX1 ty (r0 1) a1 z1]) (oc' := [oX1 ty (r0 1) a1 z1]) (or_ := [oX6 h0 r0, oX4 ty (r0 0) a0 z0, oX5 ty (r0 3) a3 z3, oX0 ty (r0 5) aa5 z5, oX2 ty (r0 6) a6 z6]) (os' := [oX6 h0 r0, oX4 ty (r0 0) a0 z0, oX1 ty (r0 1) a1 z1, oX5 ty (r0 3) a3 z3, oX0 ty (r0 5) aa5 z5, oX2 ty (r0 6) a6 z6]) (va_runV (As := []) (rest := []) F (c_X1_peopleAll l D ty (r0 1) a1 _ _ hv _) (cwV 0 F.2.2.2.2 gX6_about_X1_peopleAll rfl rfl rfl ⟨rfl, hd_X1_peopleAll⟩ ⟨Nat.le_of_ble_eq_true rfl, Nat.le_of_ble_eq_true rfl⟩) (pre_v hK hP hD hp1 rfl rfl rfl) rfl rfl hl.1 rfl (lv_room (Nat.le_of_ble_eq_true rfl)) dX6_about_72 ⟨Nat.zero_le _, Nat.zero_le _⟩) hp1 (((List.perm_middle (a := (oX6 h0 r0 : va_W)) (l₁ := ([oX1 ty (r0 1) a1 z1] : List va_W)) (l₂ := ([oX4 ty (r0 0) a0 z0, oX5 ty (r0 3) a3 z3, oX0 ty (r0 5) aa5 z5, oX2 ty (r0 6) a6 z6] : List va_W))).trans (List.Perm.cons _ (List.perm_middle (a := (oX4 ty (r0 0) a0 z0 : va_W)) (l₁ := ([oX1 ty (r0 1) a1 z1] : List va_W)) (l₂ := ([oX5 ty (r0 3) a3 z3, oX0 ty (r0 5) aa5 z5, oX2 ty (r0 6) a6 z6] : List va_W))))) : List.Perm ([oX1 ty (r0 1) a1 z1, oX6 h0 r0, oX4 ty (r0 0) a0 z0, oX5 ty (r0 3) a3 z3, oX0 ty (r0 5) aa5 z5, oX2 ty (r0 6) a6 z6] : List va_W) ([oX6 h0 r0, oX4 ty (r0 0) a0 z0, oX1 ty (r0 1) a1 z1, oX5 ty (r0 3) a3 z3, oX0 ty (r0 5) aa5 z5, oX2 ty (r0 6) a6 z6] : List va_W)) hP hD hS hA (fun H locs hP hD hS => ?_)
    clear hp1 hv
    obtain hf := hf
    have e0 := Option.some.inj hf
    exact CX_i F hr hlk hP hD hS e0 dX6_about_75
  replace hf := ite_f hf hc1
  by_cases hc2 : p1 = (2 : Int32)
  · replace hf := ite_t hf hc2
    refine lv_tableIn (tgt := 76) hx hb dX6_about_1 (by rw [hc2]; decide) (by rw [hc2]; decide) (by rw [hc2]; rfl) (by decide) ?_
    refine lv_aload_n hx hb dX6_about_76 rfl (lv_at hl 0 rfl) ?_
    refine va_get (D := D) (ci := 6) (C := RX6) (T := TX6) (N := 8) hx hb F.2.2.2.2 in_X6_about_X6 F.2.2.2.1 hK.1 hP 0 rfl rfl 1 (Nat.le_of_ble_eq_true rfl) (F.2.2.2.2 (.fieldLink RX6 19 "LouderRoom" "now" "LLouderRoom$Crowd;") (List.mem_of_getElem? (i := 1) rfl)) (fun _ h9 => h9) rfl dX6_about_77 ?_
    refine va_getN (D := D) (ci := 1) (C := RX1) (T := TX1) (N := 12) hx hb F.2.2.2.2 in_X6_about_X1 F.2.2.2.1 hK.1 hP 3 rfl rfl 7 (Nat.le_of_ble_eq_true rfl) (KN.use hK 11 (w := .fieldLinkNest RX6 86 "LouderRoom$Crowd" "eats" "I" "LouderRoom") rfl _) (fun _ h9 => h9) rfl dX6_about_80 ?_
    obtain hf := hf
    have e0 := Option.some.inj hf
    exact CX_i F hr hlk hP hD hS e0 dX6_about_83
  replace hf := ite_f hf hc2
  by_cases hc3 : p1 = (3 : Int32)
  · replace hf := ite_t hf hc3
    refine lv_tableIn (tgt := 84) hx hb dX6_about_1 (by rw [hc3]; decide) (by rw [hc3]; decide) (by rw [hc3]; rfl) (by decide) ?_
    refine lv_aload_n hx hb dX6_about_84 rfl (lv_at hl 0 rfl) ?_
    refine va_get (D := D) (ci := 6) (C := RX6) (T := TX6) (N := 8) hx hb F.2.2.2.2 in_X6_about_X6 F.2.2.2.1 hK.1 hP 0 rfl rfl 1 (Nat.le_of_ble_eq_true rfl) (F.2.2.2.2 (.fieldLink RX6 19 "LouderRoom" "now" "LLouderRoom$Crowd;") (List.mem_of_getElem? (i := 1) rfl)) (fun _ h9 => h9) rfl dX6_about_85 ?_
    refine va_getN (D := D) (ci := 1) (C := RX1) (T := TX1) (N := 12) hx hb F.2.2.2.2 in_X6_about_X1 F.2.2.2.1 hK.1 hP 3 rfl rfl 8 (Nat.le_of_ble_eq_true rfl) (KN.use hK 13 (w := .fieldLinkNest RX6 89 "LouderRoom$Crowd" "music" "I" "LouderRoom") rfl _) (fun _ h9 => h9) rfl dX6_about_88 ?_
    obtain hf := hf
    have e0 := Option.some.inj hf
    exact CX_i F hr hlk hP hD hS e0 dX6_about_91
  replace hf := ite_f hf hc3
  by_cases hc4 : p1 = (4 : Int32)
  · replace hf := ite_t hf hc4
    refine lv_tableIn (tgt := 92) hx hb dX6_about_1 (by rw [hc4]; decide) (by rw [hc4]; decide) (by rw [hc4]; rfl) (by decide) ?_
    refine lv_aload_n hx hb dX6_about_92 rfl (lv_at hl 0 rfl) ?_
    refine va_get (D := D) (ci := 6) (C := RX6) (T := TX6) (N := 8) hx hb F.2.2.2.2 in_X6_about_X6 F.2.2.2.1 hK.1 hP 0 rfl rfl 1 (Nat.le_of_ble_eq_true rfl) (F.2.2.2.2 (.fieldLink RX6 19 "LouderRoom" "now" "LLouderRoom$Crowd;") (List.mem_of_getElem? (i := 1) rfl)) (fun _ h9 => h9) rfl dX6_about_93 ?_
    obtain ⟨v2, hv, hf⟩ := obd hf
    have hp1 : List.Perm [oX6 h0 r0, oX4 ty (r0 0) a0 z0, oX1 ty (r0 1) a1 z1, oX5 ty (r0 3) a3 z3, oX0 ty (r0 5) aa5 z5, oX2 ty (r0 6) a6 z6] ([oX1 ty (r0 1) a1 z1] ++ [oX6 h0 r0, oX4 ty (r0 0) a0 z0, oX5 ty (r0 3) a3 z3, oX0 ty (r0 5) aa5 z5, oX2 ty (r0 6) a6 z6]) := ((List.perm_middle (a := (oX1 ty (r0 1) a1 z1 : va_W)) (l₁ := ([oX6 h0 r0, oX4 ty (r0 0) a0 z0] : List va_W)) (l₂ := ([oX5 ty (r0 3) a3 z3, oX0 ty (r0 5) aa5 z5, oX2 ty (r0 6) a6 z6] : List va_W))) : List.Perm ([oX6 h0 r0, oX4 ty (r0 0) a0 z0, oX1 ty (r0 1) a1 z1, oX5 ty (r0 3) a3 z3, oX0 ty (r0 5) aa5 z5, oX2 ty (r0 6) a6 z6] : List va_W) ([oX1 ty (r0 1) a1 z1, oX6 h0 r0, oX4 ty (r0 0) a0 z0, oX5 ty (r0 3) a3 z3, oX0 ty (r0 5) aa5 z5, oX2 ty (r0 6) a6 z6] : List va_W))
    refine ci_call (out := v2) (os := [oX6 h0 r0, oX4 ty (r0 0) a0 z0, oX1 ty (r0 1) a1 z1, oX5 ty (r0 3) a3 z3, oX0 ty (r0 5) aa5 z5, oX2 ty (r0 6) a6 z6]) (oc := [oX1 ty (r0 1) a1 z1]) (oc' := [oX1 ty (r0 1) a1 z1]) (or_ := [oX6 h0 r0, oX4 ty (r0 0) a0 z0, oX5 ty (r0 3) a3 z3, oX0 ty (r0 5) aa5 z5, oX2 ty (r0 6) a6 z6]) (os' := [oX6 h0 r0, oX4 ty (r0 0) a0 z0, oX1 ty (r0 1) a1 z1, oX5 ty (r0 3) a3 z3, oX0 ty (r0 5) aa5 z5, oX2 ty (r0 6) a6 z6]) (va_runV (As := []) (rest := []) F (c_X1_echoing l D ty (r0 1) a1 _ _ hv _) (cwV 0 F.2.2.2.2 gX6_about_X1_echoing rfl rfl rfl ⟨rfl, hd_X1_echoing⟩ ⟨Nat.le_of_ble_eq_true rfl, Nat.le_of_ble_eq_true rfl⟩) (pre_v hK hP hD hp1 rfl rfl rfl) rfl rfl hl.1 rfl (lv_room (Nat.le_of_ble_eq_true rfl)) dX6_about_96 ⟨Nat.zero_le _, Nat.zero_le _⟩) hp1 (((List.perm_middle (a := (oX6 h0 r0 : va_W)) (l₁ := ([oX1 ty (r0 1) a1 z1] : List va_W)) (l₂ := ([oX4 ty (r0 0) a0 z0, oX5 ty (r0 3) a3 z3, oX0 ty (r0 5) aa5 z5, oX2 ty (r0 6) a6 z6] : List va_W))).trans (List.Perm.cons _ (List.perm_middle (a := (oX4 ty (r0 0) a0 z0 : va_W)) (l₁ := ([oX1 ty (r0 1) a1 z1] : List va_W)) (l₂ := ([oX5 ty (r0 3) a3 z3, oX0 ty (r0 5) aa5 z5, oX2 ty (r0 6) a6 z6] : List va_W))))) : List.Perm ([oX1 ty (r0 1) a1 z1, oX6 h0 r0, oX4 ty (r0 0) a0 z0, oX5 ty (r0 3) a3 z3, oX0 ty (r0 5) aa5 z5, oX2 ty (r0 6) a6 z6] : List va_W) ([oX6 h0 r0, oX4 ty (r0 0) a0 z0, oX1 ty (r0 1) a1 z1, oX5 ty (r0 3) a3 z3, oX0 ty (r0 5) aa5 z5, oX2 ty (r0 6) a6 z6] : List va_W)) hP hD hS hA (fun H locs hP hD hS => ?_)
    clear hp1 hv
    obtain hf := hf
    have e0 := Option.some.inj hf
    exact CX_i F hr hlk hP hD hS e0 dX6_about_99
  replace hf := ite_f hf hc4
  by_cases hc5 : p1 = (5 : Int32)
  · replace hf := ite_t hf hc5
    refine lv_tableIn (tgt := 100) hx hb dX6_about_1 (by rw [hc5]; decide) (by rw [hc5]; decide) (by rw [hc5]; rfl) (by decide) ?_
    refine lv_aload_n hx hb dX6_about_100 rfl (lv_at hl 0 rfl) ?_
    refine va_get (D := D) (ci := 6) (C := RX6) (T := TX6) (N := 8) hx hb F.2.2.2.2 in_X6_about_X6 F.2.2.2.1 hK.1 hP 0 rfl rfl 1 (Nat.le_of_ble_eq_true rfl) (F.2.2.2.2 (.fieldLink RX6 19 "LouderRoom" "now" "LLouderRoom$Crowd;") (List.mem_of_getElem? (i := 1) rfl)) (fun _ h9 => h9) rfl dX6_about_101 ?_
    obtain ⟨v3, hv, hf⟩ := obd hf
    have hp1 : List.Perm [oX6 h0 r0, oX4 ty (r0 0) a0 z0, oX1 ty (r0 1) a1 z1, oX5 ty (r0 3) a3 z3, oX0 ty (r0 5) aa5 z5, oX2 ty (r0 6) a6 z6] ([oX1 ty (r0 1) a1 z1] ++ [oX6 h0 r0, oX4 ty (r0 0) a0 z0, oX5 ty (r0 3) a3 z3, oX0 ty (r0 5) aa5 z5, oX2 ty (r0 6) a6 z6]) := ((List.perm_middle (a := (oX1 ty (r0 1) a1 z1 : va_W)) (l₁ := ([oX6 h0 r0, oX4 ty (r0 0) a0 z0] : List va_W)) (l₂ := ([oX5 ty (r0 3) a3 z3, oX0 ty (r0 5) aa5 z5, oX2 ty (r0 6) a6 z6] : List va_W))) : List.Perm ([oX6 h0 r0, oX4 ty (r0 0) a0 z0, oX1 ty (r0 1) a1 z1, oX5 ty (r0 3) a3 z3, oX0 ty (r0 5) aa5 z5, oX2 ty (r0 6) a6 z6] : List va_W) ([oX1 ty (r0 1) a1 z1, oX6 h0 r0, oX4 ty (r0 0) a0 z0, oX5 ty (r0 3) a3 z3, oX0 ty (r0 5) aa5 z5, oX2 ty (r0 6) a6 z6] : List va_W))
    refine ci_call (out := v3) (os := [oX6 h0 r0, oX4 ty (r0 0) a0 z0, oX1 ty (r0 1) a1 z1, oX5 ty (r0 3) a3 z3, oX0 ty (r0 5) aa5 z5, oX2 ty (r0 6) a6 z6]) (oc := [oX1 ty (r0 1) a1 z1]) (oc' := [oX1 ty (r0 1) a1 z1]) (or_ := [oX6 h0 r0, oX4 ty (r0 0) a0 z0, oX5 ty (r0 3) a3 z3, oX0 ty (r0 5) aa5 z5, oX2 ty (r0 6) a6 z6]) (os' := [oX6 h0 r0, oX4 ty (r0 0) a0 z0, oX1 ty (r0 1) a1 z1, oX5 ty (r0 3) a3 z3, oX0 ty (r0 5) aa5 z5, oX2 ty (r0 6) a6 z6]) (va_runV (As := []) (rest := []) F (c_X1_loudAll l D ty (r0 1) a1 _ _ hv _) (cwV 0 F.2.2.2.2 gX6_about_X1_loudAll rfl rfl rfl ⟨rfl, hd_X1_loudAll⟩ ⟨Nat.le_of_ble_eq_true rfl, Nat.le_of_ble_eq_true rfl⟩) (pre_v hK hP hD hp1 rfl rfl rfl) rfl rfl hl.1 rfl (lv_room (Nat.le_of_ble_eq_true rfl)) dX6_about_104 ⟨Nat.zero_le _, Nat.zero_le _⟩) hp1 (((List.perm_middle (a := (oX6 h0 r0 : va_W)) (l₁ := ([oX1 ty (r0 1) a1 z1] : List va_W)) (l₂ := ([oX4 ty (r0 0) a0 z0, oX5 ty (r0 3) a3 z3, oX0 ty (r0 5) aa5 z5, oX2 ty (r0 6) a6 z6] : List va_W))).trans (List.Perm.cons _ (List.perm_middle (a := (oX4 ty (r0 0) a0 z0 : va_W)) (l₁ := ([oX1 ty (r0 1) a1 z1] : List va_W)) (l₂ := ([oX5 ty (r0 3) a3 z3, oX0 ty (r0 5) aa5 z5, oX2 ty (r0 6) a6 z6] : List va_W))))) : List.Perm ([oX1 ty (r0 1) a1 z1, oX6 h0 r0, oX4 ty (r0 0) a0 z0, oX5 ty (r0 3) a3 z3, oX0 ty (r0 5) aa5 z5, oX2 ty (r0 6) a6 z6] : List va_W) ([oX6 h0 r0, oX4 ty (r0 0) a0 z0, oX1 ty (r0 1) a1 z1, oX5 ty (r0 3) a3 z3, oX0 ty (r0 5) aa5 z5, oX2 ty (r0 6) a6 z6] : List va_W)) hP hD hS hA (fun H locs hP hD hS => ?_)
    clear hp1 hv
    obtain hf := hf
    have e0 := Option.some.inj hf
    exact CX_i F hr hlk hP hD hS e0 dX6_about_107
  replace hf := ite_f hf hc5
  by_cases hc6 : p1 = (6 : Int32)
  · replace hf := ite_t hf hc6
    refine lv_tableIn (tgt := 108) hx hb dX6_about_1 (by rw [hc6]; decide) (by rw [hc6]; decide) (by rw [hc6]; rfl) (by decide) ?_
    refine lv_aload_n hx hb dX6_about_108 rfl (lv_at hl 0 rfl) ?_
    refine va_get (D := D) (ci := 6) (C := RX6) (T := TX6) (N := 8) hx hb F.2.2.2.2 in_X6_about_X6 F.2.2.2.1 hK.1 hP 0 rfl rfl 1 (Nat.le_of_ble_eq_true rfl) (F.2.2.2.2 (.fieldLink RX6 19 "LouderRoom" "now" "LLouderRoom$Crowd;") (List.mem_of_getElem? (i := 1) rfl)) (fun _ h9 => h9) rfl dX6_about_109 ?_
    obtain ⟨v4, hv, hf⟩ := obd hf
    have hp1 : List.Perm [oX6 h0 r0, oX4 ty (r0 0) a0 z0, oX1 ty (r0 1) a1 z1, oX5 ty (r0 3) a3 z3, oX0 ty (r0 5) aa5 z5, oX2 ty (r0 6) a6 z6] ([oX1 ty (r0 1) a1 z1] ++ [oX6 h0 r0, oX4 ty (r0 0) a0 z0, oX5 ty (r0 3) a3 z3, oX0 ty (r0 5) aa5 z5, oX2 ty (r0 6) a6 z6]) := ((List.perm_middle (a := (oX1 ty (r0 1) a1 z1 : va_W)) (l₁ := ([oX6 h0 r0, oX4 ty (r0 0) a0 z0] : List va_W)) (l₂ := ([oX5 ty (r0 3) a3 z3, oX0 ty (r0 5) aa5 z5, oX2 ty (r0 6) a6 z6] : List va_W))) : List.Perm ([oX6 h0 r0, oX4 ty (r0 0) a0 z0, oX1 ty (r0 1) a1 z1, oX5 ty (r0 3) a3 z3, oX0 ty (r0 5) aa5 z5, oX2 ty (r0 6) a6 z6] : List va_W) ([oX1 ty (r0 1) a1 z1, oX6 h0 r0, oX4 ty (r0 0) a0 z0, oX5 ty (r0 3) a3 z3, oX0 ty (r0 5) aa5 z5, oX2 ty (r0 6) a6 z6] : List va_W))
    refine ci_call (out := v4) (os := [oX6 h0 r0, oX4 ty (r0 0) a0 z0, oX1 ty (r0 1) a1 z1, oX5 ty (r0 3) a3 z3, oX0 ty (r0 5) aa5 z5, oX2 ty (r0 6) a6 z6]) (oc := [oX1 ty (r0 1) a1 z1]) (oc' := [oX1 ty (r0 1) a1 z1]) (or_ := [oX6 h0 r0, oX4 ty (r0 0) a0 z0, oX5 ty (r0 3) a3 z3, oX0 ty (r0 5) aa5 z5, oX2 ty (r0 6) a6 z6]) (os' := [oX6 h0 r0, oX4 ty (r0 0) a0 z0, oX1 ty (r0 1) a1 z1, oX5 ty (r0 3) a3 z3, oX0 ty (r0 5) aa5 z5, oX2 ty (r0 6) a6 z6]) (va_runV (As := []) (rest := []) F (c_X1_hearing l D ty (r0 1) a1 _ _ hv _) (cwV 0 F.2.2.2.2 gX6_about_X1_hearing rfl rfl rfl ⟨rfl, hd_X1_hearing⟩ ⟨Nat.le_of_ble_eq_true rfl, Nat.le_of_ble_eq_true rfl⟩) (pre_v hK hP hD hp1 rfl rfl rfl) rfl rfl hl.1 rfl (lv_room (Nat.le_of_ble_eq_true rfl)) dX6_about_112 ⟨Nat.zero_le _, Nat.zero_le _⟩) hp1 (((List.perm_middle (a := (oX6 h0 r0 : va_W)) (l₁ := ([oX1 ty (r0 1) a1 z1] : List va_W)) (l₂ := ([oX4 ty (r0 0) a0 z0, oX5 ty (r0 3) a3 z3, oX0 ty (r0 5) aa5 z5, oX2 ty (r0 6) a6 z6] : List va_W))).trans (List.Perm.cons _ (List.perm_middle (a := (oX4 ty (r0 0) a0 z0 : va_W)) (l₁ := ([oX1 ty (r0 1) a1 z1] : List va_W)) (l₂ := ([oX5 ty (r0 3) a3 z3, oX0 ty (r0 5) aa5 z5, oX2 ty (r0 6) a6 z6] : List va_W))))) : List.Perm ([oX1 ty (r0 1) a1 z1, oX6 h0 r0, oX4 ty (r0 0) a0 z0, oX5 ty (r0 3) a3 z3, oX0 ty (r0 5) aa5 z5, oX2 ty (r0 6) a6 z6] : List va_W) ([oX6 h0 r0, oX4 ty (r0 0) a0 z0, oX1 ty (r0 1) a1 z1, oX5 ty (r0 3) a3 z3, oX0 ty (r0 5) aa5 z5, oX2 ty (r0 6) a6 z6] : List va_W)) hP hD hS hA (fun H locs hP hD hS => ?_)
    clear hp1 hv
    obtain hf := hf
    have e0 := Option.some.inj hf
    exact CX_i F hr hlk hP hD hS e0 dX6_about_115
  replace hf := ite_f hf hc6
  by_cases hc7 : p1 = (7 : Int32)
  · replace hf := ite_t hf hc7
    refine lv_tableIn (tgt := 116) hx hb dX6_about_1 (by rw [hc7]; decide) (by rw [hc7]; decide) (by rw [hc7]; rfl) (by decide) ?_
    refine lv_aload_n hx hb dX6_about_116 rfl (lv_at hl 0 rfl) ?_
    refine va_get (D := D) (ci := 6) (C := RX6) (T := TX6) (N := 8) hx hb F.2.2.2.2 in_X6_about_X6 F.2.2.2.1 hK.1 hP 0 rfl rfl 3 (Nat.le_of_ble_eq_true rfl) (F.2.2.2.2 (.fieldLink RX6 29 "LouderRoom" "wares" "LLouderRoom$Wares;") (List.mem_of_getElem? (i := 2) rfl)) (fun _ h9 => h9) rfl dX6_about_117 ?_
    refine va_getN (D := D) (ci := 5) (C := RX5) (T := TX5) (N := 3) hx hb F.2.2.2.2 in_X6_about_X5 F.2.2.2.1 hK.1 hP 10 rfl rfl 2 (Nat.le_of_ble_eq_true rfl) (KN.use hK 20 (w := .fieldLinkNest RX6 101 "LouderRoom$Wares" "count" "I" "LouderRoom") rfl _) (fun _ h9 => h9) rfl dX6_about_120 ?_
    obtain hf := hf
    have e0 := Option.some.inj hf
    exact CX_i F hr hlk hP hD hS e0 dX6_about_123
  replace hf := ite_f hf hc7
  by_cases hc8 : p1 = (8 : Int32)
  · replace hf := ite_t hf hc8
    refine lv_tableIn (tgt := 124) hx hb dX6_about_1 (by rw [hc8]; decide) (by rw [hc8]; decide) (by rw [hc8]; rfl) (by decide) ?_
    refine lv_aload_n hx hb dX6_about_124 rfl (lv_at hl 0 rfl) ?_
    refine va_get (D := D) (ci := 6) (C := RX6) (T := TX6) (N := 8) hx hb F.2.2.2.2 in_X6_about_X6 F.2.2.2.1 hK.1 hP 0 rfl rfl 5 (Nat.le_of_ble_eq_true rfl) (F.2.2.2.2 (.fieldLink RX6 39 "LouderRoom" "acts" "LLouderRoom$Acts;") (List.mem_of_getElem? (i := 3) rfl)) (fun _ h9 => h9) rfl dX6_about_125 ?_
    refine va_getN (D := D) (ci := 0) (C := RX0) (T := TX0) (N := 2) hx hb F.2.2.2.2 in_X6_about_X0 F.2.2.2.1 hK.1 hP 13 rfl rfl 1 (Nat.le_of_ble_eq_true rfl) (KN.use hK 22 (w := .fieldLinkNest RX6 104 "LouderRoom$Acts" "count" "I" "LouderRoom") rfl _) (fun _ h9 => h9) rfl dX6_about_128 ?_
    obtain hf := hf
    have e0 := Option.some.inj hf
    exact CX_i F hr hlk hP hD hS e0 dX6_about_131
  replace hf := ite_f hf hc8
  by_cases hc9 : p1 = (9 : Int32)
  · replace hf := ite_t hf hc9
    refine lv_tableIn (tgt := 132) hx hb dX6_about_1 (by rw [hc9]; decide) (by rw [hc9]; decide) (by rw [hc9]; rfl) (by decide) ?_
    refine lv_aload_n hx hb dX6_about_132 rfl (lv_at hl 0 rfl) ?_
    refine va_get (D := D) (ci := 6) (C := RX6) (T := TX6) (N := 8) hx hb F.2.2.2.2 in_X6_about_X6 F.2.2.2.1 hK.1 hP 0 rfl rfl 6 (Nat.le_of_ble_eq_true rfl) (F.2.2.2.2 (.fieldLink RX6 46 "LouderRoom" "meters" "LLouderRoom$Meters;") (List.mem_of_getElem? (i := 4) rfl)) (fun _ h9 => h9) rfl dX6_about_133 ?_
    refine va_getN (D := D) (ci := 2) (C := RX2) (T := TX2) (N := 3) hx hb F.2.2.2.2 in_X6_about_X2 F.2.2.2.1 hK.1 hP 85 rfl rfl 2 (Nat.le_of_ble_eq_true rfl) (KN.use hK 24 (w := .fieldLinkNest RX6 105 "LouderRoom$Meters" "count" "I" "LouderRoom") rfl _) (fun _ h9 => h9) rfl dX6_about_136 ?_
    obtain hf := hf
    have e0 := Option.some.inj hf
    exact CX_i F hr hlk hP hD hS e0 dX6_about_139
  replace hf := ite_f hf hc9
  by_cases hc10 : p1 = (10 : Int32)
  · replace hf := ite_t hf hc10
    refine lv_tableIn (tgt := 140) hx hb dX6_about_1 (by rw [hc10]; decide) (by rw [hc10]; decide) (by rw [hc10]; rfl) (by decide) ?_
    refine lv_aload_n hx hb dX6_about_140 rfl (lv_at hl 0 rfl) ?_
    refine va_get (D := D) (ci := 6) (C := RX6) (T := TX6) (N := 8) hx hb F.2.2.2.2 in_X6_about_X6 F.2.2.2.1 hK.1 hP 0 rfl rfl 0 (Nat.le_of_ble_eq_true rfl) (F.2.2.2.2 (.fieldLink RX6 10 "LouderRoom" "told" "LLouderRoom$Told;") (List.mem_of_getElem? (i := 5) rfl)) (fun _ h9 => h9) rfl dX6_about_141 ?_
    refine va_getN (D := D) (ci := 4) (C := RX4) (T := TX4) (N := 4) hx hb F.2.2.2.2 in_X6_about_X4 F.2.2.2.1 hK.1 hP 1 rfl rfl 1 (Nat.le_of_ble_eq_true rfl) (KN.use hK 1 (w := .fieldLinkNest RX6 106 "LouderRoom$Told" "length" "I" "LouderRoom") rfl _) (fun _ h9 => h9) rfl dX6_about_144 ?_
    obtain hf := hf
    have e0 := Option.some.inj hf
    exact CX_i F hr hlk hP hD hS e0 dX6_about_147
  replace hf := ite_f hf hc10
  refine lv_tableOut (tgt := 148) hx hb dX6_about_1 (sw_out11 hc0 hc1 hc2 hc3 hc4 hc5 hc6 hc7 hc8 hc9 hc10) (by decide) ?_
  refine lv_bipush (v := (-2 : Int32)) hx hb dX6_about_148 (by decide) ?_
  obtain hf := hf
  have e0 := Option.some.inj hf
  exact CX_i F hr hlk hP hD hS e0 dX6_about_150
def f_X6_ring (z1 : Ob) (p1 : Int32) (p2 : Int32) : Option (Int32) := (f_X1_has z1 p1).bind (fun v1 => (if v1 = 0 then some (-1 : Int32) else (if p2 = (0 : Int32) then (if inb p1 8 = true then some (z1.2 0 p1.toNatClampNeg) else none) else (if p2 = (1 : Int32) then (if inb p1 8 = true then some (z1.2 1 p1.toNatClampNeg) else none) else (if p2 = (2 : Int32) then (if inb p1 8 = true then some (z1.2 2 p1.toNatClampNeg) else none) else (if p2 = (3 : Int32) then (if inb p1 8 = true then some (z1.2 3 p1.toNatClampNeg) else none) else (if p2 = (4 : Int32) then (if inb p1 8 = true then some (z1.2 4 p1.toNatClampNeg) else none) else (if p2 = (5 : Int32) then (f_X1_loudOf z1 p1).bind (fun v2 => some v2) else (if p2 = (6 : Int32) then (f_X1_loudOf z1 p1).bind (fun v3 => (f_X1_soundBy z1 p1 v3).bind (fun v4 => some v4)) else (if p2 = (7 : Int32) then (if inb p1 8 = true then (f_X1_noiseAt z1 (z1.2 1 p1.toNatClampNeg)).bind (fun v5 => some v5) else none) else (if p2 = (8 : Int32) then (f_X1_hears z1 p1).bind (fun v6 => (if v6 = 0 then some (0 : Int32) else some (1 : Int32))) else some (-2 : Int32))))))))))))
abbrev rm_X6_ring : Room := { frames := 5, cells := 0, slots := 0, locals := 111 }
theorem hd_X6_ring : yX6_ring.cls ≠ "java/lang/invoke/MethodHandle" ∧ yX6_ring.cls ≠ "java/lang/invoke/VarHandle" ∧ (parseMethodDescriptor yX6_ring.desc).map (fun d => d.parameters.length) = some 2 := by decide +kernel
theorem in_X6_ring_X6 : ∀ w ∈ wsX60, w ∈ wsX6_ring := fun w h => List.mem_cons_of_mem _ (List.mem_append_left _ (List.mem_append_right _ h))
theorem in_X6_ring_X1 : ∀ w ∈ wsX10, w ∈ wsX6_ring := fun w h => List.mem_cons_of_mem _ (List.mem_append_right _ h)
set_option maxHeartbeats 4000000 in
set_option maxRecDepth 100000 in
theorem c_X6_ring (l : Launch) (D : va_G) (ty : TY) (h0 : Nat) (r0 : Nat → Nat) (a1 : Nat → Nat) (z1 : Ob) (p1 : Int32) (p2 : Int32) (o0 : Int32) (hf : f_X6_ring z1 p1 p2 = some o0) (sz : Nat) : CX l yX6_ring wsX6_ring rm_X6_ring ([.ref h0, .int p1, .int p2] : List Value) D ty (fl [oX6 h0 r0, oX1 ty (r0 1) a1 z1]) sz (qI D o0 (fl [oX6 h0 r0, oX1 ty (r0 1) a1 z1])) 0 0 := by
  refine CX_of (cc := cX6_ring) (maxL := 3) (ret := (some .int)) (C := RX6) (by decide) rfl rfl (Nat.le_of_ble_eq_true rfl) ?_
  intro p e s m below meth c A ls F hr hlk _ hK hP hD hS hA hl
  have hx := F.1
  have hb := F.2.1
  replace hl : lv_has ls 3 [(0, .ref h0), (1, .int p1), (2, .int p2)] := hl
  unfold f_X6_ring at hf
  refine lv_aload_n hx hb dX6_ring_0 rfl (lv_at hl 0 rfl) ?_
  refine va_get (D := D) (ci := 6) (C := RX6) (T := TX6) (N := 8) hx hb F.2.2.2.2 in_X6_ring_X6 F.2.2.2.1 hK.1 hP 0 rfl rfl 1 (Nat.le_of_ble_eq_true rfl) (F.2.2.2.2 (.fieldLink RX6 19 "LouderRoom" "now" "LLouderRoom$Crowd;") (List.mem_of_getElem? (i := 1) rfl)) (fun _ h9 => h9) rfl dX6_ring_1 ?_
  refine lv_iload_n hx hb dX6_ring_4 rfl (lv_at hl 1 rfl) ?_
  obtain ⟨v1, hv, hf⟩ := obd hf
  have hp1 : List.Perm [oX6 h0 r0, oX1 ty (r0 1) a1 z1] ([oX1 ty (r0 1) a1 z1] ++ [oX6 h0 r0]) := ((List.perm_middle (a := (oX1 ty (r0 1) a1 z1 : va_W)) (l₁ := ([oX6 h0 r0] : List va_W)) (l₂ := ([] : List va_W))) : List.Perm ([oX6 h0 r0, oX1 ty (r0 1) a1 z1] : List va_W) ([oX1 ty (r0 1) a1 z1, oX6 h0 r0] : List va_W))
  refine ci_call (out := v1) (os := [oX6 h0 r0, oX1 ty (r0 1) a1 z1]) (oc := [oX1 ty (r0 1) a1 z1]) (oc' := [oX1 ty (r0 1) a1 z1]) (or_ := [oX6 h0 r0]) (os' := [oX6 h0 r0, oX1 ty (r0 1) a1 z1]) (va_runV (As := [.int p1]) (rest := []) F (c_X1_has l D ty (r0 1) a1 _ _ _ hv _) (cwV 1 F.2.2.2.2 gX6_ring_X1_has rfl rfl rfl ⟨rfl, hd_X1_has⟩ ⟨Nat.le_of_ble_eq_true rfl, Nat.le_of_ble_eq_true rfl⟩) (pre_v hK hP hD hp1 rfl rfl rfl) rfl rfl hl.1 rfl (lv_room (Nat.le_of_ble_eq_true rfl)) dX6_ring_5 ⟨Nat.zero_le _, Nat.zero_le _⟩) hp1 ((List.perm_middle (a := (oX6 h0 r0 : va_W)) (l₁ := ([oX1 ty (r0 1) a1 z1] : List va_W)) (l₂ := ([] : List va_W))) : List.Perm ([oX1 ty (r0 1) a1 z1, oX6 h0 r0] : List va_W) ([oX6 h0 r0, oX1 ty (r0 1) a1 z1] : List va_W)) hP hD hS hA (fun H locs hP hD hS => ?_)
  clear hp1 hv
  refine lv_if_ne (tgt := 13) hx hb dX6_ring_8 (by decide) (fun hc => ?_) (fun hc => ?_)
  · replace hf := ite_f hf hc
    refine lv_iload_n hx hb dX6_ring_13 rfl (lv_at hl 2 rfl) ?_
    by_cases hc0 : p2 = (0 : Int32)
    · replace hf := ite_t hf hc0
      refine lv_tableIn (tgt := 64) hx hb dX6_ring_14 (by rw [hc0]; decide) (by rw [hc0]; decide) (by rw [hc0]; rfl) (by decide) ?_
      refine lv_aload_n hx hb dX6_ring_64 rfl (lv_at hl 0 rfl) ?_
      refine va_get (D := D) (ci := 6) (C := RX6) (T := TX6) (N := 8) hx hb F.2.2.2.2 in_X6_ring_X6 F.2.2.2.1 hK.1 hP 0 rfl rfl 1 (Nat.le_of_ble_eq_true rfl) (F.2.2.2.2 (.fieldLink RX6 19 "LouderRoom" "now" "LLouderRoom$Crowd;") (List.mem_of_getElem? (i := 1) rfl)) (fun _ h9 => h9) rfl dX6_ring_65 ?_
      refine va_getN (D := D) (ci := 1) (C := RX1) (T := TX1) (N := 12) hx hb F.2.2.2.2 in_X6_ring_X1 F.2.2.2.1 hK.1 hP 1 rfl rfl 0 (Nat.le_of_ble_eq_true rfl) (KN.use hK 3 (w := .fieldLinkNest RX6 113 "LouderRoom$Crowd" "kind" "[I" "LouderRoom") rfl _) (fun _ h9 => h9) rfl dX6_ring_68 ?_
      refine lv_iload_n hx hb dX6_ring_71 rfl (lv_at hl 1 rfl) ?_
      obtain ⟨hi, hf⟩ := grd hf
      refine va_iald hx hb hK.1 hP 2 0 rfl rfl (inb_in hi) dX6_ring_72 ?_
      obtain hf := hf
      have e0 := Option.some.inj hf
      exact CX_i F hr hlk hP hD hS e0 dX6_ring_73
    replace hf := ite_f hf hc0
    by_cases hc1 : p2 = (1 : Int32)
    · replace hf := ite_t hf hc1
      refine lv_tableIn (tgt := 74) hx hb dX6_ring_14 (by rw [hc1]; decide) (by rw [hc1]; decide) (by rw [hc1]; rfl) (by decide) ?_
      refine lv_aload_n hx hb dX6_ring_74 rfl (lv_at hl 0 rfl) ?_
      refine va_get (D := D) (ci := 6) (C := RX6) (T := TX6) (N := 8) hx hb F.2.2.2.2 in_X6_ring_X6 F.2.2.2.1 hK.1 hP 0 rfl rfl 1 (Nat.le_of_ble_eq_true rfl) (F.2.2.2.2 (.fieldLink RX6 19 "LouderRoom" "now" "LLouderRoom$Crowd;") (List.mem_of_getElem? (i := 1) rfl)) (fun _ h9 => h9) rfl dX6_ring_75 ?_
      refine va_getN (D := D) (ci := 1) (C := RX1) (T := TX1) (N := 12) hx hb F.2.2.2.2 in_X6_ring_X1 F.2.2.2.1 hK.1 hP 1 rfl rfl 1 (Nat.le_of_ble_eq_true rfl) (KN.use hK 4 (w := .fieldLinkNest RX6 117 "LouderRoom$Crowd" "cell" "[I" "LouderRoom") rfl _) (fun _ h9 => h9) rfl dX6_ring_78 ?_
      refine lv_iload_n hx hb dX6_ring_81 rfl (lv_at hl 1 rfl) ?_
      obtain ⟨hi, hf⟩ := grd hf
      refine va_iald hx hb hK.1 hP 3 0 rfl rfl (inb_in hi) dX6_ring_82 ?_
      obtain hf := hf
      have e0 := Option.some.inj hf
      exact CX_i F hr hlk hP hD hS e0 dX6_ring_83
    replace hf := ite_f hf hc1
    by_cases hc2 : p2 = (2 : Int32)
    · replace hf := ite_t hf hc2
      refine lv_tableIn (tgt := 84) hx hb dX6_ring_14 (by rw [hc2]; decide) (by rw [hc2]; decide) (by rw [hc2]; rfl) (by decide) ?_
      refine lv_aload_n hx hb dX6_ring_84 rfl (lv_at hl 0 rfl) ?_
      refine va_get (D := D) (ci := 6) (C := RX6) (T := TX6) (N := 8) hx hb F.2.2.2.2 in_X6_ring_X6 F.2.2.2.1 hK.1 hP 0 rfl rfl 1 (Nat.le_of_ble_eq_true rfl) (F.2.2.2.2 (.fieldLink RX6 19 "LouderRoom" "now" "LLouderRoom$Crowd;") (List.mem_of_getElem? (i := 1) rfl)) (fun _ h9 => h9) rfl dX6_ring_85 ?_
      refine va_getN (D := D) (ci := 1) (C := RX1) (T := TX1) (N := 12) hx hb F.2.2.2.2 in_X6_ring_X1 F.2.2.2.1 hK.1 hP 1 rfl rfl 2 (Nat.le_of_ble_eq_true rfl) (KN.use hK 5 (w := .fieldLinkNest RX6 120 "LouderRoom$Crowd" "people" "[I" "LouderRoom") rfl _) (fun _ h9 => h9) rfl dX6_ring_88 ?_
      refine lv_iload_n hx hb dX6_ring_91 rfl (lv_at hl 1 rfl) ?_
      obtain ⟨hi, hf⟩ := grd hf
      refine va_iald hx hb hK.1 hP 4 0 rfl rfl (inb_in hi) dX6_ring_92 ?_
      obtain hf := hf
      have e0 := Option.some.inj hf
      exact CX_i F hr hlk hP hD hS e0 dX6_ring_93
    replace hf := ite_f hf hc2
    by_cases hc3 : p2 = (3 : Int32)
    · replace hf := ite_t hf hc3
      refine lv_tableIn (tgt := 94) hx hb dX6_ring_14 (by rw [hc3]; decide) (by rw [hc3]; decide) (by rw [hc3]; rfl) (by decide) ?_
      refine lv_aload_n hx hb dX6_ring_94 rfl (lv_at hl 0 rfl) ?_
      refine va_get (D := D) (ci := 6) (C := RX6) (T := TX6) (N := 8) hx hb F.2.2.2.2 in_X6_ring_X6 F.2.2.2.1 hK.1 hP 0 rfl rfl 1 (Nat.le_of_ble_eq_true rfl) (F.2.2.2.2 (.fieldLink RX6 19 "LouderRoom" "now" "LLouderRoom$Crowd;") (List.mem_of_getElem? (i := 1) rfl)) (fun _ h9 => h9) rfl dX6_ring_95 ?_
      refine va_getN (D := D) (ci := 1) (C := RX1) (T := TX1) (N := 12) hx hb F.2.2.2.2 in_X6_ring_X1 F.2.2.2.1 hK.1 hP 1 rfl rfl 3 (Nat.le_of_ble_eq_true rfl) (KN.use hK 6 (w := .fieldLinkNest RX6 123 "LouderRoom$Crowd" "voice" "[I" "LouderRoom") rfl _) (fun _ h9 => h9) rfl dX6_ring_98 ?_
      refine lv_iload_n hx hb dX6_ring_101 rfl (lv_at hl 1 rfl) ?_
      obtain ⟨hi, hf⟩ := grd hf
      refine va_iald hx hb hK.1 hP 5 0 rfl rfl (inb_in hi) dX6_ring_102 ?_
      obtain hf := hf
      have e0 := Option.some.inj hf
      exact CX_i F hr hlk hP hD hS e0 dX6_ring_103
    replace hf := ite_f hf hc3
    by_cases hc4 : p2 = (4 : Int32)
    · replace hf := ite_t hf hc4
      refine lv_tableIn (tgt := 104) hx hb dX6_ring_14 (by rw [hc4]; decide) (by rw [hc4]; decide) (by rw [hc4]; rfl) (by decide) ?_
      refine lv_aload_n hx hb dX6_ring_104 rfl (lv_at hl 0 rfl) ?_
      refine va_get (D := D) (ci := 6) (C := RX6) (T := TX6) (N := 8) hx hb F.2.2.2.2 in_X6_ring_X6 F.2.2.2.1 hK.1 hP 0 rfl rfl 1 (Nat.le_of_ble_eq_true rfl) (F.2.2.2.2 (.fieldLink RX6 19 "LouderRoom" "now" "LLouderRoom$Crowd;") (List.mem_of_getElem? (i := 1) rfl)) (fun _ h9 => h9) rfl dX6_ring_105 ?_
      refine va_getN (D := D) (ci := 1) (C := RX1) (T := TX1) (N := 12) hx hb F.2.2.2.2 in_X6_ring_X1 F.2.2.2.1 hK.1 hP 1 rfl rfl 4 (Nat.le_of_ble_eq_true rfl) (KN.use hK 7 (w := .fieldLinkNest RX6 126 "LouderRoom$Crowd" "age" "[I" "LouderRoom") rfl _) (fun _ h9 => h9) rfl dX6_ring_108 ?_
      refine lv_iload_n hx hb dX6_ring_111 rfl (lv_at hl 1 rfl) ?_
      obtain ⟨hi, hf⟩ := grd hf
      refine va_iald hx hb hK.1 hP 6 0 rfl rfl (inb_in hi) dX6_ring_112 ?_
      obtain hf := hf
      have e0 := Option.some.inj hf
      exact CX_i F hr hlk hP hD hS e0 dX6_ring_113
    replace hf := ite_f hf hc4
    by_cases hc5 : p2 = (5 : Int32)
    · replace hf := ite_t hf hc5
      refine lv_tableIn (tgt := 114) hx hb dX6_ring_14 (by rw [hc5]; decide) (by rw [hc5]; decide) (by rw [hc5]; rfl) (by decide) ?_
      refine lv_aload_n hx hb dX6_ring_114 rfl (lv_at hl 0 rfl) ?_
      refine va_get (D := D) (ci := 6) (C := RX6) (T := TX6) (N := 8) hx hb F.2.2.2.2 in_X6_ring_X6 F.2.2.2.1 hK.1 hP 0 rfl rfl 1 (Nat.le_of_ble_eq_true rfl) (F.2.2.2.2 (.fieldLink RX6 19 "LouderRoom" "now" "LLouderRoom$Crowd;") (List.mem_of_getElem? (i := 1) rfl)) (fun _ h9 => h9) rfl dX6_ring_115 ?_
      refine lv_iload_n hx hb dX6_ring_118 rfl (lv_at hl 1 rfl) ?_
      obtain ⟨v2, hv, hf⟩ := obd hf
      have hp1 : List.Perm [oX6 h0 r0, oX1 ty (r0 1) a1 z1] ([oX1 ty (r0 1) a1 z1] ++ [oX6 h0 r0]) := ((List.perm_middle (a := (oX1 ty (r0 1) a1 z1 : va_W)) (l₁ := ([oX6 h0 r0] : List va_W)) (l₂ := ([] : List va_W))) : List.Perm ([oX6 h0 r0, oX1 ty (r0 1) a1 z1] : List va_W) ([oX1 ty (r0 1) a1 z1, oX6 h0 r0] : List va_W))
      refine ci_call (out := v2) (os := [oX6 h0 r0, oX1 ty (r0 1) a1 z1]) (oc := [oX1 ty (r0 1) a1 z1]) (oc' := [oX1 ty (r0 1) a1 z1]) (or_ := [oX6 h0 r0]) (os' := [oX6 h0 r0, oX1 ty (r0 1) a1 z1]) (va_runV (As := [.int p1]) (rest := []) F (c_X1_loudOf l D ty (r0 1) a1 _ _ _ hv _) (cwV 1 F.2.2.2.2 gX6_ring_X1_loudOf rfl rfl rfl ⟨rfl, hd_X1_loudOf⟩ ⟨Nat.le_of_ble_eq_true rfl, Nat.le_of_ble_eq_true rfl⟩) (pre_v hK hP hD hp1 rfl rfl rfl) rfl rfl hl.1 rfl (lv_room (Nat.le_of_ble_eq_true rfl)) dX6_ring_119 ⟨Nat.zero_le _, Nat.zero_le _⟩) hp1 ((List.perm_middle (a := (oX6 h0 r0 : va_W)) (l₁ := ([oX1 ty (r0 1) a1 z1] : List va_W)) (l₂ := ([] : List va_W))) : List.Perm ([oX1 ty (r0 1) a1 z1, oX6 h0 r0] : List va_W) ([oX6 h0 r0, oX1 ty (r0 1) a1 z1] : List va_W)) hP hD hS hA (fun H locs hP hD hS => ?_)
      clear hp1 hv
      obtain hf := hf
      have e0 := Option.some.inj hf
      exact CX_i F hr hlk hP hD hS e0 dX6_ring_122
    replace hf := ite_f hf hc5
    by_cases hc6 : p2 = (6 : Int32)
    · replace hf := ite_t hf hc6
      refine lv_tableIn (tgt := 123) hx hb dX6_ring_14 (by rw [hc6]; decide) (by rw [hc6]; decide) (by rw [hc6]; rfl) (by decide) ?_
      refine lv_aload_n hx hb dX6_ring_123 rfl (lv_at hl 0 rfl) ?_
      refine va_get (D := D) (ci := 6) (C := RX6) (T := TX6) (N := 8) hx hb F.2.2.2.2 in_X6_ring_X6 F.2.2.2.1 hK.1 hP 0 rfl rfl 1 (Nat.le_of_ble_eq_true rfl) (F.2.2.2.2 (.fieldLink RX6 19 "LouderRoom" "now" "LLouderRoom$Crowd;") (List.mem_of_getElem? (i := 1) rfl)) (fun _ h9 => h9) rfl dX6_ring_124 ?_
      refine lv_iload_n hx hb dX6_ring_127 rfl (lv_at hl 1 rfl) ?_
      refine lv_aload_n hx hb dX6_ring_128 rfl (lv_at hl 0 rfl) ?_
      refine va_get (D := D) (ci := 6) (C := RX6) (T := TX6) (N := 8) hx hb F.2.2.2.2 in_X6_ring_X6 F.2.2.2.1 hK.1 hP 0 rfl rfl 1 (Nat.le_of_ble_eq_true rfl) (F.2.2.2.2 (.fieldLink RX6 19 "LouderRoom" "now" "LLouderRoom$Crowd;") (List.mem_of_getElem? (i := 1) rfl)) (fun _ h9 => h9) rfl dX6_ring_129 ?_
      refine lv_iload_n hx hb dX6_ring_132 rfl (lv_at hl 1 rfl) ?_
      obtain ⟨v3, hv, hf⟩ := obd hf
      have hp1 : List.Perm [oX6 h0 r0, oX1 ty (r0 1) a1 z1] ([oX1 ty (r0 1) a1 z1] ++ [oX6 h0 r0]) := ((List.perm_middle (a := (oX1 ty (r0 1) a1 z1 : va_W)) (l₁ := ([oX6 h0 r0] : List va_W)) (l₂ := ([] : List va_W))) : List.Perm ([oX6 h0 r0, oX1 ty (r0 1) a1 z1] : List va_W) ([oX1 ty (r0 1) a1 z1, oX6 h0 r0] : List va_W))
      refine ci_call (out := v3) (os := [oX6 h0 r0, oX1 ty (r0 1) a1 z1]) (oc := [oX1 ty (r0 1) a1 z1]) (oc' := [oX1 ty (r0 1) a1 z1]) (or_ := [oX6 h0 r0]) (os' := [oX6 h0 r0, oX1 ty (r0 1) a1 z1]) (va_runV (As := [.int p1]) (rest := [.int p1, .ref (r0 1)]) F (c_X1_loudOf l D ty (r0 1) a1 _ _ _ hv _) (cwV 1 F.2.2.2.2 gX6_ring_X1_loudOf rfl rfl rfl ⟨rfl, hd_X1_loudOf⟩ ⟨Nat.le_of_ble_eq_true rfl, Nat.le_of_ble_eq_true rfl⟩) (pre_v hK hP hD hp1 rfl rfl rfl) rfl rfl hl.1 rfl (lv_room (Nat.le_of_ble_eq_true rfl)) dX6_ring_133 ⟨Nat.zero_le _, Nat.zero_le _⟩) hp1 ((List.perm_middle (a := (oX6 h0 r0 : va_W)) (l₁ := ([oX1 ty (r0 1) a1 z1] : List va_W)) (l₂ := ([] : List va_W))) : List.Perm ([oX1 ty (r0 1) a1 z1, oX6 h0 r0] : List va_W) ([oX6 h0 r0, oX1 ty (r0 1) a1 z1] : List va_W)) hP hD hS hA (fun H locs hP hD hS => ?_)
      clear hp1 hv
      obtain ⟨v4, hv, hf⟩ := obd hf
      have hp1 : List.Perm [oX6 h0 r0, oX1 ty (r0 1) a1 z1] ([oX1 ty (r0 1) a1 z1] ++ [oX6 h0 r0]) := ((List.perm_middle (a := (oX1 ty (r0 1) a1 z1 : va_W)) (l₁ := ([oX6 h0 r0] : List va_W)) (l₂ := ([] : List va_W))) : List.Perm ([oX6 h0 r0, oX1 ty (r0 1) a1 z1] : List va_W) ([oX1 ty (r0 1) a1 z1, oX6 h0 r0] : List va_W))
      refine ci_call (out := v4) (os := [oX6 h0 r0, oX1 ty (r0 1) a1 z1]) (oc := [oX1 ty (r0 1) a1 z1]) (oc' := [oX1 ty (r0 1) a1 z1]) (or_ := [oX6 h0 r0]) (os' := [oX6 h0 r0, oX1 ty (r0 1) a1 z1]) (va_runV (As := [.int p1, .int v3]) (rest := []) F (c_X1_soundBy l D ty (r0 1) a1 _ _ _ _ hv _) (cwV 2 F.2.2.2.2 gX6_ring_X1_soundBy rfl rfl rfl ⟨rfl, hd_X1_soundBy⟩ ⟨Nat.le_of_ble_eq_true rfl, Nat.le_of_ble_eq_true rfl⟩) (pre_v hK hP hD hp1 rfl rfl rfl) rfl rfl hl.1 rfl (lv_room (Nat.le_of_ble_eq_true rfl)) dX6_ring_136 ⟨Nat.zero_le _, Nat.zero_le _⟩) hp1 ((List.perm_middle (a := (oX6 h0 r0 : va_W)) (l₁ := ([oX1 ty (r0 1) a1 z1] : List va_W)) (l₂ := ([] : List va_W))) : List.Perm ([oX1 ty (r0 1) a1 z1, oX6 h0 r0] : List va_W) ([oX6 h0 r0, oX1 ty (r0 1) a1 z1] : List va_W)) hP hD hS hA (fun H locs hP hD hS => ?_)
      clear hp1 hv
      obtain hf := hf
      have e0 := Option.some.inj hf
      exact CX_i F hr hlk hP hD hS e0 dX6_ring_139
    replace hf := ite_f hf hc6
    by_cases hc7 : p2 = (7 : Int32)
    · replace hf := ite_t hf hc7
      refine lv_tableIn (tgt := 140) hx hb dX6_ring_14 (by rw [hc7]; decide) (by rw [hc7]; decide) (by rw [hc7]; rfl) (by decide) ?_
      refine lv_aload_n hx hb dX6_ring_140 rfl (lv_at hl 0 rfl) ?_
      refine va_get (D := D) (ci := 6) (C := RX6) (T := TX6) (N := 8) hx hb F.2.2.2.2 in_X6_ring_X6 F.2.2.2.1 hK.1 hP 0 rfl rfl 1 (Nat.le_of_ble_eq_true rfl) (F.2.2.2.2 (.fieldLink RX6 19 "LouderRoom" "now" "LLouderRoom$Crowd;") (List.mem_of_getElem? (i := 1) rfl)) (fun _ h9 => h9) rfl dX6_ring_141 ?_
      refine lv_aload_n hx hb dX6_ring_144 rfl (lv_at hl 0 rfl) ?_
      refine va_get (D := D) (ci := 6) (C := RX6) (T := TX6) (N := 8) hx hb F.2.2.2.2 in_X6_ring_X6 F.2.2.2.1 hK.1 hP 0 rfl rfl 1 (Nat.le_of_ble_eq_true rfl) (F.2.2.2.2 (.fieldLink RX6 19 "LouderRoom" "now" "LLouderRoom$Crowd;") (List.mem_of_getElem? (i := 1) rfl)) (fun _ h9 => h9) rfl dX6_ring_145 ?_
      refine va_getN (D := D) (ci := 1) (C := RX1) (T := TX1) (N := 12) hx hb F.2.2.2.2 in_X6_ring_X1 F.2.2.2.1 hK.1 hP 1 rfl rfl 1 (Nat.le_of_ble_eq_true rfl) (KN.use hK 4 (w := .fieldLinkNest RX6 117 "LouderRoom$Crowd" "cell" "[I" "LouderRoom") rfl _) (fun _ h9 => h9) rfl dX6_ring_148 ?_
      refine lv_iload_n hx hb dX6_ring_151 rfl (lv_at hl 1 rfl) ?_
      obtain ⟨hi, hf⟩ := grd hf
      refine va_iald hx hb hK.1 hP 3 0 rfl rfl (inb_in hi) dX6_ring_152 ?_
      obtain ⟨v5, hv, hf⟩ := obd hf
      have hp1 : List.Perm [oX6 h0 r0, oX1 ty (r0 1) a1 z1] ([oX1 ty (r0 1) a1 z1] ++ [oX6 h0 r0]) := ((List.perm_middle (a := (oX1 ty (r0 1) a1 z1 : va_W)) (l₁ := ([oX6 h0 r0] : List va_W)) (l₂ := ([] : List va_W))) : List.Perm ([oX6 h0 r0, oX1 ty (r0 1) a1 z1] : List va_W) ([oX1 ty (r0 1) a1 z1, oX6 h0 r0] : List va_W))
      refine ci_call (out := v5) (os := [oX6 h0 r0, oX1 ty (r0 1) a1 z1]) (oc := [oX1 ty (r0 1) a1 z1]) (oc' := [oX1 ty (r0 1) a1 z1]) (or_ := [oX6 h0 r0]) (os' := [oX6 h0 r0, oX1 ty (r0 1) a1 z1]) (va_runV (As := [.int (z1.2 1 p1.toNatClampNeg)]) (rest := []) F (c_X1_noiseAt l D ty (r0 1) a1 _ _ _ hv _) (cwV 1 F.2.2.2.2 gX6_ring_X1_noiseAt rfl rfl rfl ⟨rfl, hd_X1_noiseAt⟩ ⟨Nat.le_of_ble_eq_true rfl, Nat.le_of_ble_eq_true rfl⟩) (pre_v hK hP hD hp1 rfl rfl rfl) rfl rfl hl.1 rfl (lv_room (Nat.le_of_ble_eq_true rfl)) dX6_ring_153 ⟨Nat.zero_le _, Nat.zero_le _⟩) hp1 ((List.perm_middle (a := (oX6 h0 r0 : va_W)) (l₁ := ([oX1 ty (r0 1) a1 z1] : List va_W)) (l₂ := ([] : List va_W))) : List.Perm ([oX1 ty (r0 1) a1 z1, oX6 h0 r0] : List va_W) ([oX6 h0 r0, oX1 ty (r0 1) a1 z1] : List va_W)) hP hD hS hA (fun H locs hP hD hS => ?_)
      clear hp1 hv
      obtain hf := hf
      have e0 := Option.some.inj hf
      exact CX_i F hr hlk hP hD hS e0 dX6_ring_156
    replace hf := ite_f hf hc7
    by_cases hc8 : p2 = (8 : Int32)
    · replace hf := ite_t hf hc8
      refine lv_tableIn (tgt := 157) hx hb dX6_ring_14 (by rw [hc8]; decide) (by rw [hc8]; decide) (by rw [hc8]; rfl) (by decide) ?_
      refine lv_aload_n hx hb dX6_ring_157 rfl (lv_at hl 0 rfl) ?_
      refine va_get (D := D) (ci := 6) (C := RX6) (T := TX6) (N := 8) hx hb F.2.2.2.2 in_X6_ring_X6 F.2.2.2.1 hK.1 hP 0 rfl rfl 1 (Nat.le_of_ble_eq_true rfl) (F.2.2.2.2 (.fieldLink RX6 19 "LouderRoom" "now" "LLouderRoom$Crowd;") (List.mem_of_getElem? (i := 1) rfl)) (fun _ h9 => h9) rfl dX6_ring_158 ?_
      refine lv_iload_n hx hb dX6_ring_161 rfl (lv_at hl 1 rfl) ?_
      obtain ⟨v6, hv, hf⟩ := obd hf
      have hp1 : List.Perm [oX6 h0 r0, oX1 ty (r0 1) a1 z1] ([oX1 ty (r0 1) a1 z1] ++ [oX6 h0 r0]) := ((List.perm_middle (a := (oX1 ty (r0 1) a1 z1 : va_W)) (l₁ := ([oX6 h0 r0] : List va_W)) (l₂ := ([] : List va_W))) : List.Perm ([oX6 h0 r0, oX1 ty (r0 1) a1 z1] : List va_W) ([oX1 ty (r0 1) a1 z1, oX6 h0 r0] : List va_W))
      refine ci_call (out := v6) (os := [oX6 h0 r0, oX1 ty (r0 1) a1 z1]) (oc := [oX1 ty (r0 1) a1 z1]) (oc' := [oX1 ty (r0 1) a1 z1]) (or_ := [oX6 h0 r0]) (os' := [oX6 h0 r0, oX1 ty (r0 1) a1 z1]) (va_runV (As := [.int p1]) (rest := []) F (c_X1_hears l D ty (r0 1) a1 _ _ _ hv _) (cwV 1 F.2.2.2.2 gX6_ring_X1_hears rfl rfl rfl ⟨rfl, hd_X1_hears⟩ ⟨Nat.le_of_ble_eq_true rfl, Nat.le_of_ble_eq_true rfl⟩) (pre_v hK hP hD hp1 rfl rfl rfl) rfl rfl hl.1 rfl (lv_room (Nat.le_of_ble_eq_true rfl)) dX6_ring_162 ⟨Nat.zero_le _, Nat.zero_le _⟩) hp1 ((List.perm_middle (a := (oX6 h0 r0 : va_W)) (l₁ := ([oX1 ty (r0 1) a1 z1] : List va_W)) (l₂ := ([] : List va_W))) : List.Perm ([oX1 ty (r0 1) a1 z1, oX6 h0 r0] : List va_W) ([oX6 h0 r0, oX1 ty (r0 1) a1 z1] : List va_W)) hP hD hS hA (fun H locs hP hD hS => ?_)
      clear hp1 hv
      refine lv_if_eq (tgt := 172) hx hb dX6_ring_165 (by decide) (fun hc => ?_) (fun hc => ?_)
      · replace hf := ite_t hf hc
        refine lv_iconst (v := (0 : Int32)) hx hb dX6_ring_172 (by decide) ?_
        obtain hf := hf
        have e0 := Option.some.inj hf
        exact CX_i F hr hlk hP hD hS e0 dX6_ring_173
      · replace hf := ite_f hf hc
        refine lv_iconst (v := (1 : Int32)) hx hb dX6_ring_168 (by decide) ?_
        refine lv_goto (tgt := 173) hx hb dX6_ring_169 (by decide) ?_
        obtain hf := hf
        have e0 := Option.some.inj hf
        exact CX_i F hr hlk hP hD hS e0 dX6_ring_173
    replace hf := ite_f hf hc8
    refine lv_tableOut (tgt := 174) hx hb dX6_ring_14 (sw_out9 hc0 hc1 hc2 hc3 hc4 hc5 hc6 hc7 hc8) (by decide) ?_
    refine lv_bipush (v := (-2 : Int32)) hx hb dX6_ring_174 (by decide) ?_
    obtain hf := hf
    have e0 := Option.some.inj hf
    exact CX_i F hr hlk hP hD hS e0 dX6_ring_176
  · replace hf := ite_t hf hc
    refine lv_iconst (v := (-1 : Int32)) hx hb dX6_ring_11 (by decide) ?_
    obtain hf := hf
    have e0 := Option.some.inj hf
    exact CX_i F hr hlk hP hD hS e0 dX6_ring_12
def f_X6_stuff (z3 : Ob) (p1 : Int32) (p2 : Int32) : Option (Int32) := (if p1 < 0 then some (-1 : Int32) else (if p1 < (z3.1 2) then (if p2 = (0 : Int32) then (if inb p1 5 = true then some (z3.2 0 p1.toNatClampNeg) else none) else (if p2 = (1 : Int32) then (if inb p1 5 = true then some (z3.2 1 p1.toNatClampNeg) else none) else some (-2 : Int32))) else some (-1 : Int32)))
abbrev rm_X6_stuff : Room := { frames := 0, cells := 0, slots := 0, locals := 0 }
theorem hd_X6_stuff : yX6_stuff.cls ≠ "java/lang/invoke/MethodHandle" ∧ yX6_stuff.cls ≠ "java/lang/invoke/VarHandle" ∧ (parseMethodDescriptor yX6_stuff.desc).map (fun d => d.parameters.length) = some 2 := by decide +kernel
theorem in_X6_stuff_X6 : ∀ w ∈ wsX60, w ∈ wsX6_stuff := fun w h => List.mem_cons_of_mem _ (List.mem_append_left _ (List.mem_append_right _ h))
theorem in_X6_stuff_X5 : ∀ w ∈ wsX50, w ∈ wsX6_stuff := fun w h => List.mem_cons_of_mem _ (List.mem_append_right _ h)
set_option maxHeartbeats 4000000 in
set_option maxRecDepth 100000 in
theorem c_X6_stuff (l : Launch) (D : va_G) (ty : TY) (h0 : Nat) (r0 : Nat → Nat) (a3 : Nat → Nat) (z3 : Ob) (p1 : Int32) (p2 : Int32) (o0 : Int32) (hf : f_X6_stuff z3 p1 p2 = some o0) (sz : Nat) : CX l yX6_stuff wsX6_stuff rm_X6_stuff ([.ref h0, .int p1, .int p2] : List Value) D ty (fl [oX6 h0 r0, oX5 ty (r0 3) a3 z3]) sz (qI D o0 (fl [oX6 h0 r0, oX5 ty (r0 3) a3 z3])) 0 0 := by
  refine CX_of (cc := cX6_stuff) (maxL := 3) (ret := (some .int)) (C := RX6) (by decide) rfl rfl (Nat.le_of_ble_eq_true rfl) ?_
  intro p e s m below meth c A ls F hr hlk _ hK hP hD hS hA hl
  have hx := F.1
  have hb := F.2.1
  replace hl : lv_has ls 3 [(0, .ref h0), (1, .int p1), (2, .int p2)] := hl
  unfold f_X6_stuff at hf
  refine lv_iload_n hx hb dX6_stuff_0 rfl (lv_at hl 1 rfl) ?_
  refine lv_if_lt (tgt := 15) hx hb dX6_stuff_1 (by decide) (fun hc => ?_) (fun hc => ?_)
  · replace hf := ite_t hf hc
    refine lv_iconst (v := (-1 : Int32)) hx hb dX6_stuff_15 (by decide) ?_
    obtain hf := hf
    have e0 := Option.some.inj hf
    exact CX_i F hr hlk hP hD hS e0 dX6_stuff_16
  · replace hf := ite_f hf hc
    refine lv_iload_n hx hb dX6_stuff_4 rfl (lv_at hl 1 rfl) ?_
    refine lv_aload_n hx hb dX6_stuff_5 rfl (lv_at hl 0 rfl) ?_
    refine va_get (D := D) (ci := 6) (C := RX6) (T := TX6) (N := 8) hx hb F.2.2.2.2 in_X6_stuff_X6 F.2.2.2.1 hK.1 hP 0 rfl rfl 3 (Nat.le_of_ble_eq_true rfl) (F.2.2.2.2 (.fieldLink RX6 29 "LouderRoom" "wares" "LLouderRoom$Wares;") (List.mem_of_getElem? (i := 1) rfl)) (fun _ h9 => h9) rfl dX6_stuff_6 ?_
    refine va_getN (D := D) (ci := 5) (C := RX5) (T := TX5) (N := 3) hx hb F.2.2.2.2 in_X6_stuff_X5 F.2.2.2.1 hK.1 hP 1 rfl rfl 2 (Nat.le_of_ble_eq_true rfl) (KN.use hK 20 (w := .fieldLinkNest RX6 101 "LouderRoom$Wares" "count" "I" "LouderRoom") rfl _) (fun _ h9 => h9) rfl dX6_stuff_9 ?_
    refine lv_icmp_lt (tgt := 17) hx hb dX6_stuff_12 (by decide) (fun hc => ?_) (fun hc => ?_)
    · replace hf := ite_t hf hc
      refine lv_iload_n hx hb dX6_stuff_17 rfl (lv_at hl 2 rfl) ?_
      by_cases hc0 : p2 = (0 : Int32)
      · replace hf := ite_t hf hc0
        refine lv_lookup (tgt := 44) (off := 26) hx hb dX6_stuff_18 (by decide) (by rw [hc0]; decide) (by decide) ?_
        refine lv_aload_n hx hb dX6_stuff_44 rfl (lv_at hl 0 rfl) ?_
        refine va_get (D := D) (ci := 6) (C := RX6) (T := TX6) (N := 8) hx hb F.2.2.2.2 in_X6_stuff_X6 F.2.2.2.1 hK.1 hP 0 rfl rfl 3 (Nat.le_of_ble_eq_true rfl) (F.2.2.2.2 (.fieldLink RX6 29 "LouderRoom" "wares" "LLouderRoom$Wares;") (List.mem_of_getElem? (i := 1) rfl)) (fun _ h9 => h9) rfl dX6_stuff_45 ?_
        refine va_getN (D := D) (ci := 5) (C := RX5) (T := TX5) (N := 3) hx hb F.2.2.2.2 in_X6_stuff_X5 F.2.2.2.1 hK.1 hP 1 rfl rfl 0 (Nat.le_of_ble_eq_true rfl) (KN.use hK 17 (w := .fieldLinkNest RX6 143 "LouderRoom$Wares" "cost" "[I" "LouderRoom") rfl _) (fun _ h9 => h9) rfl dX6_stuff_48 ?_
        refine lv_iload_n hx hb dX6_stuff_51 rfl (lv_at hl 1 rfl) ?_
        obtain ⟨hi, hf⟩ := grd hf
        refine va_iald hx hb hK.1 hP 2 0 rfl rfl (inb_in hi) dX6_stuff_52 ?_
        obtain hf := hf
        have e0 := Option.some.inj hf
        exact CX_i F hr hlk hP hD hS e0 dX6_stuff_53
      replace hf := ite_f hf hc0
      by_cases hc1 : p2 = (1 : Int32)
      · replace hf := ite_t hf hc1
        refine lv_lookup (tgt := 54) (off := 36) hx hb dX6_stuff_18 (by decide) (by rw [hc1]; decide) (by decide) ?_
        refine lv_aload_n hx hb dX6_stuff_54 rfl (lv_at hl 0 rfl) ?_
        refine va_get (D := D) (ci := 6) (C := RX6) (T := TX6) (N := 8) hx hb F.2.2.2.2 in_X6_stuff_X6 F.2.2.2.1 hK.1 hP 0 rfl rfl 3 (Nat.le_of_ble_eq_true rfl) (F.2.2.2.2 (.fieldLink RX6 29 "LouderRoom" "wares" "LLouderRoom$Wares;") (List.mem_of_getElem? (i := 1) rfl)) (fun _ h9 => h9) rfl dX6_stuff_55 ?_
        refine va_getN (D := D) (ci := 5) (C := RX5) (T := TX5) (N := 3) hx hb F.2.2.2.2 in_X6_stuff_X5 F.2.2.2.1 hK.1 hP 1 rfl rfl 1 (Nat.le_of_ble_eq_true rfl) (KN.use hK 18 (w := .fieldLinkNest RX6 146 "LouderRoom$Wares" "eaten" "[I" "LouderRoom") rfl _) (fun _ h9 => h9) rfl dX6_stuff_58 ?_
        refine lv_iload_n hx hb dX6_stuff_61 rfl (lv_at hl 1 rfl) ?_
        obtain ⟨hi, hf⟩ := grd hf
        refine va_iald hx hb hK.1 hP 3 0 rfl rfl (inb_in hi) dX6_stuff_62 ?_
        obtain hf := hf
        have e0 := Option.some.inj hf
        exact CX_i F hr hlk hP hD hS e0 dX6_stuff_63
      replace hf := ite_f hf hc1
      refine lv_lookup (tgt := 64) (off := 46) hx hb dX6_stuff_18 (by decide) (by rw [lv_osw hc0 (by decide)]; rw [lv_osw hc1 (by decide)]; rfl) (by decide) ?_
      refine lv_bipush (v := (-2 : Int32)) hx hb dX6_stuff_64 (by decide) ?_
      obtain hf := hf
      have e0 := Option.some.inj hf
      exact CX_i F hr hlk hP hD hS e0 dX6_stuff_66
    · replace hf := ite_f hf hc
      refine lv_iconst (v := (-1 : Int32)) hx hb dX6_stuff_15 (by decide) ?_
      obtain hf := hf
      have e0 := Option.some.inj hf
      exact CX_i F hr hlk hP hD hS e0 dX6_stuff_16
def f_X6_isCell (p0 : Int32) (p1 : Int32) : Option (Int32) := (if p0 < 0 then some (0 : Int32) else (if (10 : Int32) ≤ p0 then some (0 : Int32) else (if p1 < 0 then some (0 : Int32) else (if (10 : Int32) ≤ p1 then some (0 : Int32) else some (1 : Int32)))))
abbrev rm_X6_isCell : Room := { frames := 0, cells := 0, slots := 0, locals := 0 }
theorem hd_X6_isCell : yX6_isCell.cls ≠ "java/lang/invoke/MethodHandle" ∧ yX6_isCell.cls ≠ "java/lang/invoke/VarHandle" ∧ (parseMethodDescriptor yX6_isCell.desc).map (fun d => d.parameters.length) = some 2 := by decide +kernel
set_option maxHeartbeats 4000000 in
set_option maxRecDepth 100000 in
theorem c_X6_isCell (l : Launch) (D : va_G) (ty : TY) (p0 : Int32) (p1 : Int32) (o0 : Int32) (hf : f_X6_isCell p0 p1 = some o0) (sz : Nat) : CX l yX6_isCell wsX6_isCell rm_X6_isCell ([.int p0, .int p1] : List Value) D ty (fl []) sz (qI D o0 (fl [])) 0 0 := by
  refine CX_of (cc := cX6_isCell) (maxL := 2) (ret := (some .boolean)) (C := RX6) (by decide) rfl rfl (Nat.le_of_ble_eq_true rfl) ?_
  intro p e s m below meth c A ls F hr hlk _ hK hP hD hS hA hl
  have hx := F.1
  have hb := F.2.1
  replace hl : lv_has ls 2 [(0, .int p0), (1, .int p1)] := hl
  unfold f_X6_isCell at hf
  refine lv_iload_n hx hb dX6_isCell_0 rfl (lv_at hl 0 rfl) ?_
  refine lv_if_lt (tgt := 24) hx hb dX6_isCell_1 (by decide) (fun hc => ?_) (fun hc => ?_)
  · replace hf := ite_t hf hc
    refine lv_iconst (v := (0 : Int32)) hx hb dX6_isCell_24 (by decide) ?_
    obtain hf := hf
    have e0 := Option.some.inj hf
    exact CX_z F hr hlk hP hD hS narrow_b0 e0 dX6_isCell_25
  · replace hf := ite_f hf hc
    refine lv_iload_n hx hb dX6_isCell_4 rfl (lv_at hl 0 rfl) ?_
    refine lv_bipush (v := (10 : Int32)) hx hb dX6_isCell_5 (by decide) ?_
    refine lv_icmp_ge (tgt := 24) hx hb dX6_isCell_7 (by decide) (fun hc => ?_) (fun hc => ?_)
    · replace hf := ite_t hf hc
      refine lv_iconst (v := (0 : Int32)) hx hb dX6_isCell_24 (by decide) ?_
      obtain hf := hf
      have e0 := Option.some.inj hf
      exact CX_z F hr hlk hP hD hS narrow_b0 e0 dX6_isCell_25
    · replace hf := ite_f hf hc
      refine lv_iload_n hx hb dX6_isCell_10 rfl (lv_at hl 1 rfl) ?_
      refine lv_if_lt (tgt := 24) hx hb dX6_isCell_11 (by decide) (fun hc => ?_) (fun hc => ?_)
      · replace hf := ite_t hf hc
        refine lv_iconst (v := (0 : Int32)) hx hb dX6_isCell_24 (by decide) ?_
        obtain hf := hf
        have e0 := Option.some.inj hf
        exact CX_z F hr hlk hP hD hS narrow_b0 e0 dX6_isCell_25
      · replace hf := ite_f hf hc
        refine lv_iload_n hx hb dX6_isCell_14 rfl (lv_at hl 1 rfl) ?_
        refine lv_bipush (v := (10 : Int32)) hx hb dX6_isCell_15 (by decide) ?_
        refine lv_icmp_ge (tgt := 24) hx hb dX6_isCell_17 (by decide) (fun hc => ?_) (fun hc => ?_)
        · replace hf := ite_t hf hc
          refine lv_iconst (v := (0 : Int32)) hx hb dX6_isCell_24 (by decide) ?_
          obtain hf := hf
          have e0 := Option.some.inj hf
          exact CX_z F hr hlk hP hD hS narrow_b0 e0 dX6_isCell_25
        · replace hf := ite_f hf hc
          refine lv_iconst (v := (1 : Int32)) hx hb dX6_isCell_20 (by decide) ?_
          refine lv_goto (tgt := 25) hx hb dX6_isCell_21 (by decide) ?_
          obtain hf := hf
          have e0 := Option.some.inj hf
          exact CX_z F hr hlk hP hD hS narrow_b1 e0 dX6_isCell_25
def f_X6_noise (z1 : Ob) (p1 : Int32) (p2 : Int32) : Option (Int32) := (f_X6_isCell p1 p2).bind (fun v1 => (if v1 = 0 then some (-2 : Int32) else (f_X1_noiseAt z1 (((10 : Int32) * p2) + p1)).bind (fun v2 => some v2)))
abbrev rm_X6_noise : Room := { frames := 4, cells := 0, slots := 0, locals := 90 }
theorem hd_X6_noise : yX6_noise.cls ≠ "java/lang/invoke/MethodHandle" ∧ yX6_noise.cls ≠ "java/lang/invoke/VarHandle" ∧ (parseMethodDescriptor yX6_noise.desc).map (fun d => d.parameters.length) = some 2 := by decide +kernel
theorem in_X6_noise_X6 : ∀ w ∈ wsX60, w ∈ wsX6_noise := fun w h => List.mem_cons_of_mem _ (List.mem_append_left _ (List.mem_append_right _ h))
set_option maxHeartbeats 4000000 in
set_option maxRecDepth 100000 in
theorem c_X6_noise (l : Launch) (D : va_G) (ty : TY) (h0 : Nat) (r0 : Nat → Nat) (a1 : Nat → Nat) (z1 : Ob) (p1 : Int32) (p2 : Int32) (o0 : Int32) (hf : f_X6_noise z1 p1 p2 = some o0) (sz : Nat) : CX l yX6_noise wsX6_noise rm_X6_noise ([.ref h0, .int p1, .int p2] : List Value) D ty (fl [oX6 h0 r0, oX1 ty (r0 1) a1 z1]) sz (qI D o0 (fl [oX6 h0 r0, oX1 ty (r0 1) a1 z1])) 0 0 := by
  refine CX_of (cc := cX6_noise) (maxL := 3) (ret := (some .int)) (C := RX6) (by decide) rfl rfl (Nat.le_of_ble_eq_true rfl) ?_
  intro p e s m below meth c A ls F hr hlk _ hK hP hD hS hA hl
  have hx := F.1
  have hb := F.2.1
  replace hl : lv_has ls 3 [(0, .ref h0), (1, .int p1), (2, .int p2)] := hl
  unfold f_X6_noise at hf
  refine lv_iload_n hx hb dX6_noise_0 rfl (lv_at hl 1 rfl) ?_
  refine lv_iload_n hx hb dX6_noise_1 rfl (lv_at hl 2 rfl) ?_
  obtain ⟨v1, hv, hf⟩ := obd hf
  have hp1 : List.Perm [oX6 h0 r0, oX1 ty (r0 1) a1 z1] ([] ++ [oX6 h0 r0, oX1 ty (r0 1) a1 z1]) := (List.Perm.refl _)
  refine ci_call (out := v1) (os := [oX6 h0 r0, oX1 ty (r0 1) a1 z1]) (oc := []) (oc' := []) (or_ := [oX6 h0 r0, oX1 ty (r0 1) a1 z1]) (os' := [oX6 h0 r0, oX1 ty (r0 1) a1 z1]) (va_runS (As := [.int p1, .int p2]) (rest := []) F (c_X6_isCell l D ty _ _ _ hv _) (va_cwS 2 F.2.2.2.2 gX6_noise_X6_isCell rfl rfl rfl hd_X6_isCell ⟨Nat.le_of_ble_eq_true rfl, Nat.le_of_ble_eq_true rfl⟩) (pre_s hK hP hD hp1) rfl rfl hl.1 rfl (lv_room (Nat.le_of_ble_eq_true rfl)) dX6_noise_2 ⟨Nat.zero_le _, Nat.zero_le _⟩) hp1 (List.Perm.refl _) hP hD hS hA (fun H locs hP hD hS => ?_)
  clear hp1 hv
  refine lv_if_ne (tgt := 11) hx hb dX6_noise_5 (by decide) (fun hc => ?_) (fun hc => ?_)
  · replace hf := ite_f hf hc
    refine lv_aload_n hx hb dX6_noise_11 rfl (lv_at hl 0 rfl) ?_
    refine va_get (D := D) (ci := 6) (C := RX6) (T := TX6) (N := 8) hx hb F.2.2.2.2 in_X6_noise_X6 F.2.2.2.1 hK.1 hP 0 rfl rfl 1 (Nat.le_of_ble_eq_true rfl) (F.2.2.2.2 (.fieldLink RX6 19 "LouderRoom" "now" "LLouderRoom$Crowd;") (List.mem_of_getElem? (i := 1) rfl)) (fun _ h9 => h9) rfl dX6_noise_12 ?_
    refine lv_bipush (v := (10 : Int32)) hx hb dX6_noise_15 (by decide) ?_
    refine lv_iload_n hx hb dX6_noise_17 rfl (lv_at hl 2 rfl) ?_
    refine lv_imul hx hb dX6_noise_18 ?_
    refine lv_iload_n hx hb dX6_noise_19 rfl (lv_at hl 1 rfl) ?_
    refine lv_iadd hx hb dX6_noise_20 ?_
    obtain ⟨v2, hv, hf⟩ := obd hf
    have hp1 : List.Perm [oX6 h0 r0, oX1 ty (r0 1) a1 z1] ([oX1 ty (r0 1) a1 z1] ++ [oX6 h0 r0]) := ((List.perm_middle (a := (oX1 ty (r0 1) a1 z1 : va_W)) (l₁ := ([oX6 h0 r0] : List va_W)) (l₂ := ([] : List va_W))) : List.Perm ([oX6 h0 r0, oX1 ty (r0 1) a1 z1] : List va_W) ([oX1 ty (r0 1) a1 z1, oX6 h0 r0] : List va_W))
    refine ci_call (out := v2) (os := [oX6 h0 r0, oX1 ty (r0 1) a1 z1]) (oc := [oX1 ty (r0 1) a1 z1]) (oc' := [oX1 ty (r0 1) a1 z1]) (or_ := [oX6 h0 r0]) (os' := [oX6 h0 r0, oX1 ty (r0 1) a1 z1]) (va_runV (As := [.int (((10 : Int32) * p2) + p1)]) (rest := []) F (c_X1_noiseAt l D ty (r0 1) a1 _ _ _ hv _) (cwV 1 F.2.2.2.2 gX6_noise_X1_noiseAt rfl rfl rfl ⟨rfl, hd_X1_noiseAt⟩ ⟨Nat.le_of_ble_eq_true rfl, Nat.le_of_ble_eq_true rfl⟩) (pre_v hK hP hD hp1 rfl rfl rfl) rfl rfl hl.1 rfl (lv_room (Nat.le_of_ble_eq_true rfl)) dX6_noise_21 ⟨Nat.zero_le _, Nat.zero_le _⟩) hp1 ((List.perm_middle (a := (oX6 h0 r0 : va_W)) (l₁ := ([oX1 ty (r0 1) a1 z1] : List va_W)) (l₂ := ([] : List va_W))) : List.Perm ([oX1 ty (r0 1) a1 z1, oX6 h0 r0] : List va_W) ([oX6 h0 r0, oX1 ty (r0 1) a1 z1] : List va_W)) hP hD hS hA (fun H locs hP hD hS => ?_)
    clear hp1 hv
    obtain hf := hf
    have e0 := Option.some.inj hf
    exact CX_i F hr hlk hP hD hS e0 dX6_noise_24
  · replace hf := ite_t hf hc
    refine lv_bipush (v := (-2 : Int32)) hx hb dX6_noise_8 (by decide) ?_
    obtain hf := hf
    have e0 := Option.some.inj hf
    exact CX_i F hr hlk hP hD hS e0 dX6_noise_10
def f_X6_from (z1 : Ob) (p1 : Int32) (p2 : Int32) (p3 : Int32) : Option (Int32) := (f_X1_has z1 p1).bind (fun v1 => (if v1 = 0 then some (-1 : Int32) else (f_X6_isCell p2 p3).bind (fun v2 => (if v2 = 0 then some (-2 : Int32) else (f_X1_fromRing z1 p1 (((10 : Int32) * p3) + p2)).bind (fun v3 => some v3)))))
abbrev rm_X6_from : Room := { frames := 2, cells := 0, slots := 0, locals := 46 }
theorem hd_X6_from : yX6_from.cls ≠ "java/lang/invoke/MethodHandle" ∧ yX6_from.cls ≠ "java/lang/invoke/VarHandle" ∧ (parseMethodDescriptor yX6_from.desc).map (fun d => d.parameters.length) = some 3 := by decide +kernel
theorem in_X6_from_X6 : ∀ w ∈ wsX60, w ∈ wsX6_from := fun w h => List.mem_cons_of_mem _ (List.mem_append_left _ (List.mem_append_right _ h))
set_option maxHeartbeats 4000000 in
set_option maxRecDepth 100000 in
theorem c_X6_from (l : Launch) (D : va_G) (ty : TY) (h0 : Nat) (r0 : Nat → Nat) (a1 : Nat → Nat) (z1 : Ob) (p1 : Int32) (p2 : Int32) (p3 : Int32) (o0 : Int32) (hf : f_X6_from z1 p1 p2 p3 = some o0) (sz : Nat) : CX l yX6_from wsX6_from rm_X6_from ([.ref h0, .int p1, .int p2, .int p3] : List Value) D ty (fl [oX6 h0 r0, oX1 ty (r0 1) a1 z1]) sz (qI D o0 (fl [oX6 h0 r0, oX1 ty (r0 1) a1 z1])) 0 0 := by
  refine CX_of (cc := cX6_from) (maxL := 4) (ret := (some .int)) (C := RX6) (by decide) rfl rfl (Nat.le_of_ble_eq_true rfl) ?_
  intro p e s m below meth c A ls F hr hlk _ hK hP hD hS hA hl
  have hx := F.1
  have hb := F.2.1
  replace hl : lv_has ls 4 [(0, .ref h0), (1, .int p1), (2, .int p2), (3, .int p3)] := hl
  unfold f_X6_from at hf
  refine lv_aload_n hx hb dX6_from_0 rfl (lv_at hl 0 rfl) ?_
  refine va_get (D := D) (ci := 6) (C := RX6) (T := TX6) (N := 8) hx hb F.2.2.2.2 in_X6_from_X6 F.2.2.2.1 hK.1 hP 0 rfl rfl 1 (Nat.le_of_ble_eq_true rfl) (F.2.2.2.2 (.fieldLink RX6 19 "LouderRoom" "now" "LLouderRoom$Crowd;") (List.mem_of_getElem? (i := 1) rfl)) (fun _ h9 => h9) rfl dX6_from_1 ?_
  refine lv_iload_n hx hb dX6_from_4 rfl (lv_at hl 1 rfl) ?_
  obtain ⟨v1, hv, hf⟩ := obd hf
  have hp1 : List.Perm [oX6 h0 r0, oX1 ty (r0 1) a1 z1] ([oX1 ty (r0 1) a1 z1] ++ [oX6 h0 r0]) := ((List.perm_middle (a := (oX1 ty (r0 1) a1 z1 : va_W)) (l₁ := ([oX6 h0 r0] : List va_W)) (l₂ := ([] : List va_W))) : List.Perm ([oX6 h0 r0, oX1 ty (r0 1) a1 z1] : List va_W) ([oX1 ty (r0 1) a1 z1, oX6 h0 r0] : List va_W))
  refine ci_call (out := v1) (os := [oX6 h0 r0, oX1 ty (r0 1) a1 z1]) (oc := [oX1 ty (r0 1) a1 z1]) (oc' := [oX1 ty (r0 1) a1 z1]) (or_ := [oX6 h0 r0]) (os' := [oX6 h0 r0, oX1 ty (r0 1) a1 z1]) (va_runV (As := [.int p1]) (rest := []) F (c_X1_has l D ty (r0 1) a1 _ _ _ hv _) (cwV 1 F.2.2.2.2 gX6_from_X1_has rfl rfl rfl ⟨rfl, hd_X1_has⟩ ⟨Nat.le_of_ble_eq_true rfl, Nat.le_of_ble_eq_true rfl⟩) (pre_v hK hP hD hp1 rfl rfl rfl) rfl rfl hl.1 rfl (lv_room (Nat.le_of_ble_eq_true rfl)) dX6_from_5 ⟨Nat.zero_le _, Nat.zero_le _⟩) hp1 ((List.perm_middle (a := (oX6 h0 r0 : va_W)) (l₁ := ([oX1 ty (r0 1) a1 z1] : List va_W)) (l₂ := ([] : List va_W))) : List.Perm ([oX1 ty (r0 1) a1 z1, oX6 h0 r0] : List va_W) ([oX6 h0 r0, oX1 ty (r0 1) a1 z1] : List va_W)) hP hD hS hA (fun H locs hP hD hS => ?_)
  clear hp1 hv
  refine lv_if_ne (tgt := 13) hx hb dX6_from_8 (by decide) (fun hc => ?_) (fun hc => ?_)
  · replace hf := ite_f hf hc
    refine lv_iload_n hx hb dX6_from_13 rfl (lv_at hl 2 rfl) ?_
    refine lv_iload_n hx hb dX6_from_14 rfl (lv_at hl 3 rfl) ?_
    obtain ⟨v2, hv, hf⟩ := obd hf
    have hp1 : List.Perm [oX6 h0 r0, oX1 ty (r0 1) a1 z1] ([] ++ [oX6 h0 r0, oX1 ty (r0 1) a1 z1]) := (List.Perm.refl _)
    refine ci_call (out := v2) (os := [oX6 h0 r0, oX1 ty (r0 1) a1 z1]) (oc := []) (oc' := []) (or_ := [oX6 h0 r0, oX1 ty (r0 1) a1 z1]) (os' := [oX6 h0 r0, oX1 ty (r0 1) a1 z1]) (va_runS (As := [.int p2, .int p3]) (rest := []) F (c_X6_isCell l D ty _ _ _ hv _) (va_cwS 2 F.2.2.2.2 gX6_from_X6_isCell rfl rfl rfl hd_X6_isCell ⟨Nat.le_of_ble_eq_true rfl, Nat.le_of_ble_eq_true rfl⟩) (pre_s hK hP hD hp1) rfl rfl hl.1 rfl (lv_room (Nat.le_of_ble_eq_true rfl)) dX6_from_15 ⟨Nat.zero_le _, Nat.zero_le _⟩) hp1 (List.Perm.refl _) hP hD hS hA (fun H locs hP hD hS => ?_)
    clear hp1 hv
    refine lv_if_ne (tgt := 24) hx hb dX6_from_18 (by decide) (fun hc => ?_) (fun hc => ?_)
    · replace hf := ite_f hf hc
      refine lv_aload_n hx hb dX6_from_24 rfl (lv_at hl 0 rfl) ?_
      refine va_get (D := D) (ci := 6) (C := RX6) (T := TX6) (N := 8) hx hb F.2.2.2.2 in_X6_from_X6 F.2.2.2.1 hK.1 hP 0 rfl rfl 1 (Nat.le_of_ble_eq_true rfl) (F.2.2.2.2 (.fieldLink RX6 19 "LouderRoom" "now" "LLouderRoom$Crowd;") (List.mem_of_getElem? (i := 1) rfl)) (fun _ h9 => h9) rfl dX6_from_25 ?_
      refine lv_iload_n hx hb dX6_from_28 rfl (lv_at hl 1 rfl) ?_
      refine lv_bipush (v := (10 : Int32)) hx hb dX6_from_29 (by decide) ?_
      refine lv_iload_n hx hb dX6_from_31 rfl (lv_at hl 3 rfl) ?_
      refine lv_imul hx hb dX6_from_32 ?_
      refine lv_iload_n hx hb dX6_from_33 rfl (lv_at hl 2 rfl) ?_
      refine lv_iadd hx hb dX6_from_34 ?_
      obtain ⟨v3, hv, hf⟩ := obd hf
      have hp1 : List.Perm [oX6 h0 r0, oX1 ty (r0 1) a1 z1] ([oX1 ty (r0 1) a1 z1] ++ [oX6 h0 r0]) := ((List.perm_middle (a := (oX1 ty (r0 1) a1 z1 : va_W)) (l₁ := ([oX6 h0 r0] : List va_W)) (l₂ := ([] : List va_W))) : List.Perm ([oX6 h0 r0, oX1 ty (r0 1) a1 z1] : List va_W) ([oX1 ty (r0 1) a1 z1, oX6 h0 r0] : List va_W))
      refine ci_call (out := v3) (os := [oX6 h0 r0, oX1 ty (r0 1) a1 z1]) (oc := [oX1 ty (r0 1) a1 z1]) (oc' := [oX1 ty (r0 1) a1 z1]) (or_ := [oX6 h0 r0]) (os' := [oX6 h0 r0, oX1 ty (r0 1) a1 z1]) (va_runV (As := [.int p1, .int (((10 : Int32) * p3) + p2)]) (rest := []) F (c_X1_fromRing l D ty (r0 1) a1 _ _ _ _ hv _) (cwV 2 F.2.2.2.2 gX6_from_X1_fromRing rfl rfl rfl ⟨rfl, hd_X1_fromRing⟩ ⟨Nat.le_of_ble_eq_true rfl, Nat.le_of_ble_eq_true rfl⟩) (pre_v hK hP hD hp1 rfl rfl rfl) rfl rfl hl.1 rfl (lv_room (Nat.le_of_ble_eq_true rfl)) dX6_from_35 ⟨Nat.zero_le _, Nat.zero_le _⟩) hp1 ((List.perm_middle (a := (oX6 h0 r0 : va_W)) (l₁ := ([oX1 ty (r0 1) a1 z1] : List va_W)) (l₂ := ([] : List va_W))) : List.Perm ([oX1 ty (r0 1) a1 z1, oX6 h0 r0] : List va_W) ([oX6 h0 r0, oX1 ty (r0 1) a1 z1] : List va_W)) hP hD hS hA (fun H locs hP hD hS => ?_)
      clear hp1 hv
      obtain hf := hf
      have e0 := Option.some.inj hf
      exact CX_i F hr hlk hP hD hS e0 dX6_from_38
    · replace hf := ite_t hf hc
      refine lv_bipush (v := (-2 : Int32)) hx hb dX6_from_21 (by decide) ?_
      obtain hf := hf
      have e0 := Option.some.inj hf
      exact CX_i F hr hlk hP hD hS e0 dX6_from_23
  · replace hf := ite_t hf hc
    refine lv_iconst (v := (-1 : Int32)) hx hb dX6_from_11 (by decide) ?_
    obtain hf := hf
    have e0 := Option.some.inj hf
    exact CX_i F hr hlk hP hD hS e0 dX6_from_12
def f_X6_voice (z1 : Ob) (p1 : Int32) (p2 : Int32) : Option (Int32 × Ob) := (f_X1_has z1 p1).bind (fun v1 => (if v1 = 0 then some ((-1 : Int32), z1) else (if p2 < (1 : Int32) then some ((-2 : Int32), z1) else (if p2 ≤ (9 : Int32) then (if inb p1 8 = true then bnd (z1.2 3 p1.toNatClampNeg) (fun x2 => (if inb p1 8 = true then bnd (sA z1 3 (upd (z1.2 3) p1.toNatClampNeg p2)) (fun g3 => some (x2, g3)) else none)) else none) else some ((-2 : Int32), z1)))))
abbrev rm_X6_voice : Room := { frames := 1, cells := 0, slots := 0, locals := 21 }
theorem hd_X6_voice : yX6_voice.cls ≠ "java/lang/invoke/MethodHandle" ∧ yX6_voice.cls ≠ "java/lang/invoke/VarHandle" ∧ (parseMethodDescriptor yX6_voice.desc).map (fun d => d.parameters.length) = some 2 := by decide +kernel
theorem in_X6_voice_X6 : ∀ w ∈ wsX60, w ∈ wsX6_voice := fun w h => List.mem_cons_of_mem _ (List.mem_append_left _ (List.mem_append_right _ h))
theorem in_X6_voice_X1 : ∀ w ∈ wsX10, w ∈ wsX6_voice := fun w h => List.mem_cons_of_mem _ (List.mem_append_right _ h)
set_option maxHeartbeats 4000000 in
set_option maxRecDepth 100000 in
theorem c_X6_voice (l : Launch) (D : va_G) (ty : TY) (h0 : Nat) (r0 : Nat → Nat) (a1 : Nat → Nat) (z1 : Ob) (p1 : Int32) (p2 : Int32) (o0 : Int32) (o1 : Ob) (hf : f_X6_voice z1 p1 p2 = some (o0, o1)) (sz : Nat) : CX l yX6_voice wsX6_voice rm_X6_voice ([.ref h0, .int p1, .int p2] : List Value) D ty (fl [oX6 h0 r0, oX1 ty (r0 1) a1 z1]) sz (qI D o0 (fl [oX6 h0 r0, oX1 ty (r0 1) a1 o1])) 0 0 := by
  refine CX_of (cc := cX6_voice) (maxL := 4) (ret := (some .int)) (C := RX6) (by decide) rfl rfl (Nat.le_of_ble_eq_true rfl) ?_
  intro p e s m below meth c A ls F hr hlk _ hK hP hD hS hA hl
  have hx := F.1
  have hb := F.2.1
  replace hl : lv_has ls 4 [(0, .ref h0), (1, .int p1), (2, .int p2)] := hl
  unfold f_X6_voice at hf
  refine lv_aload_n hx hb dX6_voice_0 rfl (lv_at hl 0 rfl) ?_
  refine va_get (D := D) (ci := 6) (C := RX6) (T := TX6) (N := 8) hx hb F.2.2.2.2 in_X6_voice_X6 F.2.2.2.1 hK.1 hP 0 rfl rfl 1 (Nat.le_of_ble_eq_true rfl) (F.2.2.2.2 (.fieldLink RX6 19 "LouderRoom" "now" "LLouderRoom$Crowd;") (List.mem_of_getElem? (i := 1) rfl)) (fun _ h9 => h9) rfl dX6_voice_1 ?_
  refine lv_iload_n hx hb dX6_voice_4 rfl (lv_at hl 1 rfl) ?_
  obtain ⟨v1, hv, hf⟩ := obd hf
  have hp1 : List.Perm [oX6 h0 r0, oX1 ty (r0 1) a1 z1] ([oX1 ty (r0 1) a1 z1] ++ [oX6 h0 r0]) := ((List.perm_middle (a := (oX1 ty (r0 1) a1 z1 : va_W)) (l₁ := ([oX6 h0 r0] : List va_W)) (l₂ := ([] : List va_W))) : List.Perm ([oX6 h0 r0, oX1 ty (r0 1) a1 z1] : List va_W) ([oX1 ty (r0 1) a1 z1, oX6 h0 r0] : List va_W))
  refine ci_call (out := v1) (os := [oX6 h0 r0, oX1 ty (r0 1) a1 z1]) (oc := [oX1 ty (r0 1) a1 z1]) (oc' := [oX1 ty (r0 1) a1 z1]) (or_ := [oX6 h0 r0]) (os' := [oX6 h0 r0, oX1 ty (r0 1) a1 z1]) (va_runV (As := [.int p1]) (rest := []) F (c_X1_has l D ty (r0 1) a1 _ _ _ hv _) (cwV 1 F.2.2.2.2 gX6_voice_X1_has rfl rfl rfl ⟨rfl, hd_X1_has⟩ ⟨Nat.le_of_ble_eq_true rfl, Nat.le_of_ble_eq_true rfl⟩) (pre_v hK hP hD hp1 rfl rfl rfl) rfl rfl hl.1 rfl (lv_room (Nat.le_of_ble_eq_true rfl)) dX6_voice_5 ⟨Nat.zero_le _, Nat.zero_le _⟩) hp1 ((List.perm_middle (a := (oX6 h0 r0 : va_W)) (l₁ := ([oX1 ty (r0 1) a1 z1] : List va_W)) (l₂ := ([] : List va_W))) : List.Perm ([oX1 ty (r0 1) a1 z1, oX6 h0 r0] : List va_W) ([oX6 h0 r0, oX1 ty (r0 1) a1 z1] : List va_W)) hP hD hS hA (fun H locs hP hD hS => ?_)
  clear hp1 hv
  refine lv_if_ne (tgt := 13) hx hb dX6_voice_8 (by decide) (fun hc => ?_) (fun hc => ?_)
  · replace hf := ite_f hf hc
    refine lv_iload_n hx hb dX6_voice_13 rfl (lv_at hl 2 rfl) ?_
    refine lv_iconst (v := (1 : Int32)) hx hb dX6_voice_14 (by decide) ?_
    refine lv_icmp_lt (tgt := 24) hx hb dX6_voice_15 (by decide) (fun hc => ?_) (fun hc => ?_)
    · replace hf := ite_t hf hc
      refine lv_bipush (v := (-2 : Int32)) hx hb dX6_voice_24 (by decide) ?_
      obtain hf := hf
      obtain ⟨e0, e1⟩ := tup2 hf
      rw [e1] at hP hD
      exact CX_i F hr hlk hP hD hS e0 dX6_voice_26
    · replace hf := ite_f hf hc
      refine lv_iload_n hx hb dX6_voice_18 rfl (lv_at hl 2 rfl) ?_
      refine lv_bipush (v := (9 : Int32)) hx hb dX6_voice_19 (by decide) ?_
      refine lv_icmp_le (tgt := 27) hx hb dX6_voice_21 (by decide) (fun hc => ?_) (fun hc => ?_)
      · replace hf := ite_t hf hc
        refine lv_aload_n hx hb dX6_voice_27 rfl (lv_at hl 0 rfl) ?_
        refine va_get (D := D) (ci := 6) (C := RX6) (T := TX6) (N := 8) hx hb F.2.2.2.2 in_X6_voice_X6 F.2.2.2.1 hK.1 hP 0 rfl rfl 1 (Nat.le_of_ble_eq_true rfl) (F.2.2.2.2 (.fieldLink RX6 19 "LouderRoom" "now" "LLouderRoom$Crowd;") (List.mem_of_getElem? (i := 1) rfl)) (fun _ h9 => h9) rfl dX6_voice_28 ?_
        refine va_getN (D := D) (ci := 1) (C := RX1) (T := TX1) (N := 12) hx hb F.2.2.2.2 in_X6_voice_X1 F.2.2.2.1 hK.1 hP 1 rfl rfl 3 (Nat.le_of_ble_eq_true rfl) (KN.use hK 6 (w := .fieldLinkNest RX6 123 "LouderRoom$Crowd" "voice" "[I" "LouderRoom") rfl _) (fun _ h9 => h9) rfl dX6_voice_31 ?_
        refine lv_iload_n hx hb dX6_voice_34 rfl (lv_at hl 1 rfl) ?_
        obtain ⟨hi, hf⟩ := grd hf
        refine va_iald hx hb hK.1 hP 5 0 rfl rfl (inb_in hi) dX6_voice_35 ?_
        refine lv_topi (fun x2 ex => ?_)
        replace hf := bnd_at hf ex; clear ex
        refine lv_istore_n (lv' := [(3, .int x2), (0, .ref h0), (1, .int p1), (2, .int p2)]) hx hb dX6_voice_36 rfl hl (by decide) rfl (fun ls hl => ?_)
        refine lv_aload_n hx hb dX6_voice_37 rfl (lv_at hl 1 rfl) ?_
        refine va_get (D := D) (ci := 6) (C := RX6) (T := TX6) (N := 8) hx hb F.2.2.2.2 in_X6_voice_X6 F.2.2.2.1 hK.1 hP 0 rfl rfl 1 (Nat.le_of_ble_eq_true rfl) (F.2.2.2.2 (.fieldLink RX6 19 "LouderRoom" "now" "LLouderRoom$Crowd;") (List.mem_of_getElem? (i := 1) rfl)) (fun _ h9 => h9) rfl dX6_voice_38 ?_
        refine va_getN (D := D) (ci := 1) (C := RX1) (T := TX1) (N := 12) hx hb F.2.2.2.2 in_X6_voice_X1 F.2.2.2.1 hK.1 hP 1 rfl rfl 3 (Nat.le_of_ble_eq_true rfl) (KN.use hK 6 (w := .fieldLinkNest RX6 123 "LouderRoom$Crowd" "voice" "[I" "LouderRoom") rfl _) (fun _ h9 => h9) rfl dX6_voice_41 ?_
        refine lv_iload_n hx hb dX6_voice_44 rfl (lv_at hl 2 rfl) ?_
        refine lv_iload_n hx hb dX6_voice_45 rfl (lv_at hl 3 rfl) ?_
        obtain ⟨hi, hf⟩ := grd hf
        refine pt_iast (w1 := fl [oX6 h0 r0, oX1 ty (r0 1) a1 (sA z1 3 (upd (z1.2 3) p1.toNatClampNeg p2))]) F hK.1 hP hD hS 5 0 rfl rfl (inb_in hi) rfl dX6_voice_46 (fun H locs hP hD hS => ?_)
        obtain ⟨g3, ex⟩ : ∃ y : Ob, y = (sA z1 3 (upd (z1.2 3) p1.toNatClampNeg p2)) := ⟨_, rfl⟩
        replace hf := bnd_at hf ex; rw [← ex] at hP hD; clear ex
        refine lv_iload_n hx hb dX6_voice_47 rfl (lv_at hl 0 rfl) ?_
        obtain hf := hf
        obtain ⟨e0, e1⟩ := tup2 hf
        rw [e1] at hP hD
        exact CX_i F hr hlk hP hD hS e0 dX6_voice_48
      · replace hf := ite_f hf hc
        refine lv_bipush (v := (-2 : Int32)) hx hb dX6_voice_24 (by decide) ?_
        obtain hf := hf
        obtain ⟨e0, e1⟩ := tup2 hf
        rw [e1] at hP hD
        exact CX_i F hr hlk hP hD hS e0 dX6_voice_26
  · replace hf := ite_t hf hc
    refine lv_iconst (v := (-1 : Int32)) hx hb dX6_voice_11 (by decide) ?_
    obtain hf := hf
    obtain ⟨e0, e1⟩ := tup2 hf
    rw [e1] at hP hD
    exact CX_i F hr hlk hP hD hS e0 dX6_voice_12
def f_X6_music (z1 : Ob) (p1 : Int32) (p2 : Int32) : Option (Int32 × Ob) := (if p1 < 0 then some ((-2 : Int32), z1) else (if p1 ≤ (9 : Int32) then bnd (z1.1 8) (fun x1 => bnd (sI z1 8 p1) (fun g2 => (if isb p2 = true then bnd (sI g2 10 p2) (fun g3 => some (x1, g3)) else none))) else some ((-2 : Int32), z1)))
abbrev rm_X6_music : Room := { frames := 0, cells := 0, slots := 0, locals := 0 }
theorem hd_X6_music : yX6_music.cls ≠ "java/lang/invoke/MethodHandle" ∧ yX6_music.cls ≠ "java/lang/invoke/VarHandle" ∧ (parseMethodDescriptor yX6_music.desc).map (fun d => d.parameters.length) = some 2 := by decide +kernel
theorem in_X6_music_X6 : ∀ w ∈ wsX60, w ∈ wsX6_music := fun w h => List.mem_cons_of_mem _ (List.mem_append_left _ (List.mem_append_right _ h))
theorem in_X6_music_X1 : ∀ w ∈ wsX10, w ∈ wsX6_music := fun w h => List.mem_cons_of_mem _ (List.mem_append_right _ h)
set_option maxHeartbeats 4000000 in
set_option maxRecDepth 100000 in
theorem c_X6_music (l : Launch) (D : va_G) (ty : TY) (h0 : Nat) (r0 : Nat → Nat) (a1 : Nat → Nat) (z1 : Ob) (p1 : Int32) (p2 : Int32) (o0 : Int32) (o1 : Ob) (hf : f_X6_music z1 p1 p2 = some (o0, o1)) (sz : Nat) : CX l yX6_music wsX6_music rm_X6_music ([.ref h0, .int p1, .int p2] : List Value) D ty (fl [oX6 h0 r0, oX1 ty (r0 1) a1 z1]) sz (qI D o0 (fl [oX6 h0 r0, oX1 ty (r0 1) a1 o1])) 0 0 := by
  refine CX_of (cc := cX6_music) (maxL := 4) (ret := (some .int)) (C := RX6) (by decide) rfl rfl (Nat.le_of_ble_eq_true rfl) ?_
  intro p e s m below meth c A ls F hr hlk _ hK hP hD hS hA hl
  have hx := F.1
  have hb := F.2.1
  replace hl : lv_has ls 4 [(0, .ref h0), (1, .int p1), (2, .int p2)] := hl
  unfold f_X6_music at hf
  refine lv_iload_n hx hb dX6_music_0 rfl (lv_at hl 1 rfl) ?_
  refine lv_if_lt (tgt := 10) hx hb dX6_music_1 (by decide) (fun hc => ?_) (fun hc => ?_)
  · replace hf := ite_t hf hc
    refine lv_bipush (v := (-2 : Int32)) hx hb dX6_music_10 (by decide) ?_
    obtain hf := hf
    obtain ⟨e0, e1⟩ := tup2 hf
    rw [e1] at hP hD
    exact CX_i F hr hlk hP hD hS e0 dX6_music_12
  · replace hf := ite_f hf hc
    refine lv_iload_n hx hb dX6_music_4 rfl (lv_at hl 1 rfl) ?_
    refine lv_bipush (v := (9 : Int32)) hx hb dX6_music_5 (by decide) ?_
    refine lv_icmp_le (tgt := 13) hx hb dX6_music_7 (by decide) (fun hc => ?_) (fun hc => ?_)
    · replace hf := ite_t hf hc
      refine lv_aload_n hx hb dX6_music_13 rfl (lv_at hl 0 rfl) ?_
      refine va_get (D := D) (ci := 6) (C := RX6) (T := TX6) (N := 8) hx hb F.2.2.2.2 in_X6_music_X6 F.2.2.2.1 hK.1 hP 0 rfl rfl 1 (Nat.le_of_ble_eq_true rfl) (F.2.2.2.2 (.fieldLink RX6 19 "LouderRoom" "now" "LLouderRoom$Crowd;") (List.mem_of_getElem? (i := 1) rfl)) (fun _ h9 => h9) rfl dX6_music_14 ?_
      refine va_getN (D := D) (ci := 1) (C := RX1) (T := TX1) (N := 12) hx hb F.2.2.2.2 in_X6_music_X1 F.2.2.2.1 hK.1 hP 1 rfl rfl 8 (Nat.le_of_ble_eq_true rfl) (KN.use hK 13 (w := .fieldLinkNest RX6 89 "LouderRoom$Crowd" "music" "I" "LouderRoom") rfl _) (fun _ h9 => h9) rfl dX6_music_17 ?_
      refine lv_topi (fun x1 ex => ?_)
      replace hf := bnd_at hf ex; clear ex
      refine lv_istore_n (lv' := [(3, .int x1), (0, .ref h0), (1, .int p1), (2, .int p2)]) hx hb dX6_music_20 rfl hl (by decide) rfl (fun ls hl => ?_)
      refine lv_aload_n hx hb dX6_music_21 rfl (lv_at hl 1 rfl) ?_
      refine va_get (D := D) (ci := 6) (C := RX6) (T := TX6) (N := 8) hx hb F.2.2.2.2 in_X6_music_X6 F.2.2.2.1 hK.1 hP 0 rfl rfl 1 (Nat.le_of_ble_eq_true rfl) (F.2.2.2.2 (.fieldLink RX6 19 "LouderRoom" "now" "LLouderRoom$Crowd;") (List.mem_of_getElem? (i := 1) rfl)) (fun _ h9 => h9) rfl dX6_music_22 ?_
      refine lv_iload_n hx hb dX6_music_25 rfl (lv_at hl 2 rfl) ?_
      refine pt_putN (D := D) (ci := 1) (fty := .int) (C := RX1) (T := TX1) (N := 12) (w1 := fl [oX6 h0 r0, oX1 ty (r0 1) a1 (sI z1 8 p1)]) F in_X6_music_X1 tyX1 tyX1_ok nmX1 hK.1 hP hD hS 1 rfl rfl 8 (Nat.le_of_ble_eq_true rfl) (KN.use hK 13 (w := .fieldLinkNest RX6 89 "LouderRoom$Crowd" "music" "I" "LouderRoom") rfl _) (fun _ h9 => h9) rfl (by decide +kernel) rfl rfl (Nat.le_of_ble_eq_true rfl) rfl dX6_music_26 (fun H locs hP hD hS => ?_)
      obtain ⟨g2, ex⟩ : ∃ y : Ob, y = (sI z1 8 p1) := ⟨_, rfl⟩
      replace hf := bnd_at hf ex; rw [← ex] at hP hD; clear ex
      refine lv_aload_n hx hb dX6_music_29 rfl (lv_at hl 1 rfl) ?_
      refine va_get (D := D) (ci := 6) (C := RX6) (T := TX6) (N := 8) hx hb F.2.2.2.2 in_X6_music_X6 F.2.2.2.1 hK.1 hP 0 rfl rfl 1 (Nat.le_of_ble_eq_true rfl) (F.2.2.2.2 (.fieldLink RX6 19 "LouderRoom" "now" "LLouderRoom$Crowd;") (List.mem_of_getElem? (i := 1) rfl)) (fun _ h9 => h9) rfl dX6_music_30 ?_
      refine lv_iload_n hx hb dX6_music_33 rfl (lv_at hl 3 rfl) ?_
      obtain ⟨hz, hf⟩ := grd hf
      refine pt_putN (D := D) (ci := 1) (fty := .boolean) (C := RX1) (T := TX1) (N := 12) (w1 := fl [oX6 h0 r0, oX1 ty (r0 1) a1 (sI g2 10 p2)]) F in_X6_music_X1 tyX1 tyX1_ok nmX1 hK.1 hP hD hS 1 rfl rfl 10 (Nat.le_of_ble_eq_true rfl) (KN.use hK 14 (w := .fieldLinkNest RX6 156 "LouderRoom$Crowd" "follows" "Z" "LouderRoom") rfl _) (fun _ h9 => h9) rfl (by decide +kernel) (isb_n hz) (isb_f hz) (Nat.le_of_ble_eq_true rfl) rfl dX6_music_34 (fun H locs hP hD hS => ?_)
      obtain ⟨g3, ex⟩ : ∃ y : Ob, y = (sI g2 10 p2) := ⟨_, rfl⟩
      replace hf := bnd_at hf ex; rw [← ex] at hP hD; clear ex
      refine lv_iload_n hx hb dX6_music_37 rfl (lv_at hl 0 rfl) ?_
      obtain hf := hf
      obtain ⟨e0, e1⟩ := tup2 hf
      rw [e1] at hP hD
      exact CX_i F hr hlk hP hD hS e0 dX6_music_38
    · replace hf := ite_f hf hc
      refine lv_bipush (v := (-2 : Int32)) hx hb dX6_music_10 (by decide) ?_
      obtain hf := hf
      obtain ⟨e0, e1⟩ := tup2 hf
      rw [e1] at hP hD
      exact CX_i F hr hlk hP hD hS e0 dX6_music_12
def f_X6_eats (z1 : Ob) (p1 : Int32) : Option (Int32 × Ob) := (if p1 < 0 then some ((-2 : Int32), z1) else (if p1 ≤ (9 : Int32) then bnd (z1.1 7) (fun x1 => bnd (sI z1 7 p1) (fun g2 => some (x1, g2))) else some ((-2 : Int32), z1)))
abbrev rm_X6_eats : Room := { frames := 0, cells := 0, slots := 0, locals := 0 }
theorem hd_X6_eats : yX6_eats.cls ≠ "java/lang/invoke/MethodHandle" ∧ yX6_eats.cls ≠ "java/lang/invoke/VarHandle" ∧ (parseMethodDescriptor yX6_eats.desc).map (fun d => d.parameters.length) = some 1 := by decide +kernel
theorem in_X6_eats_X6 : ∀ w ∈ wsX60, w ∈ wsX6_eats := fun w h => List.mem_cons_of_mem _ (List.mem_append_left _ (List.mem_append_right _ h))
theorem in_X6_eats_X1 : ∀ w ∈ wsX10, w ∈ wsX6_eats := fun w h => List.mem_cons_of_mem _ (List.mem_append_right _ h)
set_option maxHeartbeats 4000000 in
set_option maxRecDepth 100000 in
theorem c_X6_eats (l : Launch) (D : va_G) (ty : TY) (h0 : Nat) (r0 : Nat → Nat) (a1 : Nat → Nat) (z1 : Ob) (p1 : Int32) (o0 : Int32) (o1 : Ob) (hf : f_X6_eats z1 p1 = some (o0, o1)) (sz : Nat) : CX l yX6_eats wsX6_eats rm_X6_eats ([.ref h0, .int p1] : List Value) D ty (fl [oX6 h0 r0, oX1 ty (r0 1) a1 z1]) sz (qI D o0 (fl [oX6 h0 r0, oX1 ty (r0 1) a1 o1])) 0 0 := by
  refine CX_of (cc := cX6_eats) (maxL := 3) (ret := (some .int)) (C := RX6) (by decide) rfl rfl (Nat.le_of_ble_eq_true rfl) ?_
  intro p e s m below meth c A ls F hr hlk _ hK hP hD hS hA hl
  have hx := F.1
  have hb := F.2.1
  replace hl : lv_has ls 3 [(0, .ref h0), (1, .int p1)] := hl
  unfold f_X6_eats at hf
  refine lv_iload_n hx hb dX6_eats_0 rfl (lv_at hl 1 rfl) ?_
  refine lv_if_lt (tgt := 10) hx hb dX6_eats_1 (by decide) (fun hc => ?_) (fun hc => ?_)
  · replace hf := ite_t hf hc
    refine lv_bipush (v := (-2 : Int32)) hx hb dX6_eats_10 (by decide) ?_
    obtain hf := hf
    obtain ⟨e0, e1⟩ := tup2 hf
    rw [e1] at hP hD
    exact CX_i F hr hlk hP hD hS e0 dX6_eats_12
  · replace hf := ite_f hf hc
    refine lv_iload_n hx hb dX6_eats_4 rfl (lv_at hl 1 rfl) ?_
    refine lv_bipush (v := (9 : Int32)) hx hb dX6_eats_5 (by decide) ?_
    refine lv_icmp_le (tgt := 13) hx hb dX6_eats_7 (by decide) (fun hc => ?_) (fun hc => ?_)
    · replace hf := ite_t hf hc
      refine lv_aload_n hx hb dX6_eats_13 rfl (lv_at hl 0 rfl) ?_
      refine va_get (D := D) (ci := 6) (C := RX6) (T := TX6) (N := 8) hx hb F.2.2.2.2 in_X6_eats_X6 F.2.2.2.1 hK.1 hP 0 rfl rfl 1 (Nat.le_of_ble_eq_true rfl) (F.2.2.2.2 (.fieldLink RX6 19 "LouderRoom" "now" "LLouderRoom$Crowd;") (List.mem_of_getElem? (i := 1) rfl)) (fun _ h9 => h9) rfl dX6_eats_14 ?_
      refine va_getN (D := D) (ci := 1) (C := RX1) (T := TX1) (N := 12) hx hb F.2.2.2.2 in_X6_eats_X1 F.2.2.2.1 hK.1 hP 1 rfl rfl 7 (Nat.le_of_ble_eq_true rfl) (KN.use hK 11 (w := .fieldLinkNest RX6 86 "LouderRoom$Crowd" "eats" "I" "LouderRoom") rfl _) (fun _ h9 => h9) rfl dX6_eats_17 ?_
      refine lv_topi (fun x1 ex => ?_)
      replace hf := bnd_at hf ex; clear ex
      refine lv_istore_n (lv' := [(2, .int x1), (0, .ref h0), (1, .int p1)]) hx hb dX6_eats_20 rfl hl (by decide) rfl (fun ls hl => ?_)
      refine lv_aload_n hx hb dX6_eats_21 rfl (lv_at hl 1 rfl) ?_
      refine va_get (D := D) (ci := 6) (C := RX6) (T := TX6) (N := 8) hx hb F.2.2.2.2 in_X6_eats_X6 F.2.2.2.1 hK.1 hP 0 rfl rfl 1 (Nat.le_of_ble_eq_true rfl) (F.2.2.2.2 (.fieldLink RX6 19 "LouderRoom" "now" "LLouderRoom$Crowd;") (List.mem_of_getElem? (i := 1) rfl)) (fun _ h9 => h9) rfl dX6_eats_22 ?_
      refine lv_iload_n hx hb dX6_eats_25 rfl (lv_at hl 2 rfl) ?_
      refine pt_putN (D := D) (ci := 1) (fty := .int) (C := RX1) (T := TX1) (N := 12) (w1 := fl [oX6 h0 r0, oX1 ty (r0 1) a1 (sI z1 7 p1)]) F in_X6_eats_X1 tyX1 tyX1_ok nmX1 hK.1 hP hD hS 1 rfl rfl 7 (Nat.le_of_ble_eq_true rfl) (KN.use hK 11 (w := .fieldLinkNest RX6 86 "LouderRoom$Crowd" "eats" "I" "LouderRoom") rfl _) (fun _ h9 => h9) rfl (by decide +kernel) rfl rfl (Nat.le_of_ble_eq_true rfl) rfl dX6_eats_26 (fun H locs hP hD hS => ?_)
      obtain ⟨g2, ex⟩ : ∃ y : Ob, y = (sI z1 7 p1) := ⟨_, rfl⟩
      replace hf := bnd_at hf ex; rw [← ex] at hP hD; clear ex
      refine lv_iload_n hx hb dX6_eats_29 rfl (lv_at hl 0 rfl) ?_
      obtain hf := hf
      obtain ⟨e0, e1⟩ := tup2 hf
      rw [e1] at hP hD
      exact CX_i F hr hlk hP hD hS e0 dX6_eats_30
    · replace hf := ite_f hf hc
      refine lv_bipush (v := (-2 : Int32)) hx hb dX6_eats_10 (by decide) ?_
      obtain hf := hf
      obtain ⟨e0, e1⟩ := tup2 hf
      rw [e1] at hP hD
      exact CX_i F hr hlk hP hD hS e0 dX6_eats_12
def f_X6_minute (z1 : Ob) (z5 : AS) : Option (Int32 × Ob × AS) := (f_X0_add z5 z1).bind (fun g1 => (f_X1_look z1).bind (fun g2 => (f_X1_changing g2).bind (fun v3 => (f_X1_take g2).bind (fun g4 => some (v3, g4, g1)))))
abbrev rm_X6_minute : Room := { frames := 4, cells := 0, slots := 0, locals := 91 }
theorem hd_X6_minute : yX6_minute.cls ≠ "java/lang/invoke/MethodHandle" ∧ yX6_minute.cls ≠ "java/lang/invoke/VarHandle" ∧ (parseMethodDescriptor yX6_minute.desc).map (fun d => d.parameters.length) = some 0 := by decide +kernel
theorem in_X6_minute_X6 : ∀ w ∈ wsX60, w ∈ wsX6_minute := fun w h => List.mem_cons_of_mem _ (List.mem_append_left _ (List.mem_append_left _ (List.mem_append_right _ h)))
set_option maxHeartbeats 4000000 in
set_option maxRecDepth 100000 in
theorem c_X6_minute (l : Launch) (D : va_G) (ty : TY) (h0 : Nat) (r0 : Nat → Nat) (a1 : Nat → Nat) (aa5 : Nat) (z1 : Ob) (z5 : AS) (o0 : Int32) (o1 : Ob) (o2 : AS) (hf : f_X6_minute z1 z5 = some (o0, o1, o2)) (sz : Nat) : CX l yX6_minute wsX6_minute rm_X6_minute ([.ref h0] : List Value) D ty (fl [oX6 h0 r0, oX1 ty (r0 1) a1 z1, oX0 ty (r0 5) aa5 z5]) sz (qI D o0 (fl [oX6 h0 r0, oX1 ty (r0 1) a1 o1, oX0 ty (r0 5) aa5 o2])) 0 0 := by
  refine CX_of (cc := cX6_minute) (maxL := 2) (ret := (some .int)) (C := RX6) (by decide) rfl rfl (Nat.le_of_ble_eq_true rfl) ?_
  intro p e s m below meth c A ls F hr hlk _ hK hP hD hS hA hl
  have hx := F.1
  have hb := F.2.1
  replace hl : lv_has ls 2 [(0, .ref h0)] := hl
  unfold f_X6_minute at hf
  refine lv_aload_n hx hb dX6_minute_0 rfl (lv_at hl 0 rfl) ?_
  refine va_get (D := D) (ci := 6) (C := RX6) (T := TX6) (N := 8) hx hb F.2.2.2.2 in_X6_minute_X6 F.2.2.2.1 hK.1 hP 0 rfl rfl 5 (Nat.le_of_ble_eq_true rfl) (F.2.2.2.2 (.fieldLink RX6 39 "LouderRoom" "acts" "LLouderRoom$Acts;") (List.mem_of_getElem? (i := 1) rfl)) (fun _ h9 => h9) rfl dX6_minute_1 ?_
  refine lv_aload_n hx hb dX6_minute_4 rfl (lv_at hl 0 rfl) ?_
  refine va_get (D := D) (ci := 6) (C := RX6) (T := TX6) (N := 8) hx hb F.2.2.2.2 in_X6_minute_X6 F.2.2.2.1 hK.1 hP 0 rfl rfl 1 (Nat.le_of_ble_eq_true rfl) (F.2.2.2.2 (.fieldLink RX6 19 "LouderRoom" "now" "LLouderRoom$Crowd;") (List.mem_of_getElem? (i := 2) rfl)) (fun _ h9 => h9) rfl dX6_minute_5 ?_
  obtain ⟨g1, hv, hf⟩ := obd hf
  have hp1 : List.Perm [oX6 h0 r0, oX1 ty (r0 1) a1 z1, oX0 ty (r0 5) aa5 z5] ([oX0 ty (r0 5) aa5 z5, oX1 ty (r0 1) a1 z1] ++ [oX6 h0 r0]) := (((List.perm_middle (a := (oX0 ty (r0 5) aa5 z5 : va_W)) (l₁ := ([oX6 h0 r0, oX1 ty (r0 1) a1 z1] : List va_W)) (l₂ := ([] : List va_W))).trans (List.Perm.cons _ (List.perm_middle (a := (oX1 ty (r0 1) a1 z1 : va_W)) (l₁ := ([oX6 h0 r0] : List va_W)) (l₂ := ([] : List va_W))))) : List.Perm ([oX6 h0 r0, oX1 ty (r0 1) a1 z1, oX0 ty (r0 5) aa5 z5] : List va_W) ([oX0 ty (r0 5) aa5 z5, oX1 ty (r0 1) a1 z1, oX6 h0 r0] : List va_W))
  refine cv_call (os := [oX6 h0 r0, oX1 ty (r0 1) a1 z1, oX0 ty (r0 5) aa5 z5]) (oc := [oX0 ty (r0 5) aa5 z5, oX1 ty (r0 1) a1 z1]) (oc' := [oX0 ty (r0 5) aa5 g1, oX1 ty (r0 1) a1 z1]) (or_ := [oX6 h0 r0]) (os' := [oX6 h0 r0, oX1 ty (r0 1) a1 z1, oX0 ty (r0 5) aa5 g1]) (va_runV (As := [.ref (r0 1)]) (rest := []) F (c_X0_add l D ty (r0 5) aa5 (r0 1) a1 _ _ _ hv _) (cwV 1 F.2.2.2.2 gX6_minute_X0_add rfl rfl rfl ⟨rfl, hd_X0_add⟩ ⟨Nat.le_of_ble_eq_true rfl, Nat.le_of_ble_eq_true rfl⟩) (pre_v hK hP hD hp1 rfl rfl rfl) rfl rfl hl.1 rfl (lv_room (Nat.le_of_ble_eq_true rfl)) dX6_minute_8 ⟨Nat.zero_le _, Nat.zero_le _⟩) hp1 (((List.perm_middle (a := (oX6 h0 r0 : va_W)) (l₁ := ([oX0 ty (r0 5) aa5 g1, oX1 ty (r0 1) a1 z1] : List va_W)) (l₂ := ([] : List va_W))).trans (List.Perm.cons _ (List.perm_middle (a := (oX1 ty (r0 1) a1 z1 : va_W)) (l₁ := ([oX0 ty (r0 5) aa5 g1] : List va_W)) (l₂ := ([] : List va_W))))) : List.Perm ([oX0 ty (r0 5) aa5 g1, oX1 ty (r0 1) a1 z1, oX6 h0 r0] : List va_W) ([oX6 h0 r0, oX1 ty (r0 1) a1 z1, oX0 ty (r0 5) aa5 g1] : List va_W)) hP hD hS hA (fun H locs hP hD hS => ?_)
  clear hp1 hv
  refine lv_aload_n hx hb dX6_minute_11 rfl (lv_at hl 0 rfl) ?_
  refine va_get (D := D) (ci := 6) (C := RX6) (T := TX6) (N := 8) hx hb F.2.2.2.2 in_X6_minute_X6 F.2.2.2.1 hK.1 hP 0 rfl rfl 1 (Nat.le_of_ble_eq_true rfl) (F.2.2.2.2 (.fieldLink RX6 19 "LouderRoom" "now" "LLouderRoom$Crowd;") (List.mem_of_getElem? (i := 2) rfl)) (fun _ h9 => h9) rfl dX6_minute_12 ?_
  obtain ⟨g2, hv, hf⟩ := obd hf
  have hp1 : List.Perm [oX6 h0 r0, oX1 ty (r0 1) a1 z1, oX0 ty (r0 5) aa5 g1] ([oX1 ty (r0 1) a1 z1] ++ [oX6 h0 r0, oX0 ty (r0 5) aa5 g1]) := ((List.perm_middle (a := (oX1 ty (r0 1) a1 z1 : va_W)) (l₁ := ([oX6 h0 r0] : List va_W)) (l₂ := ([oX0 ty (r0 5) aa5 g1] : List va_W))) : List.Perm ([oX6 h0 r0, oX1 ty (r0 1) a1 z1, oX0 ty (r0 5) aa5 g1] : List va_W) ([oX1 ty (r0 1) a1 z1, oX6 h0 r0, oX0 ty (r0 5) aa5 g1] : List va_W))
  refine cv_call (os := [oX6 h0 r0, oX1 ty (r0 1) a1 z1, oX0 ty (r0 5) aa5 g1]) (oc := [oX1 ty (r0 1) a1 z1]) (oc' := [oX1 ty (r0 1) a1 g2]) (or_ := [oX6 h0 r0, oX0 ty (r0 5) aa5 g1]) (os' := [oX6 h0 r0, oX1 ty (r0 1) a1 g2, oX0 ty (r0 5) aa5 g1]) (va_runV (As := []) (rest := []) F (c_X1_look l D ty (r0 1) a1 _ _ hv _) (cwV 0 F.2.2.2.2 gX6_minute_X1_look rfl rfl rfl ⟨rfl, hd_X1_look⟩ ⟨Nat.le_of_ble_eq_true rfl, Nat.le_of_ble_eq_true rfl⟩) (pre_v hK hP hD hp1 rfl rfl rfl) rfl rfl hl.1 rfl (lv_room (Nat.le_of_ble_eq_true rfl)) dX6_minute_15 ⟨Nat.zero_le _, Nat.zero_le _⟩) hp1 ((List.perm_middle (a := (oX6 h0 r0 : va_W)) (l₁ := ([oX1 ty (r0 1) a1 g2] : List va_W)) (l₂ := ([oX0 ty (r0 5) aa5 g1] : List va_W))) : List.Perm ([oX1 ty (r0 1) a1 g2, oX6 h0 r0, oX0 ty (r0 5) aa5 g1] : List va_W) ([oX6 h0 r0, oX1 ty (r0 1) a1 g2, oX0 ty (r0 5) aa5 g1] : List va_W)) hP hD hS hA (fun H locs hP hD hS => ?_)
  clear hp1 hv
  refine lv_aload_n hx hb dX6_minute_18 rfl (lv_at hl 0 rfl) ?_
  refine va_get (D := D) (ci := 6) (C := RX6) (T := TX6) (N := 8) hx hb F.2.2.2.2 in_X6_minute_X6 F.2.2.2.1 hK.1 hP 0 rfl rfl 1 (Nat.le_of_ble_eq_true rfl) (F.2.2.2.2 (.fieldLink RX6 19 "LouderRoom" "now" "LLouderRoom$Crowd;") (List.mem_of_getElem? (i := 2) rfl)) (fun _ h9 => h9) rfl dX6_minute_19 ?_
  obtain ⟨v3, hv, hf⟩ := obd hf
  have hp1 : List.Perm [oX6 h0 r0, oX1 ty (r0 1) a1 g2, oX0 ty (r0 5) aa5 g1] ([oX1 ty (r0 1) a1 g2] ++ [oX6 h0 r0, oX0 ty (r0 5) aa5 g1]) := ((List.perm_middle (a := (oX1 ty (r0 1) a1 g2 : va_W)) (l₁ := ([oX6 h0 r0] : List va_W)) (l₂ := ([oX0 ty (r0 5) aa5 g1] : List va_W))) : List.Perm ([oX6 h0 r0, oX1 ty (r0 1) a1 g2, oX0 ty (r0 5) aa5 g1] : List va_W) ([oX1 ty (r0 1) a1 g2, oX6 h0 r0, oX0 ty (r0 5) aa5 g1] : List va_W))
  refine ci_call (out := v3) (os := [oX6 h0 r0, oX1 ty (r0 1) a1 g2, oX0 ty (r0 5) aa5 g1]) (oc := [oX1 ty (r0 1) a1 g2]) (oc' := [oX1 ty (r0 1) a1 g2]) (or_ := [oX6 h0 r0, oX0 ty (r0 5) aa5 g1]) (os' := [oX6 h0 r0, oX1 ty (r0 1) a1 g2, oX0 ty (r0 5) aa5 g1]) (va_runV (As := []) (rest := []) F (c_X1_changing l D ty (r0 1) a1 _ _ hv _) (cwV 0 F.2.2.2.2 gX6_minute_X1_changing rfl rfl rfl ⟨rfl, hd_X1_changing⟩ ⟨Nat.le_of_ble_eq_true rfl, Nat.le_of_ble_eq_true rfl⟩) (pre_v hK hP hD hp1 rfl rfl rfl) rfl rfl hl.1 rfl (lv_room (Nat.le_of_ble_eq_true rfl)) dX6_minute_22 ⟨Nat.zero_le _, Nat.zero_le _⟩) hp1 ((List.perm_middle (a := (oX6 h0 r0 : va_W)) (l₁ := ([oX1 ty (r0 1) a1 g2] : List va_W)) (l₂ := ([oX0 ty (r0 5) aa5 g1] : List va_W))) : List.Perm ([oX1 ty (r0 1) a1 g2, oX6 h0 r0, oX0 ty (r0 5) aa5 g1] : List va_W) ([oX6 h0 r0, oX1 ty (r0 1) a1 g2, oX0 ty (r0 5) aa5 g1] : List va_W)) hP hD hS hA (fun H locs hP hD hS => ?_)
  clear hp1 hv
  refine lv_istore_n (lv' := [(1, .int v3), (0, .ref h0)]) hx hb dX6_minute_25 rfl hl (by decide) rfl (fun ls hl => ?_)
  refine lv_aload_n hx hb dX6_minute_26 rfl (lv_at hl 1 rfl) ?_
  refine va_get (D := D) (ci := 6) (C := RX6) (T := TX6) (N := 8) hx hb F.2.2.2.2 in_X6_minute_X6 F.2.2.2.1 hK.1 hP 0 rfl rfl 1 (Nat.le_of_ble_eq_true rfl) (F.2.2.2.2 (.fieldLink RX6 19 "LouderRoom" "now" "LLouderRoom$Crowd;") (List.mem_of_getElem? (i := 2) rfl)) (fun _ h9 => h9) rfl dX6_minute_27 ?_
  obtain ⟨g4, hv, hf⟩ := obd hf
  have hp1 : List.Perm [oX6 h0 r0, oX1 ty (r0 1) a1 g2, oX0 ty (r0 5) aa5 g1] ([oX1 ty (r0 1) a1 g2] ++ [oX6 h0 r0, oX0 ty (r0 5) aa5 g1]) := ((List.perm_middle (a := (oX1 ty (r0 1) a1 g2 : va_W)) (l₁ := ([oX6 h0 r0] : List va_W)) (l₂ := ([oX0 ty (r0 5) aa5 g1] : List va_W))) : List.Perm ([oX6 h0 r0, oX1 ty (r0 1) a1 g2, oX0 ty (r0 5) aa5 g1] : List va_W) ([oX1 ty (r0 1) a1 g2, oX6 h0 r0, oX0 ty (r0 5) aa5 g1] : List va_W))
  refine cv_call (os := [oX6 h0 r0, oX1 ty (r0 1) a1 g2, oX0 ty (r0 5) aa5 g1]) (oc := [oX1 ty (r0 1) a1 g2]) (oc' := [oX1 ty (r0 1) a1 g4]) (or_ := [oX6 h0 r0, oX0 ty (r0 5) aa5 g1]) (os' := [oX6 h0 r0, oX1 ty (r0 1) a1 g4, oX0 ty (r0 5) aa5 g1]) (va_runV (As := []) (rest := []) F (c_X1_take l D ty (r0 1) a1 _ _ hv _) (cwV 0 F.2.2.2.2 gX6_minute_X1_take rfl rfl rfl ⟨rfl, hd_X1_take⟩ ⟨Nat.le_of_ble_eq_true rfl, Nat.le_of_ble_eq_true rfl⟩) (pre_v hK hP hD hp1 rfl rfl rfl) rfl rfl hl.1 rfl (lv_room (Nat.le_of_ble_eq_true rfl)) dX6_minute_30 ⟨Nat.zero_le _, Nat.zero_le _⟩) hp1 ((List.perm_middle (a := (oX6 h0 r0 : va_W)) (l₁ := ([oX1 ty (r0 1) a1 g4] : List va_W)) (l₂ := ([oX0 ty (r0 5) aa5 g1] : List va_W))) : List.Perm ([oX1 ty (r0 1) a1 g4, oX6 h0 r0, oX0 ty (r0 5) aa5 g1] : List va_W) ([oX6 h0 r0, oX1 ty (r0 1) a1 g4, oX0 ty (r0 5) aa5 g1] : List va_W)) hP hD hS hA (fun H locs hP hD hS => ?_)
  clear hp1 hv
  refine lv_iload_n hx hb dX6_minute_33 rfl (lv_at hl 0 rfl) ?_
  obtain hf := hf
  obtain ⟨e0, e1, e2⟩ := tup3 hf
  rw [e1] at hP hD
  rw [e2] at hP hD
  exact CX_i F hr hlk hP hD hS e0 dX6_minute_34
def f_X6_breaks (z1 : Ob) (z5 : AS) (p1 : Int32) : Option (Int32 × Ob × AS) := (f_X1_has z1 p1).bind (fun v1 => (if v1 = 0 then some ((-1 : Int32), z1, z5) else (if inb p1 8 = true then (if (4 : Int32) ≤ (z1.2 2 p1.toNatClampNeg) then (if (z1.1 6) < (8 : Int32) then (f_X0_add z5 z1).bind (fun g2 => (if inb p1 8 = true then bnd ((z1.2 2 p1.toNatClampNeg) / (2 : Int32)) (fun x3 => (if inb p1 8 = true then bnd ((z1.2 2 p1.toNatClampNeg) - x3) (fun x4 => (if inb p1 8 = true then bnd (sA z1 2 (upd (z1.2 2) p1.toNatClampNeg x3)) (fun g5 => (if inb p1 8 = true then (f_X1_firstFree g5).bind (fun v6 => (if inb p1 8 = true then (if inb p1 8 = true then (f_X1_add g5 (g5.2 0 p1.toNatClampNeg) v6 x4 (g5.2 3 p1.toNatClampNeg) (g5.2 4 p1.toNatClampNeg)).bind (fun g7 => some (((g7.1 6) - (1 : Int32)), g7, g2)) else none) else none)) else none)) else none)) else none)) else none)) else some ((-4 : Int32), z1, z5)) else some ((-3 : Int32), z1, z5)) else none)))
abbrev rm_X6_breaks : Room := { frames := 2, cells := 0, slots := 0, locals := 43 }
theorem hd_X6_breaks : yX6_breaks.cls ≠ "java/lang/invoke/MethodHandle" ∧ yX6_breaks.cls ≠ "java/lang/invoke/VarHandle" ∧ (parseMethodDescriptor yX6_breaks.desc).map (fun d => d.parameters.length) = some 1 := by decide +kernel
theorem in_X6_breaks_X6 : ∀ w ∈ wsX60, w ∈ wsX6_breaks := fun w h => List.mem_cons_of_mem _ (List.mem_append_left _ (List.mem_append_left _ (List.mem_append_right _ h)))
theorem in_X6_breaks_X1 : ∀ w ∈ wsX10, w ∈ wsX6_breaks := fun w h => List.mem_cons_of_mem _ (List.mem_append_left _ (List.mem_append_right _ h))
set_option maxHeartbeats 4000000 in
set_option maxRecDepth 100000 in
theorem c_X6_breaks (l : Launch) (D : va_G) (ty : TY) (h0 : Nat) (r0 : Nat → Nat) (a1 : Nat → Nat) (aa5 : Nat) (z1 : Ob) (z5 : AS) (p1 : Int32) (o0 : Int32) (o1 : Ob) (o2 : AS) (hf : f_X6_breaks z1 z5 p1 = some (o0, o1, o2)) (sz : Nat) : CX l yX6_breaks wsX6_breaks rm_X6_breaks ([.ref h0, .int p1] : List Value) D ty (fl [oX6 h0 r0, oX1 ty (r0 1) a1 z1, oX0 ty (r0 5) aa5 z5]) sz (qI D o0 (fl [oX6 h0 r0, oX1 ty (r0 1) a1 o1, oX0 ty (r0 5) aa5 o2])) 0 0 := by
  refine CX_of (cc := cX6_breaks) (maxL := 4) (ret := (some .int)) (C := RX6) (by decide) rfl rfl (Nat.le_of_ble_eq_true rfl) ?_
  intro p e s m below meth c A ls F hr hlk _ hK hP hD hS hA hl
  have hx := F.1
  have hb := F.2.1
  replace hl : lv_has ls 4 [(0, .ref h0), (1, .int p1)] := hl
  unfold f_X6_breaks at hf
  refine lv_aload_n hx hb dX6_breaks_0 rfl (lv_at hl 0 rfl) ?_
  refine va_get (D := D) (ci := 6) (C := RX6) (T := TX6) (N := 8) hx hb F.2.2.2.2 in_X6_breaks_X6 F.2.2.2.1 hK.1 hP 0 rfl rfl 1 (Nat.le_of_ble_eq_true rfl) (F.2.2.2.2 (.fieldLink RX6 19 "LouderRoom" "now" "LLouderRoom$Crowd;") (List.mem_of_getElem? (i := 1) rfl)) (fun _ h9 => h9) rfl dX6_breaks_1 ?_
  refine lv_iload_n hx hb dX6_breaks_4 rfl (lv_at hl 1 rfl) ?_
  obtain ⟨v1, hv, hf⟩ := obd hf
  have hp1 : List.Perm [oX6 h0 r0, oX1 ty (r0 1) a1 z1, oX0 ty (r0 5) aa5 z5] ([oX1 ty (r0 1) a1 z1] ++ [oX6 h0 r0, oX0 ty (r0 5) aa5 z5]) := ((List.perm_middle (a := (oX1 ty (r0 1) a1 z1 : va_W)) (l₁ := ([oX6 h0 r0] : List va_W)) (l₂ := ([oX0 ty (r0 5) aa5 z5] : List va_W))) : List.Perm ([oX6 h0 r0, oX1 ty (r0 1) a1 z1, oX0 ty (r0 5) aa5 z5] : List va_W) ([oX1 ty (r0 1) a1 z1, oX6 h0 r0, oX0 ty (r0 5) aa5 z5] : List va_W))
  refine ci_call (out := v1) (os := [oX6 h0 r0, oX1 ty (r0 1) a1 z1, oX0 ty (r0 5) aa5 z5]) (oc := [oX1 ty (r0 1) a1 z1]) (oc' := [oX1 ty (r0 1) a1 z1]) (or_ := [oX6 h0 r0, oX0 ty (r0 5) aa5 z5]) (os' := [oX6 h0 r0, oX1 ty (r0 1) a1 z1, oX0 ty (r0 5) aa5 z5]) (va_runV (As := [.int p1]) (rest := []) F (c_X1_has l D ty (r0 1) a1 _ _ _ hv _) (cwV 1 F.2.2.2.2 gX6_breaks_X1_has rfl rfl rfl ⟨rfl, hd_X1_has⟩ ⟨Nat.le_of_ble_eq_true rfl, Nat.le_of_ble_eq_true rfl⟩) (pre_v hK hP hD hp1 rfl rfl rfl) rfl rfl hl.1 rfl (lv_room (Nat.le_of_ble_eq_true rfl)) dX6_breaks_5 ⟨Nat.zero_le _, Nat.zero_le _⟩) hp1 ((List.perm_middle (a := (oX6 h0 r0 : va_W)) (l₁ := ([oX1 ty (r0 1) a1 z1] : List va_W)) (l₂ := ([oX0 ty (r0 5) aa5 z5] : List va_W))) : List.Perm ([oX1 ty (r0 1) a1 z1, oX6 h0 r0, oX0 ty (r0 5) aa5 z5] : List va_W) ([oX6 h0 r0, oX1 ty (r0 1) a1 z1, oX0 ty (r0 5) aa5 z5] : List va_W)) hP hD hS hA (fun H locs hP hD hS => ?_)
  clear hp1 hv
  refine lv_if_ne (tgt := 13) hx hb dX6_breaks_8 (by decide) (fun hc => ?_) (fun hc => ?_)
  · replace hf := ite_f hf hc
    refine lv_aload_n hx hb dX6_breaks_13 rfl (lv_at hl 0 rfl) ?_
    refine va_get (D := D) (ci := 6) (C := RX6) (T := TX6) (N := 8) hx hb F.2.2.2.2 in_X6_breaks_X6 F.2.2.2.1 hK.1 hP 0 rfl rfl 1 (Nat.le_of_ble_eq_true rfl) (F.2.2.2.2 (.fieldLink RX6 19 "LouderRoom" "now" "LLouderRoom$Crowd;") (List.mem_of_getElem? (i := 1) rfl)) (fun _ h9 => h9) rfl dX6_breaks_14 ?_
    refine va_getN (D := D) (ci := 1) (C := RX1) (T := TX1) (N := 12) hx hb F.2.2.2.2 in_X6_breaks_X1 F.2.2.2.1 hK.1 hP 1 rfl rfl 2 (Nat.le_of_ble_eq_true rfl) (KN.use hK 5 (w := .fieldLinkNest RX6 120 "LouderRoom$Crowd" "people" "[I" "LouderRoom") rfl _) (fun _ h9 => h9) rfl dX6_breaks_17 ?_
    refine lv_iload_n hx hb dX6_breaks_20 rfl (lv_at hl 1 rfl) ?_
    obtain ⟨hi, hf⟩ := grd hf
    refine va_iald hx hb hK.1 hP 4 0 rfl rfl (inb_in hi) dX6_breaks_21 ?_
    refine lv_iconst (v := (4 : Int32)) hx hb dX6_breaks_22 (by decide) ?_
    refine lv_icmp_ge (tgt := 29) hx hb dX6_breaks_23 (by decide) (fun hc => ?_) (fun hc => ?_)
    · replace hf := ite_t hf hc
      refine lv_aload_n hx hb dX6_breaks_29 rfl (lv_at hl 0 rfl) ?_
      refine va_get (D := D) (ci := 6) (C := RX6) (T := TX6) (N := 8) hx hb F.2.2.2.2 in_X6_breaks_X6 F.2.2.2.1 hK.1 hP 0 rfl rfl 1 (Nat.le_of_ble_eq_true rfl) (F.2.2.2.2 (.fieldLink RX6 19 "LouderRoom" "now" "LLouderRoom$Crowd;") (List.mem_of_getElem? (i := 1) rfl)) (fun _ h9 => h9) rfl dX6_breaks_30 ?_
      refine va_getN (D := D) (ci := 1) (C := RX1) (T := TX1) (N := 12) hx hb F.2.2.2.2 in_X6_breaks_X1 F.2.2.2.1 hK.1 hP 1 rfl rfl 6 (Nat.le_of_ble_eq_true rfl) (KN.use hK 9 (w := .fieldLinkNest RX6 79 "LouderRoom$Crowd" "rings" "I" "LouderRoom") rfl _) (fun _ h9 => h9) rfl dX6_breaks_33 ?_
      refine lv_bipush (v := (8 : Int32)) hx hb dX6_breaks_36 (by decide) ?_
      refine lv_icmp_lt (tgt := 44) hx hb dX6_breaks_38 (by decide) (fun hc => ?_) (fun hc => ?_)
      · replace hf := ite_t hf hc
        refine lv_aload_n hx hb dX6_breaks_44 rfl (lv_at hl 0 rfl) ?_
        refine va_get (D := D) (ci := 6) (C := RX6) (T := TX6) (N := 8) hx hb F.2.2.2.2 in_X6_breaks_X6 F.2.2.2.1 hK.1 hP 0 rfl rfl 5 (Nat.le_of_ble_eq_true rfl) (F.2.2.2.2 (.fieldLink RX6 39 "LouderRoom" "acts" "LLouderRoom$Acts;") (List.mem_of_getElem? (i := 2) rfl)) (fun _ h9 => h9) rfl dX6_breaks_45 ?_
        refine lv_aload_n hx hb dX6_breaks_48 rfl (lv_at hl 0 rfl) ?_
        refine va_get (D := D) (ci := 6) (C := RX6) (T := TX6) (N := 8) hx hb F.2.2.2.2 in_X6_breaks_X6 F.2.2.2.1 hK.1 hP 0 rfl rfl 1 (Nat.le_of_ble_eq_true rfl) (F.2.2.2.2 (.fieldLink RX6 19 "LouderRoom" "now" "LLouderRoom$Crowd;") (List.mem_of_getElem? (i := 1) rfl)) (fun _ h9 => h9) rfl dX6_breaks_49 ?_
        obtain ⟨g2, hv, hf⟩ := obd hf
        have hp1 : List.Perm [oX6 h0 r0, oX1 ty (r0 1) a1 z1, oX0 ty (r0 5) aa5 z5] ([oX0 ty (r0 5) aa5 z5, oX1 ty (r0 1) a1 z1] ++ [oX6 h0 r0]) := (((List.perm_middle (a := (oX0 ty (r0 5) aa5 z5 : va_W)) (l₁ := ([oX6 h0 r0, oX1 ty (r0 1) a1 z1] : List va_W)) (l₂ := ([] : List va_W))).trans (List.Perm.cons _ (List.perm_middle (a := (oX1 ty (r0 1) a1 z1 : va_W)) (l₁ := ([oX6 h0 r0] : List va_W)) (l₂ := ([] : List va_W))))) : List.Perm ([oX6 h0 r0, oX1 ty (r0 1) a1 z1, oX0 ty (r0 5) aa5 z5] : List va_W) ([oX0 ty (r0 5) aa5 z5, oX1 ty (r0 1) a1 z1, oX6 h0 r0] : List va_W))
        refine cv_call (os := [oX6 h0 r0, oX1 ty (r0 1) a1 z1, oX0 ty (r0 5) aa5 z5]) (oc := [oX0 ty (r0 5) aa5 z5, oX1 ty (r0 1) a1 z1]) (oc' := [oX0 ty (r0 5) aa5 g2, oX1 ty (r0 1) a1 z1]) (or_ := [oX6 h0 r0]) (os' := [oX6 h0 r0, oX1 ty (r0 1) a1 z1, oX0 ty (r0 5) aa5 g2]) (va_runV (As := [.ref (r0 1)]) (rest := []) F (c_X0_add l D ty (r0 5) aa5 (r0 1) a1 _ _ _ hv _) (cwV 1 F.2.2.2.2 gX6_breaks_X0_add rfl rfl rfl ⟨rfl, hd_X0_add⟩ ⟨Nat.le_of_ble_eq_true rfl, Nat.le_of_ble_eq_true rfl⟩) (pre_v hK hP hD hp1 rfl rfl rfl) rfl rfl hl.1 rfl (lv_room (Nat.le_of_ble_eq_true rfl)) dX6_breaks_52 ⟨Nat.zero_le _, Nat.zero_le _⟩) hp1 (((List.perm_middle (a := (oX6 h0 r0 : va_W)) (l₁ := ([oX0 ty (r0 5) aa5 g2, oX1 ty (r0 1) a1 z1] : List va_W)) (l₂ := ([] : List va_W))).trans (List.Perm.cons _ (List.perm_middle (a := (oX1 ty (r0 1) a1 z1 : va_W)) (l₁ := ([oX0 ty (r0 5) aa5 g2] : List va_W)) (l₂ := ([] : List va_W))))) : List.Perm ([oX0 ty (r0 5) aa5 g2, oX1 ty (r0 1) a1 z1, oX6 h0 r0] : List va_W) ([oX6 h0 r0, oX1 ty (r0 1) a1 z1, oX0 ty (r0 5) aa5 g2] : List va_W)) hP hD hS hA (fun H locs hP hD hS => ?_)
        clear hp1 hv
        refine lv_aload_n hx hb dX6_breaks_55 rfl (lv_at hl 0 rfl) ?_
        refine va_get (D := D) (ci := 6) (C := RX6) (T := TX6) (N := 8) hx hb F.2.2.2.2 in_X6_breaks_X6 F.2.2.2.1 hK.1 hP 0 rfl rfl 1 (Nat.le_of_ble_eq_true rfl) (F.2.2.2.2 (.fieldLink RX6 19 "LouderRoom" "now" "LLouderRoom$Crowd;") (List.mem_of_getElem? (i := 1) rfl)) (fun _ h9 => h9) rfl dX6_breaks_56 ?_
        refine va_getN (D := D) (ci := 1) (C := RX1) (T := TX1) (N := 12) hx hb F.2.2.2.2 in_X6_breaks_X1 F.2.2.2.1 hK.1 hP 1 rfl rfl 2 (Nat.le_of_ble_eq_true rfl) (KN.use hK 5 (w := .fieldLinkNest RX6 120 "LouderRoom$Crowd" "people" "[I" "LouderRoom") rfl _) (fun _ h9 => h9) rfl dX6_breaks_59 ?_
        refine lv_iload_n hx hb dX6_breaks_62 rfl (lv_at hl 1 rfl) ?_
        obtain ⟨hi, hf⟩ := grd hf
        refine va_iald hx hb hK.1 hP 4 0 rfl rfl (inb_in hi) dX6_breaks_63 ?_
        refine lv_iconst (v := (2 : Int32)) hx hb dX6_breaks_64 (by decide) ?_
        refine lv_idiv hx hb dX6_breaks_65 (by decide) ?_
        refine lv_topi (fun x3 ex => ?_)
        replace hf := bnd_at hf ex; clear ex
        refine lv_istore_n (lv' := [(2, .int x3), (0, .ref h0), (1, .int p1)]) hx hb dX6_breaks_66 rfl hl (by decide) rfl (fun ls hl => ?_)
        refine lv_aload_n hx hb dX6_breaks_67 rfl (lv_at hl 1 rfl) ?_
        refine va_get (D := D) (ci := 6) (C := RX6) (T := TX6) (N := 8) hx hb F.2.2.2.2 in_X6_breaks_X6 F.2.2.2.1 hK.1 hP 0 rfl rfl 1 (Nat.le_of_ble_eq_true rfl) (F.2.2.2.2 (.fieldLink RX6 19 "LouderRoom" "now" "LLouderRoom$Crowd;") (List.mem_of_getElem? (i := 1) rfl)) (fun _ h9 => h9) rfl dX6_breaks_68 ?_
        refine va_getN (D := D) (ci := 1) (C := RX1) (T := TX1) (N := 12) hx hb F.2.2.2.2 in_X6_breaks_X1 F.2.2.2.1 hK.1 hP 1 rfl rfl 2 (Nat.le_of_ble_eq_true rfl) (KN.use hK 5 (w := .fieldLinkNest RX6 120 "LouderRoom$Crowd" "people" "[I" "LouderRoom") rfl _) (fun _ h9 => h9) rfl dX6_breaks_71 ?_
        refine lv_iload_n hx hb dX6_breaks_74 rfl (lv_at hl 2 rfl) ?_
        obtain ⟨hi, hf⟩ := grd hf
        refine va_iald hx hb hK.1 hP 4 0 rfl rfl (inb_in hi) dX6_breaks_75 ?_
        refine lv_iload_n hx hb dX6_breaks_76 rfl (lv_at hl 0 rfl) ?_
        refine lv_isub hx hb dX6_breaks_77 ?_
        refine lv_topi (fun x4 ex => ?_)
        replace hf := bnd_at hf ex; clear ex
        refine lv_istore_n (lv' := [(3, .int x4), (2, .int x3), (0, .ref h0), (1, .int p1)]) hx hb dX6_breaks_78 rfl hl (by decide) rfl (fun ls hl => ?_)
        refine lv_aload_n hx hb dX6_breaks_79 rfl (lv_at hl 2 rfl) ?_
        refine va_get (D := D) (ci := 6) (C := RX6) (T := TX6) (N := 8) hx hb F.2.2.2.2 in_X6_breaks_X6 F.2.2.2.1 hK.1 hP 0 rfl rfl 1 (Nat.le_of_ble_eq_true rfl) (F.2.2.2.2 (.fieldLink RX6 19 "LouderRoom" "now" "LLouderRoom$Crowd;") (List.mem_of_getElem? (i := 1) rfl)) (fun _ h9 => h9) rfl dX6_breaks_80 ?_
        refine va_getN (D := D) (ci := 1) (C := RX1) (T := TX1) (N := 12) hx hb F.2.2.2.2 in_X6_breaks_X1 F.2.2.2.1 hK.1 hP 1 rfl rfl 2 (Nat.le_of_ble_eq_true rfl) (KN.use hK 5 (w := .fieldLinkNest RX6 120 "LouderRoom$Crowd" "people" "[I" "LouderRoom") rfl _) (fun _ h9 => h9) rfl dX6_breaks_83 ?_
        refine lv_iload_n hx hb dX6_breaks_86 rfl (lv_at hl 3 rfl) ?_
        refine lv_iload_n hx hb dX6_breaks_87 rfl (lv_at hl 1 rfl) ?_
        obtain ⟨hi, hf⟩ := grd hf
        refine pt_iast (w1 := fl [oX6 h0 r0, oX1 ty (r0 1) a1 (sA z1 2 (upd (z1.2 2) p1.toNatClampNeg x3)), oX0 ty (r0 5) aa5 g2]) F hK.1 hP hD hS 4 0 rfl rfl (inb_in hi) rfl dX6_breaks_88 (fun H locs hP hD hS => ?_)
        obtain ⟨g5, ex⟩ : ∃ y : Ob, y = (sA z1 2 (upd (z1.2 2) p1.toNatClampNeg x3)) := ⟨_, rfl⟩
        replace hf := bnd_at hf ex; rw [← ex] at hP hD; clear ex
        refine lv_aload_n hx hb dX6_breaks_89 rfl (lv_at hl 2 rfl) ?_
        refine va_get (D := D) (ci := 6) (C := RX6) (T := TX6) (N := 8) hx hb F.2.2.2.2 in_X6_breaks_X6 F.2.2.2.1 hK.1 hP 0 rfl rfl 1 (Nat.le_of_ble_eq_true rfl) (F.2.2.2.2 (.fieldLink RX6 19 "LouderRoom" "now" "LLouderRoom$Crowd;") (List.mem_of_getElem? (i := 1) rfl)) (fun _ h9 => h9) rfl dX6_breaks_90 ?_
        refine lv_aload_n hx hb dX6_breaks_93 rfl (lv_at hl 2 rfl) ?_
        refine va_get (D := D) (ci := 6) (C := RX6) (T := TX6) (N := 8) hx hb F.2.2.2.2 in_X6_breaks_X6 F.2.2.2.1 hK.1 hP 0 rfl rfl 1 (Nat.le_of_ble_eq_true rfl) (F.2.2.2.2 (.fieldLink RX6 19 "LouderRoom" "now" "LLouderRoom$Crowd;") (List.mem_of_getElem? (i := 1) rfl)) (fun _ h9 => h9) rfl dX6_breaks_94 ?_
        refine va_getN (D := D) (ci := 1) (C := RX1) (T := TX1) (N := 12) hx hb F.2.2.2.2 in_X6_breaks_X1 F.2.2.2.1 hK.1 hP 1 rfl rfl 0 (Nat.le_of_ble_eq_true rfl) (KN.use hK 3 (w := .fieldLinkNest RX6 113 "LouderRoom$Crowd" "kind" "[I" "LouderRoom") rfl _) (fun _ h9 => h9) rfl dX6_breaks_97 ?_
        refine lv_iload_n hx hb dX6_breaks_100 rfl (lv_at hl 3 rfl) ?_
        obtain ⟨hi, hf⟩ := grd hf
        refine va_iald hx hb hK.1 hP 2 0 rfl rfl (inb_in hi) dX6_breaks_101 ?_
        refine lv_aload_n hx hb dX6_breaks_102 rfl (lv_at hl 2 rfl) ?_
        refine va_get (D := D) (ci := 6) (C := RX6) (T := TX6) (N := 8) hx hb F.2.2.2.2 in_X6_breaks_X6 F.2.2.2.1 hK.1 hP 0 rfl rfl 1 (Nat.le_of_ble_eq_true rfl) (F.2.2.2.2 (.fieldLink RX6 19 "LouderRoom" "now" "LLouderRoom$Crowd;") (List.mem_of_getElem? (i := 1) rfl)) (fun _ h9 => h9) rfl dX6_breaks_103 ?_
        obtain ⟨v6, hv, hf⟩ := obd hf
        have hp1 : List.Perm [oX6 h0 r0, oX1 ty (r0 1) a1 g5, oX0 ty (r0 5) aa5 g2] ([oX1 ty (r0 1) a1 g5] ++ [oX6 h0 r0, oX0 ty (r0 5) aa5 g2]) := ((List.perm_middle (a := (oX1 ty (r0 1) a1 g5 : va_W)) (l₁ := ([oX6 h0 r0] : List va_W)) (l₂ := ([oX0 ty (r0 5) aa5 g2] : List va_W))) : List.Perm ([oX6 h0 r0, oX1 ty (r0 1) a1 g5, oX0 ty (r0 5) aa5 g2] : List va_W) ([oX1 ty (r0 1) a1 g5, oX6 h0 r0, oX0 ty (r0 5) aa5 g2] : List va_W))
        refine ci_call (out := v6) (os := [oX6 h0 r0, oX1 ty (r0 1) a1 g5, oX0 ty (r0 5) aa5 g2]) (oc := [oX1 ty (r0 1) a1 g5]) (oc' := [oX1 ty (r0 1) a1 g5]) (or_ := [oX6 h0 r0, oX0 ty (r0 5) aa5 g2]) (os' := [oX6 h0 r0, oX1 ty (r0 1) a1 g5, oX0 ty (r0 5) aa5 g2]) (va_runV (As := []) (rest := [.int (g5.2 0 p1.toNatClampNeg), .ref (r0 1)]) F (c_X1_firstFree l D ty (r0 1) a1 _ _ hv _) (cwV 0 F.2.2.2.2 gX6_breaks_X1_firstFree rfl rfl rfl ⟨rfl, hd_X1_firstFree⟩ ⟨Nat.le_of_ble_eq_true rfl, Nat.le_of_ble_eq_true rfl⟩) (pre_v hK hP hD hp1 rfl rfl rfl) rfl rfl hl.1 rfl (lv_room (Nat.le_of_ble_eq_true rfl)) dX6_breaks_106 ⟨Nat.zero_le _, Nat.zero_le _⟩) hp1 ((List.perm_middle (a := (oX6 h0 r0 : va_W)) (l₁ := ([oX1 ty (r0 1) a1 g5] : List va_W)) (l₂ := ([oX0 ty (r0 5) aa5 g2] : List va_W))) : List.Perm ([oX1 ty (r0 1) a1 g5, oX6 h0 r0, oX0 ty (r0 5) aa5 g2] : List va_W) ([oX6 h0 r0, oX1 ty (r0 1) a1 g5, oX0 ty (r0 5) aa5 g2] : List va_W)) hP hD hS hA (fun H locs hP hD hS => ?_)
        clear hp1 hv
        refine lv_iload_n hx hb dX6_breaks_109 rfl (lv_at hl 0 rfl) ?_
        refine lv_aload_n hx hb dX6_breaks_110 rfl (lv_at hl 2 rfl) ?_
        refine va_get (D := D) (ci := 6) (C := RX6) (T := TX6) (N := 8) hx hb F.2.2.2.2 in_X6_breaks_X6 F.2.2.2.1 hK.1 hP 0 rfl rfl 1 (Nat.le_of_ble_eq_true rfl) (F.2.2.2.2 (.fieldLink RX6 19 "LouderRoom" "now" "LLouderRoom$Crowd;") (List.mem_of_getElem? (i := 1) rfl)) (fun _ h9 => h9) rfl dX6_breaks_111 ?_
        refine va_getN (D := D) (ci := 1) (C := RX1) (T := TX1) (N := 12) hx hb F.2.2.2.2 in_X6_breaks_X1 F.2.2.2.1 hK.1 hP 1 rfl rfl 3 (Nat.le_of_ble_eq_true rfl) (KN.use hK 6 (w := .fieldLinkNest RX6 123 "LouderRoom$Crowd" "voice" "[I" "LouderRoom") rfl _) (fun _ h9 => h9) rfl dX6_breaks_114 ?_
        refine lv_iload_n hx hb dX6_breaks_117 rfl (lv_at hl 3 rfl) ?_
        obtain ⟨hi, hf⟩ := grd hf
        refine va_iald hx hb hK.1 hP 5 0 rfl rfl (inb_in hi) dX6_breaks_118 ?_
        refine lv_aload_n hx hb dX6_breaks_119 rfl (lv_at hl 2 rfl) ?_
        refine va_get (D := D) (ci := 6) (C := RX6) (T := TX6) (N := 8) hx hb F.2.2.2.2 in_X6_breaks_X6 F.2.2.2.1 hK.1 hP 0 rfl rfl 1 (Nat.le_of_ble_eq_true rfl) (F.2.2.2.2 (.fieldLink RX6 19 "LouderRoom" "now" "LLouderRoom$Crowd;") (List.mem_of_getElem? (i := 1) rfl)) (fun _ h9 => h9) rfl dX6_breaks_120 ?_
        refine va_getN (D := D) (ci := 1) (C := RX1) (T := TX1) (N := 12) hx hb F.2.2.2.2 in_X6_breaks_X1 F.2.2.2.1 hK.1 hP 1 rfl rfl 4 (Nat.le_of_ble_eq_true rfl) (KN.use hK 7 (w := .fieldLinkNest RX6 126 "LouderRoom$Crowd" "age" "[I" "LouderRoom") rfl _) (fun _ h9 => h9) rfl dX6_breaks_123 ?_
        refine lv_iload_n hx hb dX6_breaks_126 rfl (lv_at hl 3 rfl) ?_
        obtain ⟨hi, hf⟩ := grd hf
        refine va_iald hx hb hK.1 hP 6 0 rfl rfl (inb_in hi) dX6_breaks_127 ?_
        obtain ⟨g7, hv, hf⟩ := obd hf
        have hp1 : List.Perm [oX6 h0 r0, oX1 ty (r0 1) a1 g5, oX0 ty (r0 5) aa5 g2] ([oX1 ty (r0 1) a1 g5] ++ [oX6 h0 r0, oX0 ty (r0 5) aa5 g2]) := ((List.perm_middle (a := (oX1 ty (r0 1) a1 g5 : va_W)) (l₁ := ([oX6 h0 r0] : List va_W)) (l₂ := ([oX0 ty (r0 5) aa5 g2] : List va_W))) : List.Perm ([oX6 h0 r0, oX1 ty (r0 1) a1 g5, oX0 ty (r0 5) aa5 g2] : List va_W) ([oX1 ty (r0 1) a1 g5, oX6 h0 r0, oX0 ty (r0 5) aa5 g2] : List va_W))
        refine cv_call (os := [oX6 h0 r0, oX1 ty (r0 1) a1 g5, oX0 ty (r0 5) aa5 g2]) (oc := [oX1 ty (r0 1) a1 g5]) (oc' := [oX1 ty (r0 1) a1 g7]) (or_ := [oX6 h0 r0, oX0 ty (r0 5) aa5 g2]) (os' := [oX6 h0 r0, oX1 ty (r0 1) a1 g7, oX0 ty (r0 5) aa5 g2]) (va_runV (As := [.int (g5.2 0 p1.toNatClampNeg), .int v6, .int x4, .int (g5.2 3 p1.toNatClampNeg), .int (g5.2 4 p1.toNatClampNeg)]) (rest := []) F (c_X1_add l D ty (r0 1) a1 _ _ _ _ _ _ _ hv _) (cwV 5 F.2.2.2.2 gX6_breaks_X1_add rfl rfl rfl ⟨rfl, hd_X1_add⟩ ⟨Nat.le_of_ble_eq_true rfl, Nat.le_of_ble_eq_true rfl⟩) (pre_v hK hP hD hp1 rfl rfl rfl) rfl rfl hl.1 rfl (lv_room (Nat.le_of_ble_eq_true rfl)) dX6_breaks_128 ⟨Nat.zero_le _, Nat.zero_le _⟩) hp1 ((List.perm_middle (a := (oX6 h0 r0 : va_W)) (l₁ := ([oX1 ty (r0 1) a1 g7] : List va_W)) (l₂ := ([oX0 ty (r0 5) aa5 g2] : List va_W))) : List.Perm ([oX1 ty (r0 1) a1 g7, oX6 h0 r0, oX0 ty (r0 5) aa5 g2] : List va_W) ([oX6 h0 r0, oX1 ty (r0 1) a1 g7, oX0 ty (r0 5) aa5 g2] : List va_W)) hP hD hS hA (fun H locs hP hD hS => ?_)
        clear hp1 hv
        refine lv_aload_n hx hb dX6_breaks_131 rfl (lv_at hl 2 rfl) ?_
        refine va_get (D := D) (ci := 6) (C := RX6) (T := TX6) (N := 8) hx hb F.2.2.2.2 in_X6_breaks_X6 F.2.2.2.1 hK.1 hP 0 rfl rfl 1 (Nat.le_of_ble_eq_true rfl) (F.2.2.2.2 (.fieldLink RX6 19 "LouderRoom" "now" "LLouderRoom$Crowd;") (List.mem_of_getElem? (i := 1) rfl)) (fun _ h9 => h9) rfl dX6_breaks_132 ?_
        refine va_getN (D := D) (ci := 1) (C := RX1) (T := TX1) (N := 12) hx hb F.2.2.2.2 in_X6_breaks_X1 F.2.2.2.1 hK.1 hP 1 rfl rfl 6 (Nat.le_of_ble_eq_true rfl) (KN.use hK 9 (w := .fieldLinkNest RX6 79 "LouderRoom$Crowd" "rings" "I" "LouderRoom") rfl _) (fun _ h9 => h9) rfl dX6_breaks_135 ?_
        refine lv_iconst (v := (1 : Int32)) hx hb dX6_breaks_138 (by decide) ?_
        refine lv_isub hx hb dX6_breaks_139 ?_
        obtain hf := hf
        obtain ⟨e0, e1, e2⟩ := tup3 hf
        rw [e1] at hP hD
        rw [e2] at hP hD
        exact CX_i F hr hlk hP hD hS e0 dX6_breaks_140
      · replace hf := ite_f hf hc
        refine lv_bipush (v := (-4 : Int32)) hx hb dX6_breaks_41 (by decide) ?_
        obtain hf := hf
        obtain ⟨e0, e1, e2⟩ := tup3 hf
        rw [e1] at hP hD
        rw [e2] at hP hD
        exact CX_i F hr hlk hP hD hS e0 dX6_breaks_43
    · replace hf := ite_f hf hc
      refine lv_bipush (v := (-3 : Int32)) hx hb dX6_breaks_26 (by decide) ?_
      obtain hf := hf
      obtain ⟨e0, e1, e2⟩ := tup3 hf
      rw [e1] at hP hD
      rw [e2] at hP hD
      exact CX_i F hr hlk hP hD hS e0 dX6_breaks_28
  · replace hf := ite_t hf hc
    refine lv_iconst (v := (-1 : Int32)) hx hb dX6_breaks_11 (by decide) ?_
    obtain hf := hf
    obtain ⟨e0, e1, e2⟩ := tup3 hf
    rw [e1] at hP hD
    rw [e2] at hP hD
    exact CX_i F hr hlk hP hD hS e0 dX6_breaks_12
def f_X6_joins (z1 : Ob) (z5 : AS) (p1 : Int32) (p2 : Int32) : Option (Int32 × Ob × AS) := (f_X1_has z1 p1).bind (fun v1 => (if v1 = 0 then some ((-1 : Int32), z1, z5) else (f_X1_has z1 p2).bind (fun v2 => (if v2 = 0 then some ((-1 : Int32), z1, z5) else (if p1 = p2 then some ((-2 : Int32), z1, z5) else (if inb p1 8 = true then (if inb p2 8 = true then bnd ((z1.2 2 p1.toNatClampNeg) + (z1.2 2 p2.toNatClampNeg)) (fun x3 => (if x3 ≤ (9 : Int32) then (f_X0_add z5 z1).bind (fun g4 => (if inb p1 8 = true then bnd (sA z1 2 (upd (z1.2 2) p1.toNatClampNeg x3)) (fun g5 => (f_X1_remove g5 p2).bind (fun g6 => some (x3, g6, g4))) else none)) else some ((-4 : Int32), z1, z5))) else none) else none))))))
abbrev rm_X6_joins : Room := { frames := 2, cells := 0, slots := 0, locals := 43 }
theorem hd_X6_joins : yX6_joins.cls ≠ "java/lang/invoke/MethodHandle" ∧ yX6_joins.cls ≠ "java/lang/invoke/VarHandle" ∧ (parseMethodDescriptor yX6_joins.desc).map (fun d => d.parameters.length) = some 2 := by decide +kernel
theorem in_X6_joins_X6 : ∀ w ∈ wsX60, w ∈ wsX6_joins := fun w h => List.mem_cons_of_mem _ (List.mem_append_left _ (List.mem_append_left _ (List.mem_append_right _ h)))
theorem in_X6_joins_X1 : ∀ w ∈ wsX10, w ∈ wsX6_joins := fun w h => List.mem_cons_of_mem _ (List.mem_append_left _ (List.mem_append_right _ h))
set_option maxHeartbeats 4000000 in
set_option maxRecDepth 100000 in
theorem c_X6_joins (l : Launch) (D : va_G) (ty : TY) (h0 : Nat) (r0 : Nat → Nat) (a1 : Nat → Nat) (aa5 : Nat) (z1 : Ob) (z5 : AS) (p1 : Int32) (p2 : Int32) (o0 : Int32) (o1 : Ob) (o2 : AS) (hf : f_X6_joins z1 z5 p1 p2 = some (o0, o1, o2)) (sz : Nat) : CX l yX6_joins wsX6_joins rm_X6_joins ([.ref h0, .int p1, .int p2] : List Value) D ty (fl [oX6 h0 r0, oX1 ty (r0 1) a1 z1, oX0 ty (r0 5) aa5 z5]) sz (qI D o0 (fl [oX6 h0 r0, oX1 ty (r0 1) a1 o1, oX0 ty (r0 5) aa5 o2])) 0 0 := by
  refine CX_of (cc := cX6_joins) (maxL := 4) (ret := (some .int)) (C := RX6) (by decide) rfl rfl (Nat.le_of_ble_eq_true rfl) ?_
  intro p e s m below meth c A ls F hr hlk _ hK hP hD hS hA hl
  have hx := F.1
  have hb := F.2.1
  replace hl : lv_has ls 4 [(0, .ref h0), (1, .int p1), (2, .int p2)] := hl
  unfold f_X6_joins at hf
  refine lv_aload_n hx hb dX6_joins_0 rfl (lv_at hl 0 rfl) ?_
  refine va_get (D := D) (ci := 6) (C := RX6) (T := TX6) (N := 8) hx hb F.2.2.2.2 in_X6_joins_X6 F.2.2.2.1 hK.1 hP 0 rfl rfl 1 (Nat.le_of_ble_eq_true rfl) (F.2.2.2.2 (.fieldLink RX6 19 "LouderRoom" "now" "LLouderRoom$Crowd;") (List.mem_of_getElem? (i := 1) rfl)) (fun _ h9 => h9) rfl dX6_joins_1 ?_
  refine lv_iload_n hx hb dX6_joins_4 rfl (lv_at hl 1 rfl) ?_
  obtain ⟨v1, hv, hf⟩ := obd hf
  have hp1 : List.Perm [oX6 h0 r0, oX1 ty (r0 1) a1 z1, oX0 ty (r0 5) aa5 z5] ([oX1 ty (r0 1) a1 z1] ++ [oX6 h0 r0, oX0 ty (r0 5) aa5 z5]) := ((List.perm_middle (a := (oX1 ty (r0 1) a1 z1 : va_W)) (l₁ := ([oX6 h0 r0] : List va_W)) (l₂ := ([oX0 ty (r0 5) aa5 z5] : List va_W))) : List.Perm ([oX6 h0 r0, oX1 ty (r0 1) a1 z1, oX0 ty (r0 5) aa5 z5] : List va_W) ([oX1 ty (r0 1) a1 z1, oX6 h0 r0, oX0 ty (r0 5) aa5 z5] : List va_W))
  refine ci_call (out := v1) (os := [oX6 h0 r0, oX1 ty (r0 1) a1 z1, oX0 ty (r0 5) aa5 z5]) (oc := [oX1 ty (r0 1) a1 z1]) (oc' := [oX1 ty (r0 1) a1 z1]) (or_ := [oX6 h0 r0, oX0 ty (r0 5) aa5 z5]) (os' := [oX6 h0 r0, oX1 ty (r0 1) a1 z1, oX0 ty (r0 5) aa5 z5]) (va_runV (As := [.int p1]) (rest := []) F (c_X1_has l D ty (r0 1) a1 _ _ _ hv _) (cwV 1 F.2.2.2.2 gX6_joins_X1_has rfl rfl rfl ⟨rfl, hd_X1_has⟩ ⟨Nat.le_of_ble_eq_true rfl, Nat.le_of_ble_eq_true rfl⟩) (pre_v hK hP hD hp1 rfl rfl rfl) rfl rfl hl.1 rfl (lv_room (Nat.le_of_ble_eq_true rfl)) dX6_joins_5 ⟨Nat.zero_le _, Nat.zero_le _⟩) hp1 ((List.perm_middle (a := (oX6 h0 r0 : va_W)) (l₁ := ([oX1 ty (r0 1) a1 z1] : List va_W)) (l₂ := ([oX0 ty (r0 5) aa5 z5] : List va_W))) : List.Perm ([oX1 ty (r0 1) a1 z1, oX6 h0 r0, oX0 ty (r0 5) aa5 z5] : List va_W) ([oX6 h0 r0, oX1 ty (r0 1) a1 z1, oX0 ty (r0 5) aa5 z5] : List va_W)) hP hD hS hA (fun H locs hP hD hS => ?_)
  clear hp1 hv
  refine lv_if_eq (tgt := 22) hx hb dX6_joins_8 (by decide) (fun hc => ?_) (fun hc => ?_)
  · replace hf := ite_t hf hc
    refine lv_iconst (v := (-1 : Int32)) hx hb dX6_joins_22 (by decide) ?_
    obtain hf := hf
    obtain ⟨e0, e1, e2⟩ := tup3 hf
    rw [e1] at hP hD
    rw [e2] at hP hD
    exact CX_i F hr hlk hP hD hS e0 dX6_joins_23
  · replace hf := ite_f hf hc
    refine lv_aload_n hx hb dX6_joins_11 rfl (lv_at hl 0 rfl) ?_
    refine va_get (D := D) (ci := 6) (C := RX6) (T := TX6) (N := 8) hx hb F.2.2.2.2 in_X6_joins_X6 F.2.2.2.1 hK.1 hP 0 rfl rfl 1 (Nat.le_of_ble_eq_true rfl) (F.2.2.2.2 (.fieldLink RX6 19 "LouderRoom" "now" "LLouderRoom$Crowd;") (List.mem_of_getElem? (i := 1) rfl)) (fun _ h9 => h9) rfl dX6_joins_12 ?_
    refine lv_iload_n hx hb dX6_joins_15 rfl (lv_at hl 2 rfl) ?_
    obtain ⟨v2, hv, hf⟩ := obd hf
    have hp1 : List.Perm [oX6 h0 r0, oX1 ty (r0 1) a1 z1, oX0 ty (r0 5) aa5 z5] ([oX1 ty (r0 1) a1 z1] ++ [oX6 h0 r0, oX0 ty (r0 5) aa5 z5]) := ((List.perm_middle (a := (oX1 ty (r0 1) a1 z1 : va_W)) (l₁ := ([oX6 h0 r0] : List va_W)) (l₂ := ([oX0 ty (r0 5) aa5 z5] : List va_W))) : List.Perm ([oX6 h0 r0, oX1 ty (r0 1) a1 z1, oX0 ty (r0 5) aa5 z5] : List va_W) ([oX1 ty (r0 1) a1 z1, oX6 h0 r0, oX0 ty (r0 5) aa5 z5] : List va_W))
    refine ci_call (out := v2) (os := [oX6 h0 r0, oX1 ty (r0 1) a1 z1, oX0 ty (r0 5) aa5 z5]) (oc := [oX1 ty (r0 1) a1 z1]) (oc' := [oX1 ty (r0 1) a1 z1]) (or_ := [oX6 h0 r0, oX0 ty (r0 5) aa5 z5]) (os' := [oX6 h0 r0, oX1 ty (r0 1) a1 z1, oX0 ty (r0 5) aa5 z5]) (va_runV (As := [.int p2]) (rest := []) F (c_X1_has l D ty (r0 1) a1 _ _ _ hv _) (cwV 1 F.2.2.2.2 gX6_joins_X1_has rfl rfl rfl ⟨rfl, hd_X1_has⟩ ⟨Nat.le_of_ble_eq_true rfl, Nat.le_of_ble_eq_true rfl⟩) (pre_v hK hP hD hp1 rfl rfl rfl) rfl rfl hl.1 rfl (lv_room (Nat.le_of_ble_eq_true rfl)) dX6_joins_16 ⟨Nat.zero_le _, Nat.zero_le _⟩) hp1 ((List.perm_middle (a := (oX6 h0 r0 : va_W)) (l₁ := ([oX1 ty (r0 1) a1 z1] : List va_W)) (l₂ := ([oX0 ty (r0 5) aa5 z5] : List va_W))) : List.Perm ([oX1 ty (r0 1) a1 z1, oX6 h0 r0, oX0 ty (r0 5) aa5 z5] : List va_W) ([oX6 h0 r0, oX1 ty (r0 1) a1 z1, oX0 ty (r0 5) aa5 z5] : List va_W)) hP hD hS hA (fun H locs hP hD hS => ?_)
    clear hp1 hv
    refine lv_if_ne (tgt := 24) hx hb dX6_joins_19 (by decide) (fun hc => ?_) (fun hc => ?_)
    · replace hf := ite_f hf hc
      refine lv_iload_n hx hb dX6_joins_24 rfl (lv_at hl 1 rfl) ?_
      refine lv_iload_n hx hb dX6_joins_25 rfl (lv_at hl 2 rfl) ?_
      refine lv_icmp_ne (tgt := 32) hx hb dX6_joins_26 (by decide) (fun hc => ?_) (fun hc => ?_)
      · replace hf := ite_f hf hc
        refine lv_aload_n hx hb dX6_joins_32 rfl (lv_at hl 0 rfl) ?_
        refine va_get (D := D) (ci := 6) (C := RX6) (T := TX6) (N := 8) hx hb F.2.2.2.2 in_X6_joins_X6 F.2.2.2.1 hK.1 hP 0 rfl rfl 1 (Nat.le_of_ble_eq_true rfl) (F.2.2.2.2 (.fieldLink RX6 19 "LouderRoom" "now" "LLouderRoom$Crowd;") (List.mem_of_getElem? (i := 1) rfl)) (fun _ h9 => h9) rfl dX6_joins_33 ?_
        refine va_getN (D := D) (ci := 1) (C := RX1) (T := TX1) (N := 12) hx hb F.2.2.2.2 in_X6_joins_X1 F.2.2.2.1 hK.1 hP 1 rfl rfl 2 (Nat.le_of_ble_eq_true rfl) (KN.use hK 5 (w := .fieldLinkNest RX6 120 "LouderRoom$Crowd" "people" "[I" "LouderRoom") rfl _) (fun _ h9 => h9) rfl dX6_joins_36 ?_
        refine lv_iload_n hx hb dX6_joins_39 rfl (lv_at hl 1 rfl) ?_
        obtain ⟨hi, hf⟩ := grd hf
        refine va_iald hx hb hK.1 hP 4 0 rfl rfl (inb_in hi) dX6_joins_40 ?_
        refine lv_aload_n hx hb dX6_joins_41 rfl (lv_at hl 0 rfl) ?_
        refine va_get (D := D) (ci := 6) (C := RX6) (T := TX6) (N := 8) hx hb F.2.2.2.2 in_X6_joins_X6 F.2.2.2.1 hK.1 hP 0 rfl rfl 1 (Nat.le_of_ble_eq_true rfl) (F.2.2.2.2 (.fieldLink RX6 19 "LouderRoom" "now" "LLouderRoom$Crowd;") (List.mem_of_getElem? (i := 1) rfl)) (fun _ h9 => h9) rfl dX6_joins_42 ?_
        refine va_getN (D := D) (ci := 1) (C := RX1) (T := TX1) (N := 12) hx hb F.2.2.2.2 in_X6_joins_X1 F.2.2.2.1 hK.1 hP 1 rfl rfl 2 (Nat.le_of_ble_eq_true rfl) (KN.use hK 5 (w := .fieldLinkNest RX6 120 "LouderRoom$Crowd" "people" "[I" "LouderRoom") rfl _) (fun _ h9 => h9) rfl dX6_joins_45 ?_
        refine lv_iload_n hx hb dX6_joins_48 rfl (lv_at hl 2 rfl) ?_
        obtain ⟨hi, hf⟩ := grd hf
        refine va_iald hx hb hK.1 hP 4 0 rfl rfl (inb_in hi) dX6_joins_49 ?_
        refine lv_iadd hx hb dX6_joins_50 ?_
        refine lv_topi (fun x3 ex => ?_)
        replace hf := bnd_at hf ex; clear ex
        refine lv_istore_n (lv' := [(3, .int x3), (0, .ref h0), (1, .int p1), (2, .int p2)]) hx hb dX6_joins_51 rfl hl (by decide) rfl (fun ls hl => ?_)
        refine lv_iload_n hx hb dX6_joins_52 rfl (lv_at hl 0 rfl) ?_
        refine lv_bipush (v := (9 : Int32)) hx hb dX6_joins_53 (by decide) ?_
        refine lv_icmp_le (tgt := 61) hx hb dX6_joins_55 (by decide) (fun hc => ?_) (fun hc => ?_)
        · replace hf := ite_t hf hc
          refine lv_aload_n hx hb dX6_joins_61 rfl (lv_at hl 1 rfl) ?_
          refine va_get (D := D) (ci := 6) (C := RX6) (T := TX6) (N := 8) hx hb F.2.2.2.2 in_X6_joins_X6 F.2.2.2.1 hK.1 hP 0 rfl rfl 5 (Nat.le_of_ble_eq_true rfl) (F.2.2.2.2 (.fieldLink RX6 39 "LouderRoom" "acts" "LLouderRoom$Acts;") (List.mem_of_getElem? (i := 2) rfl)) (fun _ h9 => h9) rfl dX6_joins_62 ?_
          refine lv_aload_n hx hb dX6_joins_65 rfl (lv_at hl 1 rfl) ?_
          refine va_get (D := D) (ci := 6) (C := RX6) (T := TX6) (N := 8) hx hb F.2.2.2.2 in_X6_joins_X6 F.2.2.2.1 hK.1 hP 0 rfl rfl 1 (Nat.le_of_ble_eq_true rfl) (F.2.2.2.2 (.fieldLink RX6 19 "LouderRoom" "now" "LLouderRoom$Crowd;") (List.mem_of_getElem? (i := 1) rfl)) (fun _ h9 => h9) rfl dX6_joins_66 ?_
          obtain ⟨g4, hv, hf⟩ := obd hf
          have hp1 : List.Perm [oX6 h0 r0, oX1 ty (r0 1) a1 z1, oX0 ty (r0 5) aa5 z5] ([oX0 ty (r0 5) aa5 z5, oX1 ty (r0 1) a1 z1] ++ [oX6 h0 r0]) := (((List.perm_middle (a := (oX0 ty (r0 5) aa5 z5 : va_W)) (l₁ := ([oX6 h0 r0, oX1 ty (r0 1) a1 z1] : List va_W)) (l₂ := ([] : List va_W))).trans (List.Perm.cons _ (List.perm_middle (a := (oX1 ty (r0 1) a1 z1 : va_W)) (l₁ := ([oX6 h0 r0] : List va_W)) (l₂ := ([] : List va_W))))) : List.Perm ([oX6 h0 r0, oX1 ty (r0 1) a1 z1, oX0 ty (r0 5) aa5 z5] : List va_W) ([oX0 ty (r0 5) aa5 z5, oX1 ty (r0 1) a1 z1, oX6 h0 r0] : List va_W))
          refine cv_call (os := [oX6 h0 r0, oX1 ty (r0 1) a1 z1, oX0 ty (r0 5) aa5 z5]) (oc := [oX0 ty (r0 5) aa5 z5, oX1 ty (r0 1) a1 z1]) (oc' := [oX0 ty (r0 5) aa5 g4, oX1 ty (r0 1) a1 z1]) (or_ := [oX6 h0 r0]) (os' := [oX6 h0 r0, oX1 ty (r0 1) a1 z1, oX0 ty (r0 5) aa5 g4]) (va_runV (As := [.ref (r0 1)]) (rest := []) F (c_X0_add l D ty (r0 5) aa5 (r0 1) a1 _ _ _ hv _) (cwV 1 F.2.2.2.2 gX6_joins_X0_add rfl rfl rfl ⟨rfl, hd_X0_add⟩ ⟨Nat.le_of_ble_eq_true rfl, Nat.le_of_ble_eq_true rfl⟩) (pre_v hK hP hD hp1 rfl rfl rfl) rfl rfl hl.1 rfl (lv_room (Nat.le_of_ble_eq_true rfl)) dX6_joins_69 ⟨Nat.zero_le _, Nat.zero_le _⟩) hp1 (((List.perm_middle (a := (oX6 h0 r0 : va_W)) (l₁ := ([oX0 ty (r0 5) aa5 g4, oX1 ty (r0 1) a1 z1] : List va_W)) (l₂ := ([] : List va_W))).trans (List.Perm.cons _ (List.perm_middle (a := (oX1 ty (r0 1) a1 z1 : va_W)) (l₁ := ([oX0 ty (r0 5) aa5 g4] : List va_W)) (l₂ := ([] : List va_W))))) : List.Perm ([oX0 ty (r0 5) aa5 g4, oX1 ty (r0 1) a1 z1, oX6 h0 r0] : List va_W) ([oX6 h0 r0, oX1 ty (r0 1) a1 z1, oX0 ty (r0 5) aa5 g4] : List va_W)) hP hD hS hA (fun H locs hP hD hS => ?_)
          clear hp1 hv
          refine lv_aload_n hx hb dX6_joins_72 rfl (lv_at hl 1 rfl) ?_
          refine va_get (D := D) (ci := 6) (C := RX6) (T := TX6) (N := 8) hx hb F.2.2.2.2 in_X6_joins_X6 F.2.2.2.1 hK.1 hP 0 rfl rfl 1 (Nat.le_of_ble_eq_true rfl) (F.2.2.2.2 (.fieldLink RX6 19 "LouderRoom" "now" "LLouderRoom$Crowd;") (List.mem_of_getElem? (i := 1) rfl)) (fun _ h9 => h9) rfl dX6_joins_73 ?_
          refine va_getN (D := D) (ci := 1) (C := RX1) (T := TX1) (N := 12) hx hb F.2.2.2.2 in_X6_joins_X1 F.2.2.2.1 hK.1 hP 1 rfl rfl 2 (Nat.le_of_ble_eq_true rfl) (KN.use hK 5 (w := .fieldLinkNest RX6 120 "LouderRoom$Crowd" "people" "[I" "LouderRoom") rfl _) (fun _ h9 => h9) rfl dX6_joins_76 ?_
          refine lv_iload_n hx hb dX6_joins_79 rfl (lv_at hl 2 rfl) ?_
          refine lv_iload_n hx hb dX6_joins_80 rfl (lv_at hl 0 rfl) ?_
          obtain ⟨hi, hf⟩ := grd hf
          refine pt_iast (w1 := fl [oX6 h0 r0, oX1 ty (r0 1) a1 (sA z1 2 (upd (z1.2 2) p1.toNatClampNeg x3)), oX0 ty (r0 5) aa5 g4]) F hK.1 hP hD hS 4 0 rfl rfl (inb_in hi) rfl dX6_joins_81 (fun H locs hP hD hS => ?_)
          obtain ⟨g5, ex⟩ : ∃ y : Ob, y = (sA z1 2 (upd (z1.2 2) p1.toNatClampNeg x3)) := ⟨_, rfl⟩
          replace hf := bnd_at hf ex; rw [← ex] at hP hD; clear ex
          refine lv_aload_n hx hb dX6_joins_82 rfl (lv_at hl 1 rfl) ?_
          refine va_get (D := D) (ci := 6) (C := RX6) (T := TX6) (N := 8) hx hb F.2.2.2.2 in_X6_joins_X6 F.2.2.2.1 hK.1 hP 0 rfl rfl 1 (Nat.le_of_ble_eq_true rfl) (F.2.2.2.2 (.fieldLink RX6 19 "LouderRoom" "now" "LLouderRoom$Crowd;") (List.mem_of_getElem? (i := 1) rfl)) (fun _ h9 => h9) rfl dX6_joins_83 ?_
          refine lv_iload_n hx hb dX6_joins_86 rfl (lv_at hl 3 rfl) ?_
          obtain ⟨g6, hv, hf⟩ := obd hf
          have hp1 : List.Perm [oX6 h0 r0, oX1 ty (r0 1) a1 g5, oX0 ty (r0 5) aa5 g4] ([oX1 ty (r0 1) a1 g5] ++ [oX6 h0 r0, oX0 ty (r0 5) aa5 g4]) := ((List.perm_middle (a := (oX1 ty (r0 1) a1 g5 : va_W)) (l₁ := ([oX6 h0 r0] : List va_W)) (l₂ := ([oX0 ty (r0 5) aa5 g4] : List va_W))) : List.Perm ([oX6 h0 r0, oX1 ty (r0 1) a1 g5, oX0 ty (r0 5) aa5 g4] : List va_W) ([oX1 ty (r0 1) a1 g5, oX6 h0 r0, oX0 ty (r0 5) aa5 g4] : List va_W))
          refine cv_call (os := [oX6 h0 r0, oX1 ty (r0 1) a1 g5, oX0 ty (r0 5) aa5 g4]) (oc := [oX1 ty (r0 1) a1 g5]) (oc' := [oX1 ty (r0 1) a1 g6]) (or_ := [oX6 h0 r0, oX0 ty (r0 5) aa5 g4]) (os' := [oX6 h0 r0, oX1 ty (r0 1) a1 g6, oX0 ty (r0 5) aa5 g4]) (va_runV (As := [.int p2]) (rest := []) F (c_X1_remove l D ty (r0 1) a1 _ _ _ hv _) (cwV 1 F.2.2.2.2 gX6_joins_X1_remove rfl rfl rfl ⟨rfl, hd_X1_remove⟩ ⟨Nat.le_of_ble_eq_true rfl, Nat.le_of_ble_eq_true rfl⟩) (pre_v hK hP hD hp1 rfl rfl rfl) rfl rfl hl.1 rfl (lv_room (Nat.le_of_ble_eq_true rfl)) dX6_joins_87 ⟨Nat.zero_le _, Nat.zero_le _⟩) hp1 ((List.perm_middle (a := (oX6 h0 r0 : va_W)) (l₁ := ([oX1 ty (r0 1) a1 g6] : List va_W)) (l₂ := ([oX0 ty (r0 5) aa5 g4] : List va_W))) : List.Perm ([oX1 ty (r0 1) a1 g6, oX6 h0 r0, oX0 ty (r0 5) aa5 g4] : List va_W) ([oX6 h0 r0, oX1 ty (r0 1) a1 g6, oX0 ty (r0 5) aa5 g4] : List va_W)) hP hD hS hA (fun H locs hP hD hS => ?_)
          clear hp1 hv
          refine lv_iload_n hx hb dX6_joins_90 rfl (lv_at hl 0 rfl) ?_
          obtain hf := hf
          obtain ⟨e0, e1, e2⟩ := tup3 hf
          rw [e1] at hP hD
          rw [e2] at hP hD
          exact CX_i F hr hlk hP hD hS e0 dX6_joins_91
        · replace hf := ite_f hf hc
          refine lv_bipush (v := (-4 : Int32)) hx hb dX6_joins_58 (by decide) ?_
          obtain hf := hf
          obtain ⟨e0, e1, e2⟩ := tup3 hf
          rw [e1] at hP hD
          rw [e2] at hP hD
          exact CX_i F hr hlk hP hD hS e0 dX6_joins_60
      · replace hf := ite_t hf hc
        refine lv_bipush (v := (-2 : Int32)) hx hb dX6_joins_29 (by decide) ?_
        obtain hf := hf
        obtain ⟨e0, e1, e2⟩ := tup3 hf
        rw [e1] at hP hD
        rw [e2] at hP hD
        exact CX_i F hr hlk hP hD hS e0 dX6_joins_31
    · replace hf := ite_t hf hc
      refine lv_iconst (v := (-1 : Int32)) hx hb dX6_joins_22 (by decide) ?_
      obtain hf := hf
      obtain ⟨e0, e1, e2⟩ := tup3 hf
      rw [e1] at hP hD
      rw [e2] at hP hD
      exact CX_i F hr hlk hP hD hS e0 dX6_joins_23
def f_X6_home (z1 : Ob) (z5 : AS) (p1 : Int32) : Option (Int32 × Ob × AS) := (f_X1_has z1 p1).bind (fun v1 => (if v1 = 0 then some ((-1 : Int32), z1, z5) else (f_X0_add z5 z1).bind (fun g2 => (f_X1_remove z1 p1).bind (fun g3 => some ((g3.1 6), g3, g2)))))
abbrev rm_X6_home : Room := { frames := 2, cells := 0, slots := 0, locals := 43 }
theorem hd_X6_home : yX6_home.cls ≠ "java/lang/invoke/MethodHandle" ∧ yX6_home.cls ≠ "java/lang/invoke/VarHandle" ∧ (parseMethodDescriptor yX6_home.desc).map (fun d => d.parameters.length) = some 1 := by decide +kernel
theorem in_X6_home_X6 : ∀ w ∈ wsX60, w ∈ wsX6_home := fun w h => List.mem_cons_of_mem _ (List.mem_append_left _ (List.mem_append_left _ (List.mem_append_right _ h)))
theorem in_X6_home_X1 : ∀ w ∈ wsX10, w ∈ wsX6_home := fun w h => List.mem_cons_of_mem _ (List.mem_append_left _ (List.mem_append_right _ h))
set_option maxHeartbeats 4000000 in
set_option maxRecDepth 100000 in
theorem c_X6_home (l : Launch) (D : va_G) (ty : TY) (h0 : Nat) (r0 : Nat → Nat) (a1 : Nat → Nat) (aa5 : Nat) (z1 : Ob) (z5 : AS) (p1 : Int32) (o0 : Int32) (o1 : Ob) (o2 : AS) (hf : f_X6_home z1 z5 p1 = some (o0, o1, o2)) (sz : Nat) : CX l yX6_home wsX6_home rm_X6_home ([.ref h0, .int p1] : List Value) D ty (fl [oX6 h0 r0, oX1 ty (r0 1) a1 z1, oX0 ty (r0 5) aa5 z5]) sz (qI D o0 (fl [oX6 h0 r0, oX1 ty (r0 1) a1 o1, oX0 ty (r0 5) aa5 o2])) 0 0 := by
  refine CX_of (cc := cX6_home) (maxL := 2) (ret := (some .int)) (C := RX6) (by decide) rfl rfl (Nat.le_of_ble_eq_true rfl) ?_
  intro p e s m below meth c A ls F hr hlk _ hK hP hD hS hA hl
  have hx := F.1
  have hb := F.2.1
  replace hl : lv_has ls 2 [(0, .ref h0), (1, .int p1)] := hl
  unfold f_X6_home at hf
  refine lv_aload_n hx hb dX6_home_0 rfl (lv_at hl 0 rfl) ?_
  refine va_get (D := D) (ci := 6) (C := RX6) (T := TX6) (N := 8) hx hb F.2.2.2.2 in_X6_home_X6 F.2.2.2.1 hK.1 hP 0 rfl rfl 1 (Nat.le_of_ble_eq_true rfl) (F.2.2.2.2 (.fieldLink RX6 19 "LouderRoom" "now" "LLouderRoom$Crowd;") (List.mem_of_getElem? (i := 1) rfl)) (fun _ h9 => h9) rfl dX6_home_1 ?_
  refine lv_iload_n hx hb dX6_home_4 rfl (lv_at hl 1 rfl) ?_
  obtain ⟨v1, hv, hf⟩ := obd hf
  have hp1 : List.Perm [oX6 h0 r0, oX1 ty (r0 1) a1 z1, oX0 ty (r0 5) aa5 z5] ([oX1 ty (r0 1) a1 z1] ++ [oX6 h0 r0, oX0 ty (r0 5) aa5 z5]) := ((List.perm_middle (a := (oX1 ty (r0 1) a1 z1 : va_W)) (l₁ := ([oX6 h0 r0] : List va_W)) (l₂ := ([oX0 ty (r0 5) aa5 z5] : List va_W))) : List.Perm ([oX6 h0 r0, oX1 ty (r0 1) a1 z1, oX0 ty (r0 5) aa5 z5] : List va_W) ([oX1 ty (r0 1) a1 z1, oX6 h0 r0, oX0 ty (r0 5) aa5 z5] : List va_W))
  refine ci_call (out := v1) (os := [oX6 h0 r0, oX1 ty (r0 1) a1 z1, oX0 ty (r0 5) aa5 z5]) (oc := [oX1 ty (r0 1) a1 z1]) (oc' := [oX1 ty (r0 1) a1 z1]) (or_ := [oX6 h0 r0, oX0 ty (r0 5) aa5 z5]) (os' := [oX6 h0 r0, oX1 ty (r0 1) a1 z1, oX0 ty (r0 5) aa5 z5]) (va_runV (As := [.int p1]) (rest := []) F (c_X1_has l D ty (r0 1) a1 _ _ _ hv _) (cwV 1 F.2.2.2.2 gX6_home_X1_has rfl rfl rfl ⟨rfl, hd_X1_has⟩ ⟨Nat.le_of_ble_eq_true rfl, Nat.le_of_ble_eq_true rfl⟩) (pre_v hK hP hD hp1 rfl rfl rfl) rfl rfl hl.1 rfl (lv_room (Nat.le_of_ble_eq_true rfl)) dX6_home_5 ⟨Nat.zero_le _, Nat.zero_le _⟩) hp1 ((List.perm_middle (a := (oX6 h0 r0 : va_W)) (l₁ := ([oX1 ty (r0 1) a1 z1] : List va_W)) (l₂ := ([oX0 ty (r0 5) aa5 z5] : List va_W))) : List.Perm ([oX1 ty (r0 1) a1 z1, oX6 h0 r0, oX0 ty (r0 5) aa5 z5] : List va_W) ([oX6 h0 r0, oX1 ty (r0 1) a1 z1, oX0 ty (r0 5) aa5 z5] : List va_W)) hP hD hS hA (fun H locs hP hD hS => ?_)
  clear hp1 hv
  refine lv_if_ne (tgt := 13) hx hb dX6_home_8 (by decide) (fun hc => ?_) (fun hc => ?_)
  · replace hf := ite_f hf hc
    refine lv_aload_n hx hb dX6_home_13 rfl (lv_at hl 0 rfl) ?_
    refine va_get (D := D) (ci := 6) (C := RX6) (T := TX6) (N := 8) hx hb F.2.2.2.2 in_X6_home_X6 F.2.2.2.1 hK.1 hP 0 rfl rfl 5 (Nat.le_of_ble_eq_true rfl) (F.2.2.2.2 (.fieldLink RX6 39 "LouderRoom" "acts" "LLouderRoom$Acts;") (List.mem_of_getElem? (i := 2) rfl)) (fun _ h9 => h9) rfl dX6_home_14 ?_
    refine lv_aload_n hx hb dX6_home_17 rfl (lv_at hl 0 rfl) ?_
    refine va_get (D := D) (ci := 6) (C := RX6) (T := TX6) (N := 8) hx hb F.2.2.2.2 in_X6_home_X6 F.2.2.2.1 hK.1 hP 0 rfl rfl 1 (Nat.le_of_ble_eq_true rfl) (F.2.2.2.2 (.fieldLink RX6 19 "LouderRoom" "now" "LLouderRoom$Crowd;") (List.mem_of_getElem? (i := 1) rfl)) (fun _ h9 => h9) rfl dX6_home_18 ?_
    obtain ⟨g2, hv, hf⟩ := obd hf
    have hp1 : List.Perm [oX6 h0 r0, oX1 ty (r0 1) a1 z1, oX0 ty (r0 5) aa5 z5] ([oX0 ty (r0 5) aa5 z5, oX1 ty (r0 1) a1 z1] ++ [oX6 h0 r0]) := (((List.perm_middle (a := (oX0 ty (r0 5) aa5 z5 : va_W)) (l₁ := ([oX6 h0 r0, oX1 ty (r0 1) a1 z1] : List va_W)) (l₂ := ([] : List va_W))).trans (List.Perm.cons _ (List.perm_middle (a := (oX1 ty (r0 1) a1 z1 : va_W)) (l₁ := ([oX6 h0 r0] : List va_W)) (l₂ := ([] : List va_W))))) : List.Perm ([oX6 h0 r0, oX1 ty (r0 1) a1 z1, oX0 ty (r0 5) aa5 z5] : List va_W) ([oX0 ty (r0 5) aa5 z5, oX1 ty (r0 1) a1 z1, oX6 h0 r0] : List va_W))
    refine cv_call (os := [oX6 h0 r0, oX1 ty (r0 1) a1 z1, oX0 ty (r0 5) aa5 z5]) (oc := [oX0 ty (r0 5) aa5 z5, oX1 ty (r0 1) a1 z1]) (oc' := [oX0 ty (r0 5) aa5 g2, oX1 ty (r0 1) a1 z1]) (or_ := [oX6 h0 r0]) (os' := [oX6 h0 r0, oX1 ty (r0 1) a1 z1, oX0 ty (r0 5) aa5 g2]) (va_runV (As := [.ref (r0 1)]) (rest := []) F (c_X0_add l D ty (r0 5) aa5 (r0 1) a1 _ _ _ hv _) (cwV 1 F.2.2.2.2 gX6_home_X0_add rfl rfl rfl ⟨rfl, hd_X0_add⟩ ⟨Nat.le_of_ble_eq_true rfl, Nat.le_of_ble_eq_true rfl⟩) (pre_v hK hP hD hp1 rfl rfl rfl) rfl rfl hl.1 rfl (lv_room (Nat.le_of_ble_eq_true rfl)) dX6_home_21 ⟨Nat.zero_le _, Nat.zero_le _⟩) hp1 (((List.perm_middle (a := (oX6 h0 r0 : va_W)) (l₁ := ([oX0 ty (r0 5) aa5 g2, oX1 ty (r0 1) a1 z1] : List va_W)) (l₂ := ([] : List va_W))).trans (List.Perm.cons _ (List.perm_middle (a := (oX1 ty (r0 1) a1 z1 : va_W)) (l₁ := ([oX0 ty (r0 5) aa5 g2] : List va_W)) (l₂ := ([] : List va_W))))) : List.Perm ([oX0 ty (r0 5) aa5 g2, oX1 ty (r0 1) a1 z1, oX6 h0 r0] : List va_W) ([oX6 h0 r0, oX1 ty (r0 1) a1 z1, oX0 ty (r0 5) aa5 g2] : List va_W)) hP hD hS hA (fun H locs hP hD hS => ?_)
    clear hp1 hv
    refine lv_aload_n hx hb dX6_home_24 rfl (lv_at hl 0 rfl) ?_
    refine va_get (D := D) (ci := 6) (C := RX6) (T := TX6) (N := 8) hx hb F.2.2.2.2 in_X6_home_X6 F.2.2.2.1 hK.1 hP 0 rfl rfl 1 (Nat.le_of_ble_eq_true rfl) (F.2.2.2.2 (.fieldLink RX6 19 "LouderRoom" "now" "LLouderRoom$Crowd;") (List.mem_of_getElem? (i := 1) rfl)) (fun _ h9 => h9) rfl dX6_home_25 ?_
    refine lv_iload_n hx hb dX6_home_28 rfl (lv_at hl 1 rfl) ?_
    obtain ⟨g3, hv, hf⟩ := obd hf
    have hp1 : List.Perm [oX6 h0 r0, oX1 ty (r0 1) a1 z1, oX0 ty (r0 5) aa5 g2] ([oX1 ty (r0 1) a1 z1] ++ [oX6 h0 r0, oX0 ty (r0 5) aa5 g2]) := ((List.perm_middle (a := (oX1 ty (r0 1) a1 z1 : va_W)) (l₁ := ([oX6 h0 r0] : List va_W)) (l₂ := ([oX0 ty (r0 5) aa5 g2] : List va_W))) : List.Perm ([oX6 h0 r0, oX1 ty (r0 1) a1 z1, oX0 ty (r0 5) aa5 g2] : List va_W) ([oX1 ty (r0 1) a1 z1, oX6 h0 r0, oX0 ty (r0 5) aa5 g2] : List va_W))
    refine cv_call (os := [oX6 h0 r0, oX1 ty (r0 1) a1 z1, oX0 ty (r0 5) aa5 g2]) (oc := [oX1 ty (r0 1) a1 z1]) (oc' := [oX1 ty (r0 1) a1 g3]) (or_ := [oX6 h0 r0, oX0 ty (r0 5) aa5 g2]) (os' := [oX6 h0 r0, oX1 ty (r0 1) a1 g3, oX0 ty (r0 5) aa5 g2]) (va_runV (As := [.int p1]) (rest := []) F (c_X1_remove l D ty (r0 1) a1 _ _ _ hv _) (cwV 1 F.2.2.2.2 gX6_home_X1_remove rfl rfl rfl ⟨rfl, hd_X1_remove⟩ ⟨Nat.le_of_ble_eq_true rfl, Nat.le_of_ble_eq_true rfl⟩) (pre_v hK hP hD hp1 rfl rfl rfl) rfl rfl hl.1 rfl (lv_room (Nat.le_of_ble_eq_true rfl)) dX6_home_29 ⟨Nat.zero_le _, Nat.zero_le _⟩) hp1 ((List.perm_middle (a := (oX6 h0 r0 : va_W)) (l₁ := ([oX1 ty (r0 1) a1 g3] : List va_W)) (l₂ := ([oX0 ty (r0 5) aa5 g2] : List va_W))) : List.Perm ([oX1 ty (r0 1) a1 g3, oX6 h0 r0, oX0 ty (r0 5) aa5 g2] : List va_W) ([oX6 h0 r0, oX1 ty (r0 1) a1 g3, oX0 ty (r0 5) aa5 g2] : List va_W)) hP hD hS hA (fun H locs hP hD hS => ?_)
    clear hp1 hv
    refine lv_aload_n hx hb dX6_home_32 rfl (lv_at hl 0 rfl) ?_
    refine va_get (D := D) (ci := 6) (C := RX6) (T := TX6) (N := 8) hx hb F.2.2.2.2 in_X6_home_X6 F.2.2.2.1 hK.1 hP 0 rfl rfl 1 (Nat.le_of_ble_eq_true rfl) (F.2.2.2.2 (.fieldLink RX6 19 "LouderRoom" "now" "LLouderRoom$Crowd;") (List.mem_of_getElem? (i := 1) rfl)) (fun _ h9 => h9) rfl dX6_home_33 ?_
    refine va_getN (D := D) (ci := 1) (C := RX1) (T := TX1) (N := 12) hx hb F.2.2.2.2 in_X6_home_X1 F.2.2.2.1 hK.1 hP 1 rfl rfl 6 (Nat.le_of_ble_eq_true rfl) (KN.use hK 9 (w := .fieldLinkNest RX6 79 "LouderRoom$Crowd" "rings" "I" "LouderRoom") rfl _) (fun _ h9 => h9) rfl dX6_home_36 ?_
    obtain hf := hf
    obtain ⟨e0, e1, e2⟩ := tup3 hf
    rw [e1] at hP hD
    rw [e2] at hP hD
    exact CX_i F hr hlk hP hD hS e0 dX6_home_39
  · replace hf := ite_t hf hc
    refine lv_iconst (v := (-1 : Int32)) hx hb dX6_home_11 (by decide) ?_
    obtain hf := hf
    obtain ⟨e0, e1, e2⟩ := tup3 hf
    rw [e1] at hP hD
    rw [e2] at hP hD
    exact CX_i F hr hlk hP hD hS e0 dX6_home_12
def f_X6_hush (z1 : Ob) (z5 : AS) : Option (Int32 × Ob × AS) := (f_X0_add z5 z1).bind (fun g1 => bd2 (f_X1_speakAll z1 (1 : Int32)) (fun v2 g3 => some (v2, g3, g1)))
abbrev rm_X6_hush : Room := { frames := 2, cells := 0, slots := 0, locals := 43 }
theorem hd_X6_hush : yX6_hush.cls ≠ "java/lang/invoke/MethodHandle" ∧ yX6_hush.cls ≠ "java/lang/invoke/VarHandle" ∧ (parseMethodDescriptor yX6_hush.desc).map (fun d => d.parameters.length) = some 0 := by decide +kernel
theorem in_X6_hush_X6 : ∀ w ∈ wsX60, w ∈ wsX6_hush := fun w h => List.mem_cons_of_mem _ (List.mem_append_left _ (List.mem_append_left _ (List.mem_append_right _ h)))
set_option maxHeartbeats 4000000 in
set_option maxRecDepth 100000 in
theorem c_X6_hush (l : Launch) (D : va_G) (ty : TY) (h0 : Nat) (r0 : Nat → Nat) (a1 : Nat → Nat) (aa5 : Nat) (z1 : Ob) (z5 : AS) (o0 : Int32) (o1 : Ob) (o2 : AS) (hf : f_X6_hush z1 z5 = some (o0, o1, o2)) (sz : Nat) : CX l yX6_hush wsX6_hush rm_X6_hush ([.ref h0] : List Value) D ty (fl [oX6 h0 r0, oX1 ty (r0 1) a1 z1, oX0 ty (r0 5) aa5 z5]) sz (qI D o0 (fl [oX6 h0 r0, oX1 ty (r0 1) a1 o1, oX0 ty (r0 5) aa5 o2])) 0 0 := by
  refine CX_of (cc := cX6_hush) (maxL := 1) (ret := (some .int)) (C := RX6) (by decide) rfl rfl (Nat.le_of_ble_eq_true rfl) ?_
  intro p e s m below meth c A ls F hr hlk _ hK hP hD hS hA hl
  have hx := F.1
  have hb := F.2.1
  replace hl : lv_has ls 1 [(0, .ref h0)] := hl
  unfold f_X6_hush at hf
  refine lv_aload_n hx hb dX6_hush_0 rfl (lv_at hl 0 rfl) ?_
  refine va_get (D := D) (ci := 6) (C := RX6) (T := TX6) (N := 8) hx hb F.2.2.2.2 in_X6_hush_X6 F.2.2.2.1 hK.1 hP 0 rfl rfl 5 (Nat.le_of_ble_eq_true rfl) (F.2.2.2.2 (.fieldLink RX6 39 "LouderRoom" "acts" "LLouderRoom$Acts;") (List.mem_of_getElem? (i := 1) rfl)) (fun _ h9 => h9) rfl dX6_hush_1 ?_
  refine lv_aload_n hx hb dX6_hush_4 rfl (lv_at hl 0 rfl) ?_
  refine va_get (D := D) (ci := 6) (C := RX6) (T := TX6) (N := 8) hx hb F.2.2.2.2 in_X6_hush_X6 F.2.2.2.1 hK.1 hP 0 rfl rfl 1 (Nat.le_of_ble_eq_true rfl) (F.2.2.2.2 (.fieldLink RX6 19 "LouderRoom" "now" "LLouderRoom$Crowd;") (List.mem_of_getElem? (i := 2) rfl)) (fun _ h9 => h9) rfl dX6_hush_5 ?_
  obtain ⟨g1, hv, hf⟩ := obd hf
  have hp1 : List.Perm [oX6 h0 r0, oX1 ty (r0 1) a1 z1, oX0 ty (r0 5) aa5 z5] ([oX0 ty (r0 5) aa5 z5, oX1 ty (r0 1) a1 z1] ++ [oX6 h0 r0]) := (((List.perm_middle (a := (oX0 ty (r0 5) aa5 z5 : va_W)) (l₁ := ([oX6 h0 r0, oX1 ty (r0 1) a1 z1] : List va_W)) (l₂ := ([] : List va_W))).trans (List.Perm.cons _ (List.perm_middle (a := (oX1 ty (r0 1) a1 z1 : va_W)) (l₁ := ([oX6 h0 r0] : List va_W)) (l₂ := ([] : List va_W))))) : List.Perm ([oX6 h0 r0, oX1 ty (r0 1) a1 z1, oX0 ty (r0 5) aa5 z5] : List va_W) ([oX0 ty (r0 5) aa5 z5, oX1 ty (r0 1) a1 z1, oX6 h0 r0] : List va_W))
  refine cv_call (os := [oX6 h0 r0, oX1 ty (r0 1) a1 z1, oX0 ty (r0 5) aa5 z5]) (oc := [oX0 ty (r0 5) aa5 z5, oX1 ty (r0 1) a1 z1]) (oc' := [oX0 ty (r0 5) aa5 g1, oX1 ty (r0 1) a1 z1]) (or_ := [oX6 h0 r0]) (os' := [oX6 h0 r0, oX1 ty (r0 1) a1 z1, oX0 ty (r0 5) aa5 g1]) (va_runV (As := [.ref (r0 1)]) (rest := []) F (c_X0_add l D ty (r0 5) aa5 (r0 1) a1 _ _ _ hv _) (cwV 1 F.2.2.2.2 gX6_hush_X0_add rfl rfl rfl ⟨rfl, hd_X0_add⟩ ⟨Nat.le_of_ble_eq_true rfl, Nat.le_of_ble_eq_true rfl⟩) (pre_v hK hP hD hp1 rfl rfl rfl) rfl rfl hl.1 rfl (lv_room (Nat.le_of_ble_eq_true rfl)) dX6_hush_8 ⟨Nat.zero_le _, Nat.zero_le _⟩) hp1 (((List.perm_middle (a := (oX6 h0 r0 : va_W)) (l₁ := ([oX0 ty (r0 5) aa5 g1, oX1 ty (r0 1) a1 z1] : List va_W)) (l₂ := ([] : List va_W))).trans (List.Perm.cons _ (List.perm_middle (a := (oX1 ty (r0 1) a1 z1 : va_W)) (l₁ := ([oX0 ty (r0 5) aa5 g1] : List va_W)) (l₂ := ([] : List va_W))))) : List.Perm ([oX0 ty (r0 5) aa5 g1, oX1 ty (r0 1) a1 z1, oX6 h0 r0] : List va_W) ([oX6 h0 r0, oX1 ty (r0 1) a1 z1, oX0 ty (r0 5) aa5 g1] : List va_W)) hP hD hS hA (fun H locs hP hD hS => ?_)
  clear hp1 hv
  refine lv_aload_n hx hb dX6_hush_11 rfl (lv_at hl 0 rfl) ?_
  refine va_get (D := D) (ci := 6) (C := RX6) (T := TX6) (N := 8) hx hb F.2.2.2.2 in_X6_hush_X6 F.2.2.2.1 hK.1 hP 0 rfl rfl 1 (Nat.le_of_ble_eq_true rfl) (F.2.2.2.2 (.fieldLink RX6 19 "LouderRoom" "now" "LLouderRoom$Crowd;") (List.mem_of_getElem? (i := 2) rfl)) (fun _ h9 => h9) rfl dX6_hush_12 ?_
  refine lv_iconst (v := (1 : Int32)) hx hb dX6_hush_15 (by decide) ?_
  obtain ⟨v2, g3, hv, hf⟩ := obd2 hf
  have hp1 : List.Perm [oX6 h0 r0, oX1 ty (r0 1) a1 z1, oX0 ty (r0 5) aa5 g1] ([oX1 ty (r0 1) a1 z1] ++ [oX6 h0 r0, oX0 ty (r0 5) aa5 g1]) := ((List.perm_middle (a := (oX1 ty (r0 1) a1 z1 : va_W)) (l₁ := ([oX6 h0 r0] : List va_W)) (l₂ := ([oX0 ty (r0 5) aa5 g1] : List va_W))) : List.Perm ([oX6 h0 r0, oX1 ty (r0 1) a1 z1, oX0 ty (r0 5) aa5 g1] : List va_W) ([oX1 ty (r0 1) a1 z1, oX6 h0 r0, oX0 ty (r0 5) aa5 g1] : List va_W))
  refine ci_call (out := v2) (os := [oX6 h0 r0, oX1 ty (r0 1) a1 z1, oX0 ty (r0 5) aa5 g1]) (oc := [oX1 ty (r0 1) a1 z1]) (oc' := [oX1 ty (r0 1) a1 g3]) (or_ := [oX6 h0 r0, oX0 ty (r0 5) aa5 g1]) (os' := [oX6 h0 r0, oX1 ty (r0 1) a1 g3, oX0 ty (r0 5) aa5 g1]) (va_runV (As := [.int (1 : Int32)]) (rest := []) F (c_X1_speakAll l D ty (r0 1) a1 _ _ _ _ hv _) (cwV 1 F.2.2.2.2 gX6_hush_X1_speakAll rfl rfl rfl ⟨rfl, hd_X1_speakAll⟩ ⟨Nat.le_of_ble_eq_true rfl, Nat.le_of_ble_eq_true rfl⟩) (pre_v hK hP hD hp1 rfl rfl rfl) rfl rfl hl.1 rfl (lv_room (Nat.le_of_ble_eq_true rfl)) dX6_hush_16 ⟨Nat.zero_le _, Nat.zero_le _⟩) hp1 ((List.perm_middle (a := (oX6 h0 r0 : va_W)) (l₁ := ([oX1 ty (r0 1) a1 g3] : List va_W)) (l₂ := ([oX0 ty (r0 5) aa5 g1] : List va_W))) : List.Perm ([oX1 ty (r0 1) a1 g3, oX6 h0 r0, oX0 ty (r0 5) aa5 g1] : List va_W) ([oX6 h0 r0, oX1 ty (r0 1) a1 g3, oX0 ty (r0 5) aa5 g1] : List va_W)) hP hD hS hA (fun H locs hP hD hS => ?_)
  clear hp1 hv
  obtain hf := hf
  obtain ⟨e0, e1, e2⟩ := tup3 hf
  rw [e1] at hP hD
  rw [e2] at hP hD
  exact CX_i F hr hlk hP hD hS e0 dX6_hush_19
def f_X6_undo (z1 : Ob) (z5 : AS) : Option (Int32 × Ob × AS) := (if (1 : Int32) ≤ z5.1 then bd2 (f_X0_undoLast z5 z1) (fun g1 g2 => some (g1.1, g2, g1)) else some ((-3 : Int32), z1, z5))
abbrev rm_X6_undo : Room := { frames := 2, cells := 0, slots := 0, locals := 43 }
theorem hd_X6_undo : yX6_undo.cls ≠ "java/lang/invoke/MethodHandle" ∧ yX6_undo.cls ≠ "java/lang/invoke/VarHandle" ∧ (parseMethodDescriptor yX6_undo.desc).map (fun d => d.parameters.length) = some 0 := by decide +kernel
theorem in_X6_undo_X6 : ∀ w ∈ wsX60, w ∈ wsX6_undo := fun w h => List.mem_cons_of_mem _ (List.mem_append_left _ (List.mem_append_left _ (List.mem_append_right _ h)))
theorem in_X6_undo_X0 : ∀ w ∈ wsX00, w ∈ wsX6_undo := fun w h => List.mem_cons_of_mem _ (List.mem_append_left _ (List.mem_append_right _ h))
set_option maxHeartbeats 4000000 in
set_option maxRecDepth 100000 in
theorem c_X6_undo (l : Launch) (D : va_G) (ty : TY) (h0 : Nat) (r0 : Nat → Nat) (a1 : Nat → Nat) (aa5 : Nat) (z1 : Ob) (z5 : AS) (o0 : Int32) (o1 : Ob) (o2 : AS) (hf : f_X6_undo z1 z5 = some (o0, o1, o2)) (sz : Nat) : CX l yX6_undo wsX6_undo rm_X6_undo ([.ref h0] : List Value) D ty (fl [oX6 h0 r0, oX1 ty (r0 1) a1 z1, oX0 ty (r0 5) aa5 z5]) sz (qI D o0 (fl [oX6 h0 r0, oX1 ty (r0 1) a1 o1, oX0 ty (r0 5) aa5 o2])) 0 0 := by
  refine CX_of (cc := cX6_undo) (maxL := 1) (ret := (some .int)) (C := RX6) (by decide) rfl rfl (Nat.le_of_ble_eq_true rfl) ?_
  intro p e s m below meth c A ls F hr hlk _ hK hP hD hS hA hl
  have hx := F.1
  have hb := F.2.1
  replace hl : lv_has ls 1 [(0, .ref h0)] := hl
  unfold f_X6_undo at hf
  refine lv_aload_n hx hb dX6_undo_0 rfl (lv_at hl 0 rfl) ?_
  refine va_get (D := D) (ci := 6) (C := RX6) (T := TX6) (N := 8) hx hb F.2.2.2.2 in_X6_undo_X6 F.2.2.2.1 hK.1 hP 0 rfl rfl 5 (Nat.le_of_ble_eq_true rfl) (F.2.2.2.2 (.fieldLink RX6 39 "LouderRoom" "acts" "LLouderRoom$Acts;") (List.mem_of_getElem? (i := 1) rfl)) (fun _ h9 => h9) rfl dX6_undo_1 ?_
  refine va_getN (D := D) (ci := 0) (C := RX0) (T := TX0) (N := 2) hx hb F.2.2.2.2 in_X6_undo_X0 F.2.2.2.1 hK.1 hP 8 rfl rfl 1 (Nat.le_of_ble_eq_true rfl) (KN.use hK 22 (w := .fieldLinkNest RX6 104 "LouderRoom$Acts" "count" "I" "LouderRoom") rfl _) (fun _ h9 => h9) rfl dX6_undo_4 ?_
  refine lv_iconst (v := (1 : Int32)) hx hb dX6_undo_7 (by decide) ?_
  refine lv_icmp_ge (tgt := 14) hx hb dX6_undo_8 (by decide) (fun hc => ?_) (fun hc => ?_)
  · replace hf := ite_t hf hc
    refine lv_aload_n hx hb dX6_undo_14 rfl (lv_at hl 0 rfl) ?_
    refine va_get (D := D) (ci := 6) (C := RX6) (T := TX6) (N := 8) hx hb F.2.2.2.2 in_X6_undo_X6 F.2.2.2.1 hK.1 hP 0 rfl rfl 5 (Nat.le_of_ble_eq_true rfl) (F.2.2.2.2 (.fieldLink RX6 39 "LouderRoom" "acts" "LLouderRoom$Acts;") (List.mem_of_getElem? (i := 1) rfl)) (fun _ h9 => h9) rfl dX6_undo_15 ?_
    refine lv_aload_n hx hb dX6_undo_18 rfl (lv_at hl 0 rfl) ?_
    refine va_get (D := D) (ci := 6) (C := RX6) (T := TX6) (N := 8) hx hb F.2.2.2.2 in_X6_undo_X6 F.2.2.2.1 hK.1 hP 0 rfl rfl 1 (Nat.le_of_ble_eq_true rfl) (F.2.2.2.2 (.fieldLink RX6 19 "LouderRoom" "now" "LLouderRoom$Crowd;") (List.mem_of_getElem? (i := 2) rfl)) (fun _ h9 => h9) rfl dX6_undo_19 ?_
    obtain ⟨g1, g2, hv, hf⟩ := obd2 hf
    have hp1 : List.Perm [oX6 h0 r0, oX1 ty (r0 1) a1 z1, oX0 ty (r0 5) aa5 z5] ([oX0 ty (r0 5) aa5 z5, oX1 ty (r0 1) a1 z1] ++ [oX6 h0 r0]) := (((List.perm_middle (a := (oX0 ty (r0 5) aa5 z5 : va_W)) (l₁ := ([oX6 h0 r0, oX1 ty (r0 1) a1 z1] : List va_W)) (l₂ := ([] : List va_W))).trans (List.Perm.cons _ (List.perm_middle (a := (oX1 ty (r0 1) a1 z1 : va_W)) (l₁ := ([oX6 h0 r0] : List va_W)) (l₂ := ([] : List va_W))))) : List.Perm ([oX6 h0 r0, oX1 ty (r0 1) a1 z1, oX0 ty (r0 5) aa5 z5] : List va_W) ([oX0 ty (r0 5) aa5 z5, oX1 ty (r0 1) a1 z1, oX6 h0 r0] : List va_W))
    refine cv_call (os := [oX6 h0 r0, oX1 ty (r0 1) a1 z1, oX0 ty (r0 5) aa5 z5]) (oc := [oX0 ty (r0 5) aa5 z5, oX1 ty (r0 1) a1 z1]) (oc' := [oX0 ty (r0 5) aa5 g1, oX1 ty (r0 1) a1 g2]) (or_ := [oX6 h0 r0]) (os' := [oX6 h0 r0, oX1 ty (r0 1) a1 g2, oX0 ty (r0 5) aa5 g1]) (va_runV (As := [.ref (r0 1)]) (rest := []) F (c_X0_undoLast l D ty (r0 5) aa5 (r0 1) a1 _ _ _ _ hv _) (cwV 1 F.2.2.2.2 gX6_undo_X0_undoLast rfl rfl rfl ⟨rfl, hd_X0_undoLast⟩ ⟨Nat.le_of_ble_eq_true rfl, Nat.le_of_ble_eq_true rfl⟩) (pre_v hK hP hD hp1 rfl rfl rfl) rfl rfl hl.1 rfl (lv_room (Nat.le_of_ble_eq_true rfl)) dX6_undo_22 ⟨Nat.zero_le _, Nat.zero_le _⟩) hp1 (((List.perm_middle (a := (oX6 h0 r0 : va_W)) (l₁ := ([oX0 ty (r0 5) aa5 g1, oX1 ty (r0 1) a1 g2] : List va_W)) (l₂ := ([] : List va_W))).trans (List.Perm.cons _ (List.perm_middle (a := (oX1 ty (r0 1) a1 g2 : va_W)) (l₁ := ([oX0 ty (r0 5) aa5 g1] : List va_W)) (l₂ := ([] : List va_W))))) : List.Perm ([oX0 ty (r0 5) aa5 g1, oX1 ty (r0 1) a1 g2, oX6 h0 r0] : List va_W) ([oX6 h0 r0, oX1 ty (r0 1) a1 g2, oX0 ty (r0 5) aa5 g1] : List va_W)) hP hD hS hA (fun H locs hP hD hS => ?_)
    clear hp1 hv
    refine lv_aload_n hx hb dX6_undo_25 rfl (lv_at hl 0 rfl) ?_
    refine va_get (D := D) (ci := 6) (C := RX6) (T := TX6) (N := 8) hx hb F.2.2.2.2 in_X6_undo_X6 F.2.2.2.1 hK.1 hP 0 rfl rfl 5 (Nat.le_of_ble_eq_true rfl) (F.2.2.2.2 (.fieldLink RX6 39 "LouderRoom" "acts" "LLouderRoom$Acts;") (List.mem_of_getElem? (i := 1) rfl)) (fun _ h9 => h9) rfl dX6_undo_26 ?_
    refine va_getN (D := D) (ci := 0) (C := RX0) (T := TX0) (N := 2) hx hb F.2.2.2.2 in_X6_undo_X0 F.2.2.2.1 hK.1 hP 8 rfl rfl 1 (Nat.le_of_ble_eq_true rfl) (KN.use hK 22 (w := .fieldLinkNest RX6 104 "LouderRoom$Acts" "count" "I" "LouderRoom") rfl _) (fun _ h9 => h9) rfl dX6_undo_29 ?_
    obtain hf := hf
    obtain ⟨e0, e1, e2⟩ := tup3 hf
    rw [e1] at hP hD
    rw [e2] at hP hD
    exact CX_i F hr hlk hP hD hS e0 dX6_undo_32
  · replace hf := ite_f hf hc
    refine lv_bipush (v := (-3 : Int32)) hx hb dX6_undo_11 (by decide) ?_
    obtain hf := hf
    obtain ⟨e0, e1, e2⟩ := tup3 hf
    rw [e1] at hP hD
    rw [e2] at hP hD
    exact CX_i F hr hlk hP hD hS e0 dX6_undo_13
def j_X6_rest_55 (z1 : Ob) (p1 : Int32) (p2 : Int32) (w2 : Ob) : Option (Int32 × Ob) := bd2 (f_X1_settle w2) (fun v1 g2 => (if v1 = (-9 : Int32) then some ((-9 : Int32), g2) else (if p2 = 0 then (f_X1_loudAll g2).bind (fun v3 => some (v3, g2)) else some (v1, g2))))
def f_X6_rest (z1 : Ob) (z2 : Ob) (p1 : Int32) (p2 : Int32) : Option (Int32 × Ob) := (if p1 < 0 then some ((-2 : Int32), z2) else (if p1 ≤ (2 : Int32) then (f_X1_copyFrom z2 z1).bind (fun g4 => (if p1 = (1 : Int32) then bd2 (f_X1_speakAll g4 (1 : Int32)) (fun v7 g8 => j_X6_rest_55 z1 p1 p2 g8) else (if p1 = (2 : Int32) then bd2 (f_X1_speakAll g4 (9 : Int32)) (fun v5 g6 => j_X6_rest_55 z1 p1 p2 g6) else j_X6_rest_55 z1 p1 p2 g4))) else some ((-2 : Int32), z2)))
abbrev rm_X6_rest : Room := { frames := 5, cells := 0, slots := 0, locals := 112 }
theorem hd_X6_rest : yX6_rest.cls ≠ "java/lang/invoke/MethodHandle" ∧ yX6_rest.cls ≠ "java/lang/invoke/VarHandle" ∧ (parseMethodDescriptor yX6_rest.desc).map (fun d => d.parameters.length) = some 2 := by decide +kernel
theorem in_X6_rest_X6 : ∀ w ∈ wsX60, w ∈ wsX6_rest := fun w h => List.mem_cons_of_mem _ (List.mem_append_left _ (List.mem_append_right _ h))
set_option maxHeartbeats 4000000 in
set_option maxRecDepth 100000 in
theorem c_X6_rest (l : Launch) (D : va_G) (ty : TY) (h0 : Nat) (r0 : Nat → Nat) (a1 : Nat → Nat) (a2 : Nat → Nat) (z1 : Ob) (z2 : Ob) (p1 : Int32) (p2 : Int32) (o0 : Int32) (o1 : Ob) (hf : f_X6_rest z1 z2 p1 p2 = some (o0, o1)) (sz : Nat) : CX l yX6_rest wsX6_rest rm_X6_rest ([.ref h0, .int p1, .int p2] : List Value) D ty (fl [oX6 h0 r0, oX1 ty (r0 1) a1 z1, oX1 ty (r0 2) a2 z2]) sz (qI D o0 (fl [oX6 h0 r0, oX1 ty (r0 1) a1 z1, oX1 ty (r0 2) a2 o1])) 0 0 := by
  refine CX_of (cc := cX6_rest) (maxL := 4) (ret := (some .int)) (C := RX6) (by decide) rfl rfl (Nat.le_of_ble_eq_true rfl) ?_
  intro p e s m below meth c A ls F hr hlk _ hK hP hD hS hA hl
  have hx := F.1
  have hb := F.2.1
  replace hl : lv_has ls 4 [(0, .ref h0), (1, .int p1), (2, .int p2)] := hl
  unfold f_X6_rest at hf
  have J_55 : ∀ (w2 : Ob) (H : Heap) (locs : List Loc) (ls : Array Slot), va_P D vwC (fl [oX6 h0 r0, oX1 ty (r0 1) a1 z1, oX1 ty (r0 2) a2 w2]) H → va_D A (fl [oX6 h0 r0, oX1 ty (r0 1) a1 z1, oX1 ty (r0 2) a2 w2]) → va_S A s.heap H locs → lv_has ls 4 [(0, .ref h0), (2, .int p2)] → j_X6_rest_55 z1 p1 p2 w2 = some (o0, o1) → W p l e rm_X6_rest s m ([.ref h0, .int p1, .int p2] : List Value).toArray below meth c H locs 0 0 (MQ below (qI D o0 (fl [oX6 h0 r0, oX1 ty (r0 1) a1 z1, oX1 ty (r0 2) a2 o1]) A) ([.ref h0, .int p1, .int p2] : List Value).toArray s 0 0 A) (F0 m 55 ls []) := by
    intro w2 H locs ls hP hD hS hl hf
    unfold j_X6_rest_55 at hf
    refine lv_aload_n hx hb dX6_rest_55 rfl (lv_at hl 0 rfl) ?_
    refine va_get (D := D) (ci := 6) (C := RX6) (T := TX6) (N := 8) hx hb F.2.2.2.2 in_X6_rest_X6 F.2.2.2.1 hK.1 hP 0 rfl rfl 2 (Nat.le_of_ble_eq_true rfl) (F.2.2.2.2 (.fieldLink RX6 23 "LouderRoom" "trial" "LLouderRoom$Crowd;") (List.mem_of_getElem? (i := 1) rfl)) (fun _ h9 => h9) rfl dX6_rest_56 ?_
    obtain ⟨v1, g2, hv, hf⟩ := obd2 hf
    have hp1 : List.Perm [oX6 h0 r0, oX1 ty (r0 1) a1 z1, oX1 ty (r0 2) a2 w2] ([oX1 ty (r0 2) a2 w2] ++ [oX6 h0 r0, oX1 ty (r0 1) a1 z1]) := ((List.perm_middle (a := (oX1 ty (r0 2) a2 w2 : va_W)) (l₁ := ([oX6 h0 r0, oX1 ty (r0 1) a1 z1] : List va_W)) (l₂ := ([] : List va_W))) : List.Perm ([oX6 h0 r0, oX1 ty (r0 1) a1 z1, oX1 ty (r0 2) a2 w2] : List va_W) ([oX1 ty (r0 2) a2 w2, oX6 h0 r0, oX1 ty (r0 1) a1 z1] : List va_W))
    refine ci_call (out := v1) (os := [oX6 h0 r0, oX1 ty (r0 1) a1 z1, oX1 ty (r0 2) a2 w2]) (oc := [oX1 ty (r0 2) a2 w2]) (oc' := [oX1 ty (r0 2) a2 g2]) (or_ := [oX6 h0 r0, oX1 ty (r0 1) a1 z1]) (os' := [oX6 h0 r0, oX1 ty (r0 1) a1 z1, oX1 ty (r0 2) a2 g2]) (va_runV (As := []) (rest := []) F (c_X1_settle l D ty (r0 2) a2 _ _ _ hv _) (cwV 0 F.2.2.2.2 gX6_rest_X1_settle rfl rfl rfl ⟨rfl, hd_X1_settle⟩ ⟨Nat.le_of_ble_eq_true rfl, Nat.le_of_ble_eq_true rfl⟩) (pre_v hK hP hD hp1 rfl rfl rfl) rfl rfl hl.1 rfl (lv_room (Nat.le_of_ble_eq_true rfl)) dX6_rest_59 ⟨Nat.zero_le _, Nat.zero_le _⟩) hp1 (((List.perm_middle (a := (oX6 h0 r0 : va_W)) (l₁ := ([oX1 ty (r0 2) a2 g2] : List va_W)) (l₂ := ([oX1 ty (r0 1) a1 z1] : List va_W))).trans (List.Perm.cons _ (List.perm_middle (a := (oX1 ty (r0 1) a1 z1 : va_W)) (l₁ := ([oX1 ty (r0 2) a2 g2] : List va_W)) (l₂ := ([] : List va_W))))) : List.Perm ([oX1 ty (r0 2) a2 g2, oX6 h0 r0, oX1 ty (r0 1) a1 z1] : List va_W) ([oX6 h0 r0, oX1 ty (r0 1) a1 z1, oX1 ty (r0 2) a2 g2] : List va_W)) hP hD hS hA (fun H locs hP hD hS => ?_)
    clear hp1 hv
    refine lv_istore_n (lv' := [(3, .int v1), (0, .ref h0), (2, .int p2)]) hx hb dX6_rest_62 rfl hl (by decide) rfl (fun ls hl => ?_)
    refine lv_iload_n hx hb dX6_rest_63 rfl (lv_at hl 0 rfl) ?_
    refine lv_bipush (v := (-9 : Int32)) hx hb dX6_rest_64 (by decide) ?_
    refine lv_icmp_ne (tgt := 72) hx hb dX6_rest_66 (by decide) (fun hc => ?_) (fun hc => ?_)
    · replace hf := ite_f hf hc
      refine lv_iload_n hx hb dX6_rest_72 rfl (lv_at hl 2 rfl) ?_
      refine lv_if_eq (tgt := 80) hx hb dX6_rest_73 (by decide) (fun hc => ?_) (fun hc => ?_)
      · replace hf := ite_t hf hc
        refine lv_aload_n hx hb dX6_rest_80 rfl (lv_at hl 1 rfl) ?_
        refine va_get (D := D) (ci := 6) (C := RX6) (T := TX6) (N := 8) hx hb F.2.2.2.2 in_X6_rest_X6 F.2.2.2.1 hK.1 hP 0 rfl rfl 2 (Nat.le_of_ble_eq_true rfl) (F.2.2.2.2 (.fieldLink RX6 23 "LouderRoom" "trial" "LLouderRoom$Crowd;") (List.mem_of_getElem? (i := 1) rfl)) (fun _ h9 => h9) rfl dX6_rest_81 ?_
        obtain ⟨v3, hv, hf⟩ := obd hf
        have hp1 : List.Perm [oX6 h0 r0, oX1 ty (r0 1) a1 z1, oX1 ty (r0 2) a2 g2] ([oX1 ty (r0 2) a2 g2] ++ [oX6 h0 r0, oX1 ty (r0 1) a1 z1]) := ((List.perm_middle (a := (oX1 ty (r0 2) a2 g2 : va_W)) (l₁ := ([oX6 h0 r0, oX1 ty (r0 1) a1 z1] : List va_W)) (l₂ := ([] : List va_W))) : List.Perm ([oX6 h0 r0, oX1 ty (r0 1) a1 z1, oX1 ty (r0 2) a2 g2] : List va_W) ([oX1 ty (r0 2) a2 g2, oX6 h0 r0, oX1 ty (r0 1) a1 z1] : List va_W))
        refine ci_call (out := v3) (os := [oX6 h0 r0, oX1 ty (r0 1) a1 z1, oX1 ty (r0 2) a2 g2]) (oc := [oX1 ty (r0 2) a2 g2]) (oc' := [oX1 ty (r0 2) a2 g2]) (or_ := [oX6 h0 r0, oX1 ty (r0 1) a1 z1]) (os' := [oX6 h0 r0, oX1 ty (r0 1) a1 z1, oX1 ty (r0 2) a2 g2]) (va_runV (As := []) (rest := []) F (c_X1_loudAll l D ty (r0 2) a2 _ _ hv _) (cwV 0 F.2.2.2.2 gX6_rest_X1_loudAll rfl rfl rfl ⟨rfl, hd_X1_loudAll⟩ ⟨Nat.le_of_ble_eq_true rfl, Nat.le_of_ble_eq_true rfl⟩) (pre_v hK hP hD hp1 rfl rfl rfl) rfl rfl hl.1 rfl (lv_room (Nat.le_of_ble_eq_true rfl)) dX6_rest_84 ⟨Nat.zero_le _, Nat.zero_le _⟩) hp1 (((List.perm_middle (a := (oX6 h0 r0 : va_W)) (l₁ := ([oX1 ty (r0 2) a2 g2] : List va_W)) (l₂ := ([oX1 ty (r0 1) a1 z1] : List va_W))).trans (List.Perm.cons _ (List.perm_middle (a := (oX1 ty (r0 1) a1 z1 : va_W)) (l₁ := ([oX1 ty (r0 2) a2 g2] : List va_W)) (l₂ := ([] : List va_W))))) : List.Perm ([oX1 ty (r0 2) a2 g2, oX6 h0 r0, oX1 ty (r0 1) a1 z1] : List va_W) ([oX6 h0 r0, oX1 ty (r0 1) a1 z1, oX1 ty (r0 2) a2 g2] : List va_W)) hP hD hS hA (fun H locs hP hD hS => ?_)
        clear hp1 hv
        obtain hf := hf
        obtain ⟨e0, e1⟩ := tup2 hf
        rw [e1] at hP hD
        exact CX_i F hr hlk hP hD hS e0 dX6_rest_87
      · replace hf := ite_f hf hc
        refine lv_iload_n hx hb dX6_rest_76 rfl (lv_at hl 0 rfl) ?_
        refine lv_goto (tgt := 87) hx hb dX6_rest_77 (by decide) ?_
        obtain hf := hf
        obtain ⟨e0, e1⟩ := tup2 hf
        rw [e1] at hP hD
        exact CX_i F hr hlk hP hD hS e0 dX6_rest_87
    · replace hf := ite_t hf hc
      refine lv_bipush (v := (-9 : Int32)) hx hb dX6_rest_69 (by decide) ?_
      obtain hf := hf
      obtain ⟨e0, e1⟩ := tup2 hf
      rw [e1] at hP hD
      exact CX_i F hr hlk hP hD hS e0 dX6_rest_71
  refine lv_iload_n hx hb dX6_rest_0 rfl (lv_at hl 1 rfl) ?_
  refine lv_if_lt (tgt := 9) hx hb dX6_rest_1 (by decide) (fun hc => ?_) (fun hc => ?_)
  · replace hf := ite_t hf hc
    refine lv_bipush (v := (-2 : Int32)) hx hb dX6_rest_9 (by decide) ?_
    obtain hf := hf
    obtain ⟨e0, e1⟩ := tup2 hf
    rw [e1] at hP hD
    exact CX_i F hr hlk hP hD hS e0 dX6_rest_11
  · replace hf := ite_f hf hc
    refine lv_iload_n hx hb dX6_rest_4 rfl (lv_at hl 1 rfl) ?_
    refine lv_iconst (v := (2 : Int32)) hx hb dX6_rest_5 (by decide) ?_
    refine lv_icmp_le (tgt := 12) hx hb dX6_rest_6 (by decide) (fun hc => ?_) (fun hc => ?_)
    · replace hf := ite_t hf hc
      refine lv_aload_n hx hb dX6_rest_12 rfl (lv_at hl 0 rfl) ?_
      refine va_get (D := D) (ci := 6) (C := RX6) (T := TX6) (N := 8) hx hb F.2.2.2.2 in_X6_rest_X6 F.2.2.2.1 hK.1 hP 0 rfl rfl 2 (Nat.le_of_ble_eq_true rfl) (F.2.2.2.2 (.fieldLink RX6 23 "LouderRoom" "trial" "LLouderRoom$Crowd;") (List.mem_of_getElem? (i := 1) rfl)) (fun _ h9 => h9) rfl dX6_rest_13 ?_
      refine lv_aload_n hx hb dX6_rest_16 rfl (lv_at hl 0 rfl) ?_
      refine va_get (D := D) (ci := 6) (C := RX6) (T := TX6) (N := 8) hx hb F.2.2.2.2 in_X6_rest_X6 F.2.2.2.1 hK.1 hP 0 rfl rfl 1 (Nat.le_of_ble_eq_true rfl) (F.2.2.2.2 (.fieldLink RX6 19 "LouderRoom" "now" "LLouderRoom$Crowd;") (List.mem_of_getElem? (i := 2) rfl)) (fun _ h9 => h9) rfl dX6_rest_17 ?_
      obtain ⟨g4, hv, hf⟩ := obd hf
      have hp1 : List.Perm [oX6 h0 r0, oX1 ty (r0 1) a1 z1, oX1 ty (r0 2) a2 z2] ([oX1 ty (r0 2) a2 z2, oX1 ty (r0 1) a1 z1] ++ [oX6 h0 r0]) := (((List.perm_middle (a := (oX1 ty (r0 2) a2 z2 : va_W)) (l₁ := ([oX6 h0 r0, oX1 ty (r0 1) a1 z1] : List va_W)) (l₂ := ([] : List va_W))).trans (List.Perm.cons _ (List.perm_middle (a := (oX1 ty (r0 1) a1 z1 : va_W)) (l₁ := ([oX6 h0 r0] : List va_W)) (l₂ := ([] : List va_W))))) : List.Perm ([oX6 h0 r0, oX1 ty (r0 1) a1 z1, oX1 ty (r0 2) a2 z2] : List va_W) ([oX1 ty (r0 2) a2 z2, oX1 ty (r0 1) a1 z1, oX6 h0 r0] : List va_W))
      refine cv_call (os := [oX6 h0 r0, oX1 ty (r0 1) a1 z1, oX1 ty (r0 2) a2 z2]) (oc := [oX1 ty (r0 2) a2 z2, oX1 ty (r0 1) a1 z1]) (oc' := [oX1 ty (r0 2) a2 g4, oX1 ty (r0 1) a1 z1]) (or_ := [oX6 h0 r0]) (os' := [oX6 h0 r0, oX1 ty (r0 1) a1 z1, oX1 ty (r0 2) a2 g4]) (va_runV (As := [.ref (r0 1)]) (rest := []) F (c_X1_copyFrom l D ty (r0 2) a2 (r0 1) a1 _ _ _ hv _) (cwV 1 F.2.2.2.2 gX6_rest_X1_copyFrom rfl rfl rfl ⟨rfl, hd_X1_copyFrom⟩ ⟨Nat.le_of_ble_eq_true rfl, Nat.le_of_ble_eq_true rfl⟩) (pre_v hK hP hD hp1 rfl rfl rfl) rfl rfl hl.1 rfl (lv_room (Nat.le_of_ble_eq_true rfl)) dX6_rest_20 ⟨Nat.zero_le _, Nat.zero_le _⟩) hp1 (((List.perm_middle (a := (oX6 h0 r0 : va_W)) (l₁ := ([oX1 ty (r0 2) a2 g4, oX1 ty (r0 1) a1 z1] : List va_W)) (l₂ := ([] : List va_W))).trans (List.Perm.cons _ (List.perm_middle (a := (oX1 ty (r0 1) a1 z1 : va_W)) (l₁ := ([oX1 ty (r0 2) a2 g4] : List va_W)) (l₂ := ([] : List va_W))))) : List.Perm ([oX1 ty (r0 2) a2 g4, oX1 ty (r0 1) a1 z1, oX6 h0 r0] : List va_W) ([oX6 h0 r0, oX1 ty (r0 1) a1 z1, oX1 ty (r0 2) a2 g4] : List va_W)) hP hD hS hA (fun H locs hP hD hS => ?_)
      clear hp1 hv
      refine lv_iload_n hx hb dX6_rest_23 rfl (lv_at hl 1 rfl) ?_
      refine lv_iconst (v := (1 : Int32)) hx hb dX6_rest_24 (by decide) ?_
      refine lv_icmp_ne (tgt := 40) hx hb dX6_rest_25 (by decide) (fun hc => ?_) (fun hc => ?_)
      · replace hf := ite_f hf hc
        refine lv_iload_n hx hb dX6_rest_40 rfl (lv_at hl 1 rfl) ?_
        refine lv_iconst (v := (2 : Int32)) hx hb dX6_rest_41 (by decide) ?_
        refine lv_icmp_ne (tgt := 55) hx hb dX6_rest_42 (by decide) (fun hc => ?_) (fun hc => ?_)
        · replace hf := ite_f hf hc
          exact J_55 g4 _ _ _ hP hD hS (lv_sub hl [0, 2] rfl) hf
        · replace hf := ite_t hf hc
          refine lv_aload_n hx hb dX6_rest_45 rfl (lv_at hl 0 rfl) ?_
          refine va_get (D := D) (ci := 6) (C := RX6) (T := TX6) (N := 8) hx hb F.2.2.2.2 in_X6_rest_X6 F.2.2.2.1 hK.1 hP 0 rfl rfl 2 (Nat.le_of_ble_eq_true rfl) (F.2.2.2.2 (.fieldLink RX6 23 "LouderRoom" "trial" "LLouderRoom$Crowd;") (List.mem_of_getElem? (i := 1) rfl)) (fun _ h9 => h9) rfl dX6_rest_46 ?_
          refine lv_bipush (v := (9 : Int32)) hx hb dX6_rest_49 (by decide) ?_
          obtain ⟨v5, g6, hv, hf⟩ := obd2 hf
          have hp1 : List.Perm [oX6 h0 r0, oX1 ty (r0 1) a1 z1, oX1 ty (r0 2) a2 g4] ([oX1 ty (r0 2) a2 g4] ++ [oX6 h0 r0, oX1 ty (r0 1) a1 z1]) := ((List.perm_middle (a := (oX1 ty (r0 2) a2 g4 : va_W)) (l₁ := ([oX6 h0 r0, oX1 ty (r0 1) a1 z1] : List va_W)) (l₂ := ([] : List va_W))) : List.Perm ([oX6 h0 r0, oX1 ty (r0 1) a1 z1, oX1 ty (r0 2) a2 g4] : List va_W) ([oX1 ty (r0 2) a2 g4, oX6 h0 r0, oX1 ty (r0 1) a1 z1] : List va_W))
          refine ci_call (out := v5) (os := [oX6 h0 r0, oX1 ty (r0 1) a1 z1, oX1 ty (r0 2) a2 g4]) (oc := [oX1 ty (r0 2) a2 g4]) (oc' := [oX1 ty (r0 2) a2 g6]) (or_ := [oX6 h0 r0, oX1 ty (r0 1) a1 z1]) (os' := [oX6 h0 r0, oX1 ty (r0 1) a1 z1, oX1 ty (r0 2) a2 g6]) (va_runV (As := [.int (9 : Int32)]) (rest := []) F (c_X1_speakAll l D ty (r0 2) a2 _ _ _ _ hv _) (cwV 1 F.2.2.2.2 gX6_rest_X1_speakAll rfl rfl rfl ⟨rfl, hd_X1_speakAll⟩ ⟨Nat.le_of_ble_eq_true rfl, Nat.le_of_ble_eq_true rfl⟩) (pre_v hK hP hD hp1 rfl rfl rfl) rfl rfl hl.1 rfl (lv_room (Nat.le_of_ble_eq_true rfl)) dX6_rest_51 ⟨Nat.zero_le _, Nat.zero_le _⟩) hp1 (((List.perm_middle (a := (oX6 h0 r0 : va_W)) (l₁ := ([oX1 ty (r0 2) a2 g6] : List va_W)) (l₂ := ([oX1 ty (r0 1) a1 z1] : List va_W))).trans (List.Perm.cons _ (List.perm_middle (a := (oX1 ty (r0 1) a1 z1 : va_W)) (l₁ := ([oX1 ty (r0 2) a2 g6] : List va_W)) (l₂ := ([] : List va_W))))) : List.Perm ([oX1 ty (r0 2) a2 g6, oX6 h0 r0, oX1 ty (r0 1) a1 z1] : List va_W) ([oX6 h0 r0, oX1 ty (r0 1) a1 z1, oX1 ty (r0 2) a2 g6] : List va_W)) hP hD hS hA (fun H locs hP hD hS => ?_)
          clear hp1 hv
          refine lv_pop hx hb dX6_rest_54 rfl ?_
          exact J_55 g6 _ _ _ hP hD hS (lv_sub hl [0, 2] rfl) hf
      · replace hf := ite_t hf hc
        refine lv_aload_n hx hb dX6_rest_28 rfl (lv_at hl 0 rfl) ?_
        refine va_get (D := D) (ci := 6) (C := RX6) (T := TX6) (N := 8) hx hb F.2.2.2.2 in_X6_rest_X6 F.2.2.2.1 hK.1 hP 0 rfl rfl 2 (Nat.le_of_ble_eq_true rfl) (F.2.2.2.2 (.fieldLink RX6 23 "LouderRoom" "trial" "LLouderRoom$Crowd;") (List.mem_of_getElem? (i := 1) rfl)) (fun _ h9 => h9) rfl dX6_rest_29 ?_
        refine lv_iconst (v := (1 : Int32)) hx hb dX6_rest_32 (by decide) ?_
        obtain ⟨v7, g8, hv, hf⟩ := obd2 hf
        have hp1 : List.Perm [oX6 h0 r0, oX1 ty (r0 1) a1 z1, oX1 ty (r0 2) a2 g4] ([oX1 ty (r0 2) a2 g4] ++ [oX6 h0 r0, oX1 ty (r0 1) a1 z1]) := ((List.perm_middle (a := (oX1 ty (r0 2) a2 g4 : va_W)) (l₁ := ([oX6 h0 r0, oX1 ty (r0 1) a1 z1] : List va_W)) (l₂ := ([] : List va_W))) : List.Perm ([oX6 h0 r0, oX1 ty (r0 1) a1 z1, oX1 ty (r0 2) a2 g4] : List va_W) ([oX1 ty (r0 2) a2 g4, oX6 h0 r0, oX1 ty (r0 1) a1 z1] : List va_W))
        refine ci_call (out := v7) (os := [oX6 h0 r0, oX1 ty (r0 1) a1 z1, oX1 ty (r0 2) a2 g4]) (oc := [oX1 ty (r0 2) a2 g4]) (oc' := [oX1 ty (r0 2) a2 g8]) (or_ := [oX6 h0 r0, oX1 ty (r0 1) a1 z1]) (os' := [oX6 h0 r0, oX1 ty (r0 1) a1 z1, oX1 ty (r0 2) a2 g8]) (va_runV (As := [.int (1 : Int32)]) (rest := []) F (c_X1_speakAll l D ty (r0 2) a2 _ _ _ _ hv _) (cwV 1 F.2.2.2.2 gX6_rest_X1_speakAll rfl rfl rfl ⟨rfl, hd_X1_speakAll⟩ ⟨Nat.le_of_ble_eq_true rfl, Nat.le_of_ble_eq_true rfl⟩) (pre_v hK hP hD hp1 rfl rfl rfl) rfl rfl hl.1 rfl (lv_room (Nat.le_of_ble_eq_true rfl)) dX6_rest_33 ⟨Nat.zero_le _, Nat.zero_le _⟩) hp1 (((List.perm_middle (a := (oX6 h0 r0 : va_W)) (l₁ := ([oX1 ty (r0 2) a2 g8] : List va_W)) (l₂ := ([oX1 ty (r0 1) a1 z1] : List va_W))).trans (List.Perm.cons _ (List.perm_middle (a := (oX1 ty (r0 1) a1 z1 : va_W)) (l₁ := ([oX1 ty (r0 2) a2 g8] : List va_W)) (l₂ := ([] : List va_W))))) : List.Perm ([oX1 ty (r0 2) a2 g8, oX6 h0 r0, oX1 ty (r0 1) a1 z1] : List va_W) ([oX6 h0 r0, oX1 ty (r0 1) a1 z1, oX1 ty (r0 2) a2 g8] : List va_W)) hP hD hS hA (fun H locs hP hD hS => ?_)
        clear hp1 hv
        refine lv_pop hx hb dX6_rest_36 rfl ?_
        refine lv_goto (tgt := 55) hx hb dX6_rest_37 (by decide) ?_
        exact J_55 g8 _ _ _ hP hD hS (lv_sub hl [0, 2] rfl) hf
    · replace hf := ite_f hf hc
      refine lv_bipush (v := (-2 : Int32)) hx hb dX6_rest_9 (by decide) ?_
      obtain hf := hf
      obtain ⟨e0, e1⟩ := tup2 hf
      rw [e1] at hP hD
      exact CX_i F hr hlk hP hD hS e0 dX6_rest_11
def f_X6_tryFirst (z1 : Ob) (z2 : Ob) (p1 : Int32) : Option (Ob) := (f_X1_copyFrom z2 z1).bind (fun g1 => bnd (sI g1 6 (if (z1.1 6) < p1 then (z1.1 6) else p1)) (fun g2 => bd2 (f_X1_speakAll g2 (1 : Int32)) (fun v3 g4 => some g4)))
abbrev rm_X6_tryFirst : Room := { frames := 2, cells := 0, slots := 0, locals := 43 }
theorem hd_X6_tryFirst : yX6_tryFirst.cls ≠ "java/lang/invoke/MethodHandle" ∧ yX6_tryFirst.cls ≠ "java/lang/invoke/VarHandle" ∧ (parseMethodDescriptor yX6_tryFirst.desc).map (fun d => d.parameters.length) = some 1 := by decide +kernel
theorem in_X6_tryFirst_X6 : ∀ w ∈ wsX60, w ∈ wsX6_tryFirst := fun w h => List.mem_cons_of_mem _ (List.mem_append_left _ (List.mem_append_right _ h))
theorem in_X6_tryFirst_X1 : ∀ w ∈ wsX10, w ∈ wsX6_tryFirst := fun w h => List.mem_cons_of_mem _ (List.mem_append_right _ h)
set_option maxHeartbeats 4000000 in
set_option maxRecDepth 100000 in
theorem c_X6_tryFirst (l : Launch) (D : va_G) (ty : TY) (h0 : Nat) (r0 : Nat → Nat) (a1 : Nat → Nat) (a2 : Nat → Nat) (z1 : Ob) (z2 : Ob) (p1 : Int32) (o0 : Ob) (hf : f_X6_tryFirst z1 z2 p1 = some o0) (sz : Nat) : CX l yX6_tryFirst wsX6_tryFirst rm_X6_tryFirst ([.ref h0, .int p1] : List Value) D ty (fl [oX6 h0 r0, oX1 ty (r0 1) a1 z1, oX1 ty (r0 2) a2 z2]) sz (qV D (fl [oX6 h0 r0, oX1 ty (r0 1) a1 z1, oX1 ty (r0 2) a2 o0])) 0 0 := by
  refine CX_of (cc := cX6_tryFirst) (maxL := 2) (ret := none) (C := RX6) (by decide) rfl rfl (Nat.le_of_ble_eq_true rfl) ?_
  intro p e s m below meth c A ls F hr hlk _ hK hP hD hS hA hl
  have hx := F.1
  have hb := F.2.1
  replace hl : lv_has ls 2 [(0, .ref h0), (1, .int p1)] := hl
  unfold f_X6_tryFirst at hf
  refine lv_aload_n hx hb dX6_tryFirst_0 rfl (lv_at hl 0 rfl) ?_
  refine va_get (D := D) (ci := 6) (C := RX6) (T := TX6) (N := 8) hx hb F.2.2.2.2 in_X6_tryFirst_X6 F.2.2.2.1 hK.1 hP 0 rfl rfl 2 (Nat.le_of_ble_eq_true rfl) (F.2.2.2.2 (.fieldLink RX6 23 "LouderRoom" "trial" "LLouderRoom$Crowd;") (List.mem_of_getElem? (i := 1) rfl)) (fun _ h9 => h9) rfl dX6_tryFirst_1 ?_
  refine lv_aload_n hx hb dX6_tryFirst_4 rfl (lv_at hl 0 rfl) ?_
  refine va_get (D := D) (ci := 6) (C := RX6) (T := TX6) (N := 8) hx hb F.2.2.2.2 in_X6_tryFirst_X6 F.2.2.2.1 hK.1 hP 0 rfl rfl 1 (Nat.le_of_ble_eq_true rfl) (F.2.2.2.2 (.fieldLink RX6 19 "LouderRoom" "now" "LLouderRoom$Crowd;") (List.mem_of_getElem? (i := 2) rfl)) (fun _ h9 => h9) rfl dX6_tryFirst_5 ?_
  obtain ⟨g1, hv, hf⟩ := obd hf
  have hp1 : List.Perm [oX6 h0 r0, oX1 ty (r0 1) a1 z1, oX1 ty (r0 2) a2 z2] ([oX1 ty (r0 2) a2 z2, oX1 ty (r0 1) a1 z1] ++ [oX6 h0 r0]) := (((List.perm_middle (a := (oX1 ty (r0 2) a2 z2 : va_W)) (l₁ := ([oX6 h0 r0, oX1 ty (r0 1) a1 z1] : List va_W)) (l₂ := ([] : List va_W))).trans (List.Perm.cons _ (List.perm_middle (a := (oX1 ty (r0 1) a1 z1 : va_W)) (l₁ := ([oX6 h0 r0] : List va_W)) (l₂ := ([] : List va_W))))) : List.Perm ([oX6 h0 r0, oX1 ty (r0 1) a1 z1, oX1 ty (r0 2) a2 z2] : List va_W) ([oX1 ty (r0 2) a2 z2, oX1 ty (r0 1) a1 z1, oX6 h0 r0] : List va_W))
  refine cv_call (os := [oX6 h0 r0, oX1 ty (r0 1) a1 z1, oX1 ty (r0 2) a2 z2]) (oc := [oX1 ty (r0 2) a2 z2, oX1 ty (r0 1) a1 z1]) (oc' := [oX1 ty (r0 2) a2 g1, oX1 ty (r0 1) a1 z1]) (or_ := [oX6 h0 r0]) (os' := [oX6 h0 r0, oX1 ty (r0 1) a1 z1, oX1 ty (r0 2) a2 g1]) (va_runV (As := [.ref (r0 1)]) (rest := []) F (c_X1_copyFrom l D ty (r0 2) a2 (r0 1) a1 _ _ _ hv _) (cwV 1 F.2.2.2.2 gX6_tryFirst_X1_copyFrom rfl rfl rfl ⟨rfl, hd_X1_copyFrom⟩ ⟨Nat.le_of_ble_eq_true rfl, Nat.le_of_ble_eq_true rfl⟩) (pre_v hK hP hD hp1 rfl rfl rfl) rfl rfl hl.1 rfl (lv_room (Nat.le_of_ble_eq_true rfl)) dX6_tryFirst_8 ⟨Nat.zero_le _, Nat.zero_le _⟩) hp1 (((List.perm_middle (a := (oX6 h0 r0 : va_W)) (l₁ := ([oX1 ty (r0 2) a2 g1, oX1 ty (r0 1) a1 z1] : List va_W)) (l₂ := ([] : List va_W))).trans (List.Perm.cons _ (List.perm_middle (a := (oX1 ty (r0 1) a1 z1 : va_W)) (l₁ := ([oX1 ty (r0 2) a2 g1] : List va_W)) (l₂ := ([] : List va_W))))) : List.Perm ([oX1 ty (r0 2) a2 g1, oX1 ty (r0 1) a1 z1, oX6 h0 r0] : List va_W) ([oX6 h0 r0, oX1 ty (r0 1) a1 z1, oX1 ty (r0 2) a2 g1] : List va_W)) hP hD hS hA (fun H locs hP hD hS => ?_)
  clear hp1 hv
  refine lv_aload_n hx hb dX6_tryFirst_11 rfl (lv_at hl 0 rfl) ?_
  refine va_get (D := D) (ci := 6) (C := RX6) (T := TX6) (N := 8) hx hb F.2.2.2.2 in_X6_tryFirst_X6 F.2.2.2.1 hK.1 hP 0 rfl rfl 2 (Nat.le_of_ble_eq_true rfl) (F.2.2.2.2 (.fieldLink RX6 23 "LouderRoom" "trial" "LLouderRoom$Crowd;") (List.mem_of_getElem? (i := 1) rfl)) (fun _ h9 => h9) rfl dX6_tryFirst_12 ?_
  refine lv_iload_n hx hb dX6_tryFirst_15 rfl (lv_at hl 1 rfl) ?_
  refine lv_aload_n hx hb dX6_tryFirst_16 rfl (lv_at hl 0 rfl) ?_
  refine va_get (D := D) (ci := 6) (C := RX6) (T := TX6) (N := 8) hx hb F.2.2.2.2 in_X6_tryFirst_X6 F.2.2.2.1 hK.1 hP 0 rfl rfl 1 (Nat.le_of_ble_eq_true rfl) (F.2.2.2.2 (.fieldLink RX6 19 "LouderRoom" "now" "LLouderRoom$Crowd;") (List.mem_of_getElem? (i := 2) rfl)) (fun _ h9 => h9) rfl dX6_tryFirst_17 ?_
  refine va_getN (D := D) (ci := 1) (C := RX1) (T := TX1) (N := 12) hx hb F.2.2.2.2 in_X6_tryFirst_X1 F.2.2.2.1 hK.1 hP 1 rfl rfl 6 (Nat.le_of_ble_eq_true rfl) (KN.use hK 9 (w := .fieldLinkNest RX6 79 "LouderRoom$Crowd" "rings" "I" "LouderRoom") rfl _) (fun _ h9 => h9) rfl dX6_tryFirst_20 ?_
  refine va_mmin hx hb (F.2.2.1.trans hl.1.symm) F.2.2.2.1 (F.2.2.2.2 (.methodLink RX6 204 Lib.Math.min.name) (List.mem_of_getElem? (i := 3) rfl)) (F.2.2.2.2 (.static Lib.Math.min.name) (List.mem_of_getElem? (i := 4) rfl)) (F.2.2.2.2 (.initialized "java/lang/Math") (List.mem_of_getElem? (i := 5) rfl)) (F.2.2.2.2 (.code Lib.Math.min.name Lib.Math.min.code 2 (some .int)) (List.mem_of_getElem? (i := 6) rfl)) (Nat.le_of_ble_eq_true rfl) (Nat.le_of_ble_eq_true rfl) (Nat.zero_le _) (Nat.zero_le _) dX6_tryFirst_23 ?_
  refine pt_putN (D := D) (ci := 1) (fty := .int) (C := RX1) (T := TX1) (N := 12) (w1 := fl [oX6 h0 r0, oX1 ty (r0 1) a1 z1, oX1 ty (r0 2) a2 (sI g1 6 (if (z1.1 6) < p1 then (z1.1 6) else p1))]) F in_X6_tryFirst_X1 tyX1 tyX1_ok nmX1 hK.1 hP hD hS 8 rfl rfl 6 (Nat.le_of_ble_eq_true rfl) (KN.use hK 9 (w := .fieldLinkNest RX6 79 "LouderRoom$Crowd" "rings" "I" "LouderRoom") rfl _) (fun _ h9 => h9) rfl (by decide +kernel) rfl rfl (Nat.le_of_ble_eq_true rfl) rfl dX6_tryFirst_26 (fun H locs hP hD hS => ?_)
  obtain ⟨g2, ex⟩ : ∃ y : Ob, y = (sI g1 6 (if (z1.1 6) < p1 then (z1.1 6) else p1)) := ⟨_, rfl⟩
  replace hf := bnd_at hf ex; rw [← ex] at hP hD; clear ex
  refine lv_aload_n hx hb dX6_tryFirst_29 rfl (lv_at hl 0 rfl) ?_
  refine va_get (D := D) (ci := 6) (C := RX6) (T := TX6) (N := 8) hx hb F.2.2.2.2 in_X6_tryFirst_X6 F.2.2.2.1 hK.1 hP 0 rfl rfl 2 (Nat.le_of_ble_eq_true rfl) (F.2.2.2.2 (.fieldLink RX6 23 "LouderRoom" "trial" "LLouderRoom$Crowd;") (List.mem_of_getElem? (i := 1) rfl)) (fun _ h9 => h9) rfl dX6_tryFirst_30 ?_
  refine lv_iconst (v := (1 : Int32)) hx hb dX6_tryFirst_33 (by decide) ?_
  obtain ⟨v3, g4, hv, hf⟩ := obd2 hf
  have hp1 : List.Perm [oX6 h0 r0, oX1 ty (r0 1) a1 z1, oX1 ty (r0 2) a2 g2] ([oX1 ty (r0 2) a2 g2] ++ [oX6 h0 r0, oX1 ty (r0 1) a1 z1]) := ((List.perm_middle (a := (oX1 ty (r0 2) a2 g2 : va_W)) (l₁ := ([oX6 h0 r0, oX1 ty (r0 1) a1 z1] : List va_W)) (l₂ := ([] : List va_W))) : List.Perm ([oX6 h0 r0, oX1 ty (r0 1) a1 z1, oX1 ty (r0 2) a2 g2] : List va_W) ([oX1 ty (r0 2) a2 g2, oX6 h0 r0, oX1 ty (r0 1) a1 z1] : List va_W))
  refine ci_call (out := v3) (os := [oX6 h0 r0, oX1 ty (r0 1) a1 z1, oX1 ty (r0 2) a2 g2]) (oc := [oX1 ty (r0 2) a2 g2]) (oc' := [oX1 ty (r0 2) a2 g4]) (or_ := [oX6 h0 r0, oX1 ty (r0 1) a1 z1]) (os' := [oX6 h0 r0, oX1 ty (r0 1) a1 z1, oX1 ty (r0 2) a2 g4]) (va_runV (As := [.int (1 : Int32)]) (rest := []) F (c_X1_speakAll l D ty (r0 2) a2 _ _ _ _ hv _) (cwV 1 F.2.2.2.2 gX6_tryFirst_X1_speakAll rfl rfl rfl ⟨rfl, hd_X1_speakAll⟩ ⟨Nat.le_of_ble_eq_true rfl, Nat.le_of_ble_eq_true rfl⟩) (pre_v hK hP hD hp1 rfl rfl rfl) rfl rfl hl.1 rfl (lv_room (Nat.le_of_ble_eq_true rfl)) dX6_tryFirst_34 ⟨Nat.zero_le _, Nat.zero_le _⟩) hp1 (((List.perm_middle (a := (oX6 h0 r0 : va_W)) (l₁ := ([oX1 ty (r0 2) a2 g4] : List va_W)) (l₂ := ([oX1 ty (r0 1) a1 z1] : List va_W))).trans (List.Perm.cons _ (List.perm_middle (a := (oX1 ty (r0 1) a1 z1 : va_W)) (l₁ := ([oX1 ty (r0 2) a2 g4] : List va_W)) (l₂ := ([] : List va_W))))) : List.Perm ([oX1 ty (r0 2) a2 g4, oX6 h0 r0, oX1 ty (r0 1) a1 z1] : List va_W) ([oX6 h0 r0, oX1 ty (r0 1) a1 z1, oX1 ty (r0 2) a2 g4] : List va_W)) hP hD hS hA (fun H locs hP hD hS => ?_)
  clear hp1 hv
  refine lv_pop hx hb dX6_tryFirst_37 rfl ?_
  obtain hf := hf
  have e0 := Option.some.inj hf
  rw [e0] at hP hD
  exact CX_v F hr hlk hP hD hS dX6_tryFirst_38
def b_X6_tooMany_2 (z1 : Ob) (r_2 : Int32 → Ob → Option (Int32 × Ob)) (y1 : Int32) (w2 : Ob) : Option (Int32 × Ob) := (if (z1.1 6) < y1 then some ((-9 : Int32), w2) else (f_X6_tryFirst z1 w2 y1).bind (fun g1 => bd2 (f_X1_restsHearing g1) (fun v2 g3 => (if v2 = 0 then some (y1, g3) else bnd (y1 + (1 : Int32)) (fun x4 => r_2 x4 g3)))))
def f_X6_tooMany (z1 : Ob) (z2 : Ob) : Option (Int32 × Ob) := fuel2 (b_X6_tooMany_2 z1) FU (0 : Int32) z2
abbrev rm_X6_tooMany : Room := { frames := 7, cells := 0, slots := 0, locals := 152 }
theorem hd_X6_tooMany : yX6_tooMany.cls ≠ "java/lang/invoke/MethodHandle" ∧ yX6_tooMany.cls ≠ "java/lang/invoke/VarHandle" ∧ (parseMethodDescriptor yX6_tooMany.desc).map (fun d => d.parameters.length) = some 0 := by decide +kernel
theorem in_X6_tooMany_X6 : ∀ w ∈ wsX60, w ∈ wsX6_tooMany := fun w h => List.mem_cons_of_mem _ (List.mem_append_left _ (List.mem_append_right _ h))
theorem in_X6_tooMany_X1 : ∀ w ∈ wsX10, w ∈ wsX6_tooMany := fun w h => List.mem_cons_of_mem _ (List.mem_append_right _ h)
set_option maxHeartbeats 4000000 in
set_option maxRecDepth 100000 in
theorem c_X6_tooMany (l : Launch) (D : va_G) (ty : TY) (h0 : Nat) (r0 : Nat → Nat) (a1 : Nat → Nat) (a2 : Nat → Nat) (z1 : Ob) (z2 : Ob) (o0 : Int32) (o1 : Ob) (hf : f_X6_tooMany z1 z2 = some (o0, o1)) (sz : Nat) : CX l yX6_tooMany wsX6_tooMany rm_X6_tooMany ([.ref h0] : List Value) D ty (fl [oX6 h0 r0, oX1 ty (r0 1) a1 z1, oX1 ty (r0 2) a2 z2]) sz (qI D o0 (fl [oX6 h0 r0, oX1 ty (r0 1) a1 z1, oX1 ty (r0 2) a2 o1])) 0 0 := by
  refine CX_of (cc := cX6_tooMany) (maxL := 2) (ret := (some .int)) (C := RX6) (by decide) rfl rfl (Nat.le_of_ble_eq_true rfl) ?_
  intro p e s m below meth c A ls F hr hlk _ hK hP hD hS hA hl
  have hx := F.1
  have hb := F.2.1
  replace hl : lv_has ls 2 [(0, .ref h0)] := hl
  unfold f_X6_tooMany at hf
  refine lv_iconst (v := (0 : Int32)) hx hb dX6_tooMany_0 (by decide) ?_
  refine lv_istore_n (lv' := [(1, .int (0 : Int32)), (0, .ref h0)]) hx hb dX6_tooMany_1 rfl hl (by decide) rfl (fun ls hl => ?_)
  have L_2 : ∀ (n : Nat) (y1 : Int32) (w2 : Ob) (H : Heap) (locs : List Loc) (ls : Array Slot), va_P D vwC (fl [oX6 h0 r0, oX1 ty (r0 1) a1 z1, oX1 ty (r0 2) a2 w2]) H → va_D A (fl [oX6 h0 r0, oX1 ty (r0 1) a1 z1, oX1 ty (r0 2) a2 w2]) → va_S A s.heap H locs → lv_has ls 2 [(0, .ref h0), (1, .int y1)] → fuel2 (b_X6_tooMany_2 z1) n y1 w2 = some (o0, o1) → W p l e rm_X6_tooMany s m ([.ref h0] : List Value).toArray below meth c H locs 0 0 (MQ below (qI D o0 (fl [oX6 h0 r0, oX1 ty (r0 1) a1 z1, oX1 ty (r0 2) a2 o1]) A) ([.ref h0] : List Value).toArray s 0 0 A) (F0 m 2 ls []) := by
    intro n
    induction n with
    | zero => intro y1 w2 H locs ls hP hD hS hl hf; cases hf
    | succ n ih_2 =>
      intro y1 w2 H locs ls hP hD hS hl hf
      replace hf : b_X6_tooMany_2 z1 (fuel2 (b_X6_tooMany_2 z1) n) y1 w2 = some (o0, o1) := hf
      generalize fuel2 (b_X6_tooMany_2 z1) n = r_2 at ih_2 hf
      unfold b_X6_tooMany_2 at hf
      refine lv_iload_n hx hb dX6_tooMany_2 rfl (lv_at hl 1 rfl) ?_
      refine lv_aload_n hx hb dX6_tooMany_3 rfl (lv_at hl 0 rfl) ?_
      refine va_get (D := D) (ci := 6) (C := RX6) (T := TX6) (N := 8) hx hb F.2.2.2.2 in_X6_tooMany_X6 F.2.2.2.1 hK.1 hP 0 rfl rfl 1 (Nat.le_of_ble_eq_true rfl) (F.2.2.2.2 (.fieldLink RX6 19 "LouderRoom" "now" "LLouderRoom$Crowd;") (List.mem_of_getElem? (i := 1) rfl)) (fun _ h9 => h9) rfl dX6_tooMany_4 ?_
      refine va_getN (D := D) (ci := 1) (C := RX1) (T := TX1) (N := 12) hx hb F.2.2.2.2 in_X6_tooMany_X1 F.2.2.2.1 hK.1 hP 1 rfl rfl 6 (Nat.le_of_ble_eq_true rfl) (KN.use hK 9 (w := .fieldLinkNest RX6 79 "LouderRoom$Crowd" "rings" "I" "LouderRoom") rfl _) (fun _ h9 => h9) rfl dX6_tooMany_7 ?_
      refine lv_icmp_gt (tgt := 36) hx hb dX6_tooMany_10 (by decide) (fun hc => ?_) (fun hc => ?_)
      · replace hf := ite_t hf hc
        refine lv_bipush (v := (-9 : Int32)) hx hb dX6_tooMany_36 (by decide) ?_
        obtain hf := hf
        obtain ⟨e0, e1⟩ := tup2 hf
        rw [e1] at hP hD
        exact CX_i F hr hlk hP hD hS e0 dX6_tooMany_38
      · replace hf := ite_f hf hc
        refine lv_aload_n hx hb dX6_tooMany_13 rfl (lv_at hl 0 rfl) ?_
        refine lv_iload_n hx hb dX6_tooMany_14 rfl (lv_at hl 1 rfl) ?_
        obtain ⟨g1, hv, hf⟩ := obd hf
        have hp1 : List.Perm [oX6 h0 r0, oX1 ty (r0 1) a1 z1, oX1 ty (r0 2) a2 w2] ([oX6 h0 r0, oX1 ty (r0 1) a1 z1, oX1 ty (r0 2) a2 w2] ++ []) := (List.Perm.refl _)
        refine cv_call (os := [oX6 h0 r0, oX1 ty (r0 1) a1 z1, oX1 ty (r0 2) a2 w2]) (oc := [oX6 h0 r0, oX1 ty (r0 1) a1 z1, oX1 ty (r0 2) a2 w2]) (oc' := [oX6 h0 r0, oX1 ty (r0 1) a1 z1, oX1 ty (r0 2) a2 g1]) (or_ := []) (os' := [oX6 h0 r0, oX1 ty (r0 1) a1 z1, oX1 ty (r0 2) a2 g1]) (va_runV (As := [.int y1]) (rest := []) F (c_X6_tryFirst l D ty h0 r0 a1 a2 _ _ _ _ hv _) (cwV 1 F.2.2.2.2 gX6_tooMany_X6_tryFirst rfl rfl rfl ⟨rfl, hd_X6_tryFirst⟩ ⟨Nat.le_of_ble_eq_true rfl, Nat.le_of_ble_eq_true rfl⟩) (pre_v hK hP hD hp1 rfl rfl rfl) rfl rfl hl.1 rfl (lv_room (Nat.le_of_ble_eq_true rfl)) dX6_tooMany_15 ⟨Nat.zero_le _, Nat.zero_le _⟩) hp1 (List.Perm.refl _) hP hD hS hA (fun H locs hP hD hS => ?_)
        clear hp1 hv
        refine lv_aload_n hx hb dX6_tooMany_18 rfl (lv_at hl 0 rfl) ?_
        refine va_get (D := D) (ci := 6) (C := RX6) (T := TX6) (N := 8) hx hb F.2.2.2.2 in_X6_tooMany_X6 F.2.2.2.1 hK.1 hP 0 rfl rfl 2 (Nat.le_of_ble_eq_true rfl) (F.2.2.2.2 (.fieldLink RX6 23 "LouderRoom" "trial" "LLouderRoom$Crowd;") (List.mem_of_getElem? (i := 2) rfl)) (fun _ h9 => h9) rfl dX6_tooMany_19 ?_
        obtain ⟨v2, g3, hv, hf⟩ := obd2 hf
        have hp1 : List.Perm [oX6 h0 r0, oX1 ty (r0 1) a1 z1, oX1 ty (r0 2) a2 g1] ([oX1 ty (r0 2) a2 g1] ++ [oX6 h0 r0, oX1 ty (r0 1) a1 z1]) := ((List.perm_middle (a := (oX1 ty (r0 2) a2 g1 : va_W)) (l₁ := ([oX6 h0 r0, oX1 ty (r0 1) a1 z1] : List va_W)) (l₂ := ([] : List va_W))) : List.Perm ([oX6 h0 r0, oX1 ty (r0 1) a1 z1, oX1 ty (r0 2) a2 g1] : List va_W) ([oX1 ty (r0 2) a2 g1, oX6 h0 r0, oX1 ty (r0 1) a1 z1] : List va_W))
        refine ci_call (out := v2) (os := [oX6 h0 r0, oX1 ty (r0 1) a1 z1, oX1 ty (r0 2) a2 g1]) (oc := [oX1 ty (r0 2) a2 g1]) (oc' := [oX1 ty (r0 2) a2 g3]) (or_ := [oX6 h0 r0, oX1 ty (r0 1) a1 z1]) (os' := [oX6 h0 r0, oX1 ty (r0 1) a1 z1, oX1 ty (r0 2) a2 g3]) (va_runV (As := []) (rest := []) F (c_X1_restsHearing l D ty (r0 2) a2 _ _ _ hv _) (cwV 0 F.2.2.2.2 gX6_tooMany_X1_restsHearing rfl rfl rfl ⟨rfl, hd_X1_restsHearing⟩ ⟨Nat.le_of_ble_eq_true rfl, Nat.le_of_ble_eq_true rfl⟩) (pre_v hK hP hD hp1 rfl rfl rfl) rfl rfl hl.1 rfl (lv_room (Nat.le_of_ble_eq_true rfl)) dX6_tooMany_22 ⟨Nat.zero_le _, Nat.zero_le _⟩) hp1 (((List.perm_middle (a := (oX6 h0 r0 : va_W)) (l₁ := ([oX1 ty (r0 2) a2 g3] : List va_W)) (l₂ := ([oX1 ty (r0 1) a1 z1] : List va_W))).trans (List.Perm.cons _ (List.perm_middle (a := (oX1 ty (r0 1) a1 z1 : va_W)) (l₁ := ([oX1 ty (r0 2) a2 g3] : List va_W)) (l₂ := ([] : List va_W))))) : List.Perm ([oX1 ty (r0 2) a2 g3, oX6 h0 r0, oX1 ty (r0 1) a1 z1] : List va_W) ([oX6 h0 r0, oX1 ty (r0 1) a1 z1, oX1 ty (r0 2) a2 g3] : List va_W)) hP hD hS hA (fun H locs hP hD hS => ?_)
        clear hp1 hv
        refine lv_if_ne (tgt := 30) hx hb dX6_tooMany_25 (by decide) (fun hc => ?_) (fun hc => ?_)
        · replace hf := ite_f hf hc
          obtain ⟨x4, ex⟩ : ∃ y : Int32, y = (y1 + (1 : Int32)) := ⟨_, rfl⟩
          replace hf := bnd_at hf ex
          refine lv_iinc (v := x4) (lv' := [(1, .int x4), (0, .ref h0)]) hx hb dX6_tooMany_30 hl (k := 1) rfl (by rw [ex]; rfl) (by decide) rfl (fun ls hl => ?_)
          clear ex
          refine lv_goto (tgt := 2) hx hb dX6_tooMany_33 (by decide) ?_
          exact ih_2 x4 g3 _ _ _ hP hD hS (lv_sub hl [1, 0] rfl) hf
        · replace hf := ite_t hf hc
          refine lv_iload_n hx hb dX6_tooMany_28 rfl (lv_at hl 1 rfl) ?_
          obtain hf := hf
          obtain ⟨e0, e1⟩ := tup2 hf
          rw [e1] at hP hD
          exact CX_i F hr hlk hP hD hS e0 dX6_tooMany_29
  exact L_2 FU (0 : Int32) z2 _ _ _ hP hD hS (lv_sub hl [1, 0] rfl) hf
def b_X6_lasts_30 (z1 : Ob) (y1 : Int32) (r_30 : Int32 → Ob → Option (Int32 × Ob)) (y2 : Int32) (w2 : Ob) : Option (Int32 × Ob) := (if (40 : Int32) < y2 then some ((-9 : Int32), w2) else (f_X1_loudAll w2).bind (fun v5 => (if v5 < y1 then (f_X1_look w2).bind (fun g6 => (f_X1_take g6).bind (fun g7 => bnd (y2 + (1 : Int32)) (fun x8 => r_30 x8 g7))) else some (y2, w2))))
def f_X6_lasts (z1 : Ob) (z2 : Ob) : Option (Int32 × Ob) := (f_X1_loudAll z1).bind (fun v1 => (f_X1_copyFrom z2 z1).bind (fun g2 => bd2 (f_X1_speakAll g2 (1 : Int32)) (fun v3 g4 => fuel2 (b_X6_lasts_30 z1 v1) FU (0 : Int32) g4)))
abbrev rm_X6_lasts : Room := { frames := 4, cells := 0, slots := 0, locals := 91 }
theorem hd_X6_lasts : yX6_lasts.cls ≠ "java/lang/invoke/MethodHandle" ∧ yX6_lasts.cls ≠ "java/lang/invoke/VarHandle" ∧ (parseMethodDescriptor yX6_lasts.desc).map (fun d => d.parameters.length) = some 0 := by decide +kernel
theorem in_X6_lasts_X6 : ∀ w ∈ wsX60, w ∈ wsX6_lasts := fun w h => List.mem_cons_of_mem _ (List.mem_append_left _ (List.mem_append_right _ h))
set_option maxHeartbeats 4000000 in
set_option maxRecDepth 100000 in
theorem c_X6_lasts (l : Launch) (D : va_G) (ty : TY) (h0 : Nat) (r0 : Nat → Nat) (a1 : Nat → Nat) (a2 : Nat → Nat) (z1 : Ob) (z2 : Ob) (o0 : Int32) (o1 : Ob) (hf : f_X6_lasts z1 z2 = some (o0, o1)) (sz : Nat) : CX l yX6_lasts wsX6_lasts rm_X6_lasts ([.ref h0] : List Value) D ty (fl [oX6 h0 r0, oX1 ty (r0 1) a1 z1, oX1 ty (r0 2) a2 z2]) sz (qI D o0 (fl [oX6 h0 r0, oX1 ty (r0 1) a1 z1, oX1 ty (r0 2) a2 o1])) 0 0 := by
  refine CX_of (cc := cX6_lasts) (maxL := 3) (ret := (some .int)) (C := RX6) (by decide) rfl rfl (Nat.le_of_ble_eq_true rfl) ?_
  intro p e s m below meth c A ls F hr hlk _ hK hP hD hS hA hl
  have hx := F.1
  have hb := F.2.1
  replace hl : lv_has ls 3 [(0, .ref h0)] := hl
  unfold f_X6_lasts at hf
  refine lv_aload_n hx hb dX6_lasts_0 rfl (lv_at hl 0 rfl) ?_
  refine va_get (D := D) (ci := 6) (C := RX6) (T := TX6) (N := 8) hx hb F.2.2.2.2 in_X6_lasts_X6 F.2.2.2.1 hK.1 hP 0 rfl rfl 1 (Nat.le_of_ble_eq_true rfl) (F.2.2.2.2 (.fieldLink RX6 19 "LouderRoom" "now" "LLouderRoom$Crowd;") (List.mem_of_getElem? (i := 1) rfl)) (fun _ h9 => h9) rfl dX6_lasts_1 ?_
  obtain ⟨v1, hv, hf⟩ := obd hf
  have hp1 : List.Perm [oX6 h0 r0, oX1 ty (r0 1) a1 z1, oX1 ty (r0 2) a2 z2] ([oX1 ty (r0 1) a1 z1] ++ [oX6 h0 r0, oX1 ty (r0 2) a2 z2]) := ((List.perm_middle (a := (oX1 ty (r0 1) a1 z1 : va_W)) (l₁ := ([oX6 h0 r0] : List va_W)) (l₂ := ([oX1 ty (r0 2) a2 z2] : List va_W))) : List.Perm ([oX6 h0 r0, oX1 ty (r0 1) a1 z1, oX1 ty (r0 2) a2 z2] : List va_W) ([oX1 ty (r0 1) a1 z1, oX6 h0 r0, oX1 ty (r0 2) a2 z2] : List va_W))
  refine ci_call (out := v1) (os := [oX6 h0 r0, oX1 ty (r0 1) a1 z1, oX1 ty (r0 2) a2 z2]) (oc := [oX1 ty (r0 1) a1 z1]) (oc' := [oX1 ty (r0 1) a1 z1]) (or_ := [oX6 h0 r0, oX1 ty (r0 2) a2 z2]) (os' := [oX6 h0 r0, oX1 ty (r0 1) a1 z1, oX1 ty (r0 2) a2 z2]) (va_runV (As := []) (rest := []) F (c_X1_loudAll l D ty (r0 1) a1 _ _ hv _) (cwV 0 F.2.2.2.2 gX6_lasts_X1_loudAll rfl rfl rfl ⟨rfl, hd_X1_loudAll⟩ ⟨Nat.le_of_ble_eq_true rfl, Nat.le_of_ble_eq_true rfl⟩) (pre_v hK hP hD hp1 rfl rfl rfl) rfl rfl hl.1 rfl (lv_room (Nat.le_of_ble_eq_true rfl)) dX6_lasts_4 ⟨Nat.zero_le _, Nat.zero_le _⟩) hp1 ((List.perm_middle (a := (oX6 h0 r0 : va_W)) (l₁ := ([oX1 ty (r0 1) a1 z1] : List va_W)) (l₂ := ([oX1 ty (r0 2) a2 z2] : List va_W))) : List.Perm ([oX1 ty (r0 1) a1 z1, oX6 h0 r0, oX1 ty (r0 2) a2 z2] : List va_W) ([oX6 h0 r0, oX1 ty (r0 1) a1 z1, oX1 ty (r0 2) a2 z2] : List va_W)) hP hD hS hA (fun H locs hP hD hS => ?_)
  clear hp1 hv
  refine lv_istore_n (lv' := [(1, .int v1), (0, .ref h0)]) hx hb dX6_lasts_7 rfl hl (by decide) rfl (fun ls hl => ?_)
  refine lv_aload_n hx hb dX6_lasts_8 rfl (lv_at hl 1 rfl) ?_
  refine va_get (D := D) (ci := 6) (C := RX6) (T := TX6) (N := 8) hx hb F.2.2.2.2 in_X6_lasts_X6 F.2.2.2.1 hK.1 hP 0 rfl rfl 2 (Nat.le_of_ble_eq_true rfl) (F.2.2.2.2 (.fieldLink RX6 23 "LouderRoom" "trial" "LLouderRoom$Crowd;") (List.mem_of_getElem? (i := 2) rfl)) (fun _ h9 => h9) rfl dX6_lasts_9 ?_
  refine lv_aload_n hx hb dX6_lasts_12 rfl (lv_at hl 1 rfl) ?_
  refine va_get (D := D) (ci := 6) (C := RX6) (T := TX6) (N := 8) hx hb F.2.2.2.2 in_X6_lasts_X6 F.2.2.2.1 hK.1 hP 0 rfl rfl 1 (Nat.le_of_ble_eq_true rfl) (F.2.2.2.2 (.fieldLink RX6 19 "LouderRoom" "now" "LLouderRoom$Crowd;") (List.mem_of_getElem? (i := 1) rfl)) (fun _ h9 => h9) rfl dX6_lasts_13 ?_
  obtain ⟨g2, hv, hf⟩ := obd hf
  have hp1 : List.Perm [oX6 h0 r0, oX1 ty (r0 1) a1 z1, oX1 ty (r0 2) a2 z2] ([oX1 ty (r0 2) a2 z2, oX1 ty (r0 1) a1 z1] ++ [oX6 h0 r0]) := (((List.perm_middle (a := (oX1 ty (r0 2) a2 z2 : va_W)) (l₁ := ([oX6 h0 r0, oX1 ty (r0 1) a1 z1] : List va_W)) (l₂ := ([] : List va_W))).trans (List.Perm.cons _ (List.perm_middle (a := (oX1 ty (r0 1) a1 z1 : va_W)) (l₁ := ([oX6 h0 r0] : List va_W)) (l₂ := ([] : List va_W))))) : List.Perm ([oX6 h0 r0, oX1 ty (r0 1) a1 z1, oX1 ty (r0 2) a2 z2] : List va_W) ([oX1 ty (r0 2) a2 z2, oX1 ty (r0 1) a1 z1, oX6 h0 r0] : List va_W))
  refine cv_call (os := [oX6 h0 r0, oX1 ty (r0 1) a1 z1, oX1 ty (r0 2) a2 z2]) (oc := [oX1 ty (r0 2) a2 z2, oX1 ty (r0 1) a1 z1]) (oc' := [oX1 ty (r0 2) a2 g2, oX1 ty (r0 1) a1 z1]) (or_ := [oX6 h0 r0]) (os' := [oX6 h0 r0, oX1 ty (r0 1) a1 z1, oX1 ty (r0 2) a2 g2]) (va_runV (As := [.ref (r0 1)]) (rest := []) F (c_X1_copyFrom l D ty (r0 2) a2 (r0 1) a1 _ _ _ hv _) (cwV 1 F.2.2.2.2 gX6_lasts_X1_copyFrom rfl rfl rfl ⟨rfl, hd_X1_copyFrom⟩ ⟨Nat.le_of_ble_eq_true rfl, Nat.le_of_ble_eq_true rfl⟩) (pre_v hK hP hD hp1 rfl rfl rfl) rfl rfl hl.1 rfl (lv_room (Nat.le_of_ble_eq_true rfl)) dX6_lasts_16 ⟨Nat.zero_le _, Nat.zero_le _⟩) hp1 (((List.perm_middle (a := (oX6 h0 r0 : va_W)) (l₁ := ([oX1 ty (r0 2) a2 g2, oX1 ty (r0 1) a1 z1] : List va_W)) (l₂ := ([] : List va_W))).trans (List.Perm.cons _ (List.perm_middle (a := (oX1 ty (r0 1) a1 z1 : va_W)) (l₁ := ([oX1 ty (r0 2) a2 g2] : List va_W)) (l₂ := ([] : List va_W))))) : List.Perm ([oX1 ty (r0 2) a2 g2, oX1 ty (r0 1) a1 z1, oX6 h0 r0] : List va_W) ([oX6 h0 r0, oX1 ty (r0 1) a1 z1, oX1 ty (r0 2) a2 g2] : List va_W)) hP hD hS hA (fun H locs hP hD hS => ?_)
  clear hp1 hv
  refine lv_aload_n hx hb dX6_lasts_19 rfl (lv_at hl 1 rfl) ?_
  refine va_get (D := D) (ci := 6) (C := RX6) (T := TX6) (N := 8) hx hb F.2.2.2.2 in_X6_lasts_X6 F.2.2.2.1 hK.1 hP 0 rfl rfl 2 (Nat.le_of_ble_eq_true rfl) (F.2.2.2.2 (.fieldLink RX6 23 "LouderRoom" "trial" "LLouderRoom$Crowd;") (List.mem_of_getElem? (i := 2) rfl)) (fun _ h9 => h9) rfl dX6_lasts_20 ?_
  refine lv_iconst (v := (1 : Int32)) hx hb dX6_lasts_23 (by decide) ?_
  obtain ⟨v3, g4, hv, hf⟩ := obd2 hf
  have hp1 : List.Perm [oX6 h0 r0, oX1 ty (r0 1) a1 z1, oX1 ty (r0 2) a2 g2] ([oX1 ty (r0 2) a2 g2] ++ [oX6 h0 r0, oX1 ty (r0 1) a1 z1]) := ((List.perm_middle (a := (oX1 ty (r0 2) a2 g2 : va_W)) (l₁ := ([oX6 h0 r0, oX1 ty (r0 1) a1 z1] : List va_W)) (l₂ := ([] : List va_W))) : List.Perm ([oX6 h0 r0, oX1 ty (r0 1) a1 z1, oX1 ty (r0 2) a2 g2] : List va_W) ([oX1 ty (r0 2) a2 g2, oX6 h0 r0, oX1 ty (r0 1) a1 z1] : List va_W))
  refine ci_call (out := v3) (os := [oX6 h0 r0, oX1 ty (r0 1) a1 z1, oX1 ty (r0 2) a2 g2]) (oc := [oX1 ty (r0 2) a2 g2]) (oc' := [oX1 ty (r0 2) a2 g4]) (or_ := [oX6 h0 r0, oX1 ty (r0 1) a1 z1]) (os' := [oX6 h0 r0, oX1 ty (r0 1) a1 z1, oX1 ty (r0 2) a2 g4]) (va_runV (As := [.int (1 : Int32)]) (rest := []) F (c_X1_speakAll l D ty (r0 2) a2 _ _ _ _ hv _) (cwV 1 F.2.2.2.2 gX6_lasts_X1_speakAll rfl rfl rfl ⟨rfl, hd_X1_speakAll⟩ ⟨Nat.le_of_ble_eq_true rfl, Nat.le_of_ble_eq_true rfl⟩) (pre_v hK hP hD hp1 rfl rfl rfl) rfl rfl hl.1 rfl (lv_room (Nat.le_of_ble_eq_true rfl)) dX6_lasts_24 ⟨Nat.zero_le _, Nat.zero_le _⟩) hp1 (((List.perm_middle (a := (oX6 h0 r0 : va_W)) (l₁ := ([oX1 ty (r0 2) a2 g4] : List va_W)) (l₂ := ([oX1 ty (r0 1) a1 z1] : List va_W))).trans (List.Perm.cons _ (List.perm_middle (a := (oX1 ty (r0 1) a1 z1 : va_W)) (l₁ := ([oX1 ty (r0 2) a2 g4] : List va_W)) (l₂ := ([] : List va_W))))) : List.Perm ([oX1 ty (r0 2) a2 g4, oX6 h0 r0, oX1 ty (r0 1) a1 z1] : List va_W) ([oX6 h0 r0, oX1 ty (r0 1) a1 z1, oX1 ty (r0 2) a2 g4] : List va_W)) hP hD hS hA (fun H locs hP hD hS => ?_)
  clear hp1 hv
  refine lv_pop hx hb dX6_lasts_27 rfl ?_
  refine lv_iconst (v := (0 : Int32)) hx hb dX6_lasts_28 (by decide) ?_
  refine lv_istore_n (lv' := [(2, .int (0 : Int32)), (1, .int v1), (0, .ref h0)]) hx hb dX6_lasts_29 rfl hl (by decide) rfl (fun ls hl => ?_)
  have L_30 : ∀ (y1 : Int32) (n : Nat) (y2 : Int32) (w2 : Ob) (H : Heap) (locs : List Loc) (ls : Array Slot), va_P D vwC (fl [oX6 h0 r0, oX1 ty (r0 1) a1 z1, oX1 ty (r0 2) a2 w2]) H → va_D A (fl [oX6 h0 r0, oX1 ty (r0 1) a1 z1, oX1 ty (r0 2) a2 w2]) → va_S A s.heap H locs → lv_has ls 3 [(0, .ref h0), (1, .int y1), (2, .int y2)] → fuel2 (b_X6_lasts_30 z1 y1) n y2 w2 = some (o0, o1) → W p l e rm_X6_lasts s m ([.ref h0] : List Value).toArray below meth c H locs 0 0 (MQ below (qI D o0 (fl [oX6 h0 r0, oX1 ty (r0 1) a1 z1, oX1 ty (r0 2) a2 o1]) A) ([.ref h0] : List Value).toArray s 0 0 A) (F0 m 30 ls []) := by
    intro y1 n
    induction n with
    | zero => intro y2 w2 H locs ls hP hD hS hl hf; cases hf
    | succ n ih_30 =>
      intro y2 w2 H locs ls hP hD hS hl hf
      replace hf : b_X6_lasts_30 z1 y1 (fuel2 (b_X6_lasts_30 z1 y1) n) y2 w2 = some (o0, o1) := hf
      generalize fuel2 (b_X6_lasts_30 z1 y1) n = r_30 at ih_30 hf
      unfold b_X6_lasts_30 at hf
      refine lv_iload_n hx hb dX6_lasts_30 rfl (lv_at hl 2 rfl) ?_
      refine lv_bipush (v := (40 : Int32)) hx hb dX6_lasts_31 (by decide) ?_
      refine lv_icmp_gt (tgt := 69) hx hb dX6_lasts_33 (by decide) (fun hc => ?_) (fun hc => ?_)
      · replace hf := ite_t hf hc
        refine lv_bipush (v := (-9 : Int32)) hx hb dX6_lasts_69 (by decide) ?_
        obtain hf := hf
        obtain ⟨e0, e1⟩ := tup2 hf
        rw [e1] at hP hD
        exact CX_i F hr hlk hP hD hS e0 dX6_lasts_71
      · replace hf := ite_f hf hc
        refine lv_aload_n hx hb dX6_lasts_36 rfl (lv_at hl 0 rfl) ?_
        refine va_get (D := D) (ci := 6) (C := RX6) (T := TX6) (N := 8) hx hb F.2.2.2.2 in_X6_lasts_X6 F.2.2.2.1 hK.1 hP 0 rfl rfl 2 (Nat.le_of_ble_eq_true rfl) (F.2.2.2.2 (.fieldLink RX6 23 "LouderRoom" "trial" "LLouderRoom$Crowd;") (List.mem_of_getElem? (i := 2) rfl)) (fun _ h9 => h9) rfl dX6_lasts_37 ?_
        obtain ⟨v5, hv, hf⟩ := obd hf
        have hp1 : List.Perm [oX6 h0 r0, oX1 ty (r0 1) a1 z1, oX1 ty (r0 2) a2 w2] ([oX1 ty (r0 2) a2 w2] ++ [oX6 h0 r0, oX1 ty (r0 1) a1 z1]) := ((List.perm_middle (a := (oX1 ty (r0 2) a2 w2 : va_W)) (l₁ := ([oX6 h0 r0, oX1 ty (r0 1) a1 z1] : List va_W)) (l₂ := ([] : List va_W))) : List.Perm ([oX6 h0 r0, oX1 ty (r0 1) a1 z1, oX1 ty (r0 2) a2 w2] : List va_W) ([oX1 ty (r0 2) a2 w2, oX6 h0 r0, oX1 ty (r0 1) a1 z1] : List va_W))
        refine ci_call (out := v5) (os := [oX6 h0 r0, oX1 ty (r0 1) a1 z1, oX1 ty (r0 2) a2 w2]) (oc := [oX1 ty (r0 2) a2 w2]) (oc' := [oX1 ty (r0 2) a2 w2]) (or_ := [oX6 h0 r0, oX1 ty (r0 1) a1 z1]) (os' := [oX6 h0 r0, oX1 ty (r0 1) a1 z1, oX1 ty (r0 2) a2 w2]) (va_runV (As := []) (rest := []) F (c_X1_loudAll l D ty (r0 2) a2 _ _ hv _) (cwV 0 F.2.2.2.2 gX6_lasts_X1_loudAll rfl rfl rfl ⟨rfl, hd_X1_loudAll⟩ ⟨Nat.le_of_ble_eq_true rfl, Nat.le_of_ble_eq_true rfl⟩) (pre_v hK hP hD hp1 rfl rfl rfl) rfl rfl hl.1 rfl (lv_room (Nat.le_of_ble_eq_true rfl)) dX6_lasts_40 ⟨Nat.zero_le _, Nat.zero_le _⟩) hp1 (((List.perm_middle (a := (oX6 h0 r0 : va_W)) (l₁ := ([oX1 ty (r0 2) a2 w2] : List va_W)) (l₂ := ([oX1 ty (r0 1) a1 z1] : List va_W))).trans (List.Perm.cons _ (List.perm_middle (a := (oX1 ty (r0 1) a1 z1 : va_W)) (l₁ := ([oX1 ty (r0 2) a2 w2] : List va_W)) (l₂ := ([] : List va_W))))) : List.Perm ([oX1 ty (r0 2) a2 w2, oX6 h0 r0, oX1 ty (r0 1) a1 z1] : List va_W) ([oX6 h0 r0, oX1 ty (r0 1) a1 z1, oX1 ty (r0 2) a2 w2] : List va_W)) hP hD hS hA (fun H locs hP hD hS => ?_)
        clear hp1 hv
        refine lv_iload_n hx hb dX6_lasts_43 rfl (lv_at hl 1 rfl) ?_
        refine lv_icmp_lt (tgt := 49) hx hb dX6_lasts_44 (by decide) (fun hc => ?_) (fun hc => ?_)
        · replace hf := ite_t hf hc
          refine lv_aload_n hx hb dX6_lasts_49 rfl (lv_at hl 0 rfl) ?_
          refine va_get (D := D) (ci := 6) (C := RX6) (T := TX6) (N := 8) hx hb F.2.2.2.2 in_X6_lasts_X6 F.2.2.2.1 hK.1 hP 0 rfl rfl 2 (Nat.le_of_ble_eq_true rfl) (F.2.2.2.2 (.fieldLink RX6 23 "LouderRoom" "trial" "LLouderRoom$Crowd;") (List.mem_of_getElem? (i := 2) rfl)) (fun _ h9 => h9) rfl dX6_lasts_50 ?_
          obtain ⟨g6, hv, hf⟩ := obd hf
          have hp1 : List.Perm [oX6 h0 r0, oX1 ty (r0 1) a1 z1, oX1 ty (r0 2) a2 w2] ([oX1 ty (r0 2) a2 w2] ++ [oX6 h0 r0, oX1 ty (r0 1) a1 z1]) := ((List.perm_middle (a := (oX1 ty (r0 2) a2 w2 : va_W)) (l₁ := ([oX6 h0 r0, oX1 ty (r0 1) a1 z1] : List va_W)) (l₂ := ([] : List va_W))) : List.Perm ([oX6 h0 r0, oX1 ty (r0 1) a1 z1, oX1 ty (r0 2) a2 w2] : List va_W) ([oX1 ty (r0 2) a2 w2, oX6 h0 r0, oX1 ty (r0 1) a1 z1] : List va_W))
          refine cv_call (os := [oX6 h0 r0, oX1 ty (r0 1) a1 z1, oX1 ty (r0 2) a2 w2]) (oc := [oX1 ty (r0 2) a2 w2]) (oc' := [oX1 ty (r0 2) a2 g6]) (or_ := [oX6 h0 r0, oX1 ty (r0 1) a1 z1]) (os' := [oX6 h0 r0, oX1 ty (r0 1) a1 z1, oX1 ty (r0 2) a2 g6]) (va_runV (As := []) (rest := []) F (c_X1_look l D ty (r0 2) a2 _ _ hv _) (cwV 0 F.2.2.2.2 gX6_lasts_X1_look rfl rfl rfl ⟨rfl, hd_X1_look⟩ ⟨Nat.le_of_ble_eq_true rfl, Nat.le_of_ble_eq_true rfl⟩) (pre_v hK hP hD hp1 rfl rfl rfl) rfl rfl hl.1 rfl (lv_room (Nat.le_of_ble_eq_true rfl)) dX6_lasts_53 ⟨Nat.zero_le _, Nat.zero_le _⟩) hp1 (((List.perm_middle (a := (oX6 h0 r0 : va_W)) (l₁ := ([oX1 ty (r0 2) a2 g6] : List va_W)) (l₂ := ([oX1 ty (r0 1) a1 z1] : List va_W))).trans (List.Perm.cons _ (List.perm_middle (a := (oX1 ty (r0 1) a1 z1 : va_W)) (l₁ := ([oX1 ty (r0 2) a2 g6] : List va_W)) (l₂ := ([] : List va_W))))) : List.Perm ([oX1 ty (r0 2) a2 g6, oX6 h0 r0, oX1 ty (r0 1) a1 z1] : List va_W) ([oX6 h0 r0, oX1 ty (r0 1) a1 z1, oX1 ty (r0 2) a2 g6] : List va_W)) hP hD hS hA (fun H locs hP hD hS => ?_)
          clear hp1 hv
          refine lv_aload_n hx hb dX6_lasts_56 rfl (lv_at hl 0 rfl) ?_
          refine va_get (D := D) (ci := 6) (C := RX6) (T := TX6) (N := 8) hx hb F.2.2.2.2 in_X6_lasts_X6 F.2.2.2.1 hK.1 hP 0 rfl rfl 2 (Nat.le_of_ble_eq_true rfl) (F.2.2.2.2 (.fieldLink RX6 23 "LouderRoom" "trial" "LLouderRoom$Crowd;") (List.mem_of_getElem? (i := 2) rfl)) (fun _ h9 => h9) rfl dX6_lasts_57 ?_
          obtain ⟨g7, hv, hf⟩ := obd hf
          have hp1 : List.Perm [oX6 h0 r0, oX1 ty (r0 1) a1 z1, oX1 ty (r0 2) a2 g6] ([oX1 ty (r0 2) a2 g6] ++ [oX6 h0 r0, oX1 ty (r0 1) a1 z1]) := ((List.perm_middle (a := (oX1 ty (r0 2) a2 g6 : va_W)) (l₁ := ([oX6 h0 r0, oX1 ty (r0 1) a1 z1] : List va_W)) (l₂ := ([] : List va_W))) : List.Perm ([oX6 h0 r0, oX1 ty (r0 1) a1 z1, oX1 ty (r0 2) a2 g6] : List va_W) ([oX1 ty (r0 2) a2 g6, oX6 h0 r0, oX1 ty (r0 1) a1 z1] : List va_W))
          refine cv_call (os := [oX6 h0 r0, oX1 ty (r0 1) a1 z1, oX1 ty (r0 2) a2 g6]) (oc := [oX1 ty (r0 2) a2 g6]) (oc' := [oX1 ty (r0 2) a2 g7]) (or_ := [oX6 h0 r0, oX1 ty (r0 1) a1 z1]) (os' := [oX6 h0 r0, oX1 ty (r0 1) a1 z1, oX1 ty (r0 2) a2 g7]) (va_runV (As := []) (rest := []) F (c_X1_take l D ty (r0 2) a2 _ _ hv _) (cwV 0 F.2.2.2.2 gX6_lasts_X1_take rfl rfl rfl ⟨rfl, hd_X1_take⟩ ⟨Nat.le_of_ble_eq_true rfl, Nat.le_of_ble_eq_true rfl⟩) (pre_v hK hP hD hp1 rfl rfl rfl) rfl rfl hl.1 rfl (lv_room (Nat.le_of_ble_eq_true rfl)) dX6_lasts_60 ⟨Nat.zero_le _, Nat.zero_le _⟩) hp1 (((List.perm_middle (a := (oX6 h0 r0 : va_W)) (l₁ := ([oX1 ty (r0 2) a2 g7] : List va_W)) (l₂ := ([oX1 ty (r0 1) a1 z1] : List va_W))).trans (List.Perm.cons _ (List.perm_middle (a := (oX1 ty (r0 1) a1 z1 : va_W)) (l₁ := ([oX1 ty (r0 2) a2 g7] : List va_W)) (l₂ := ([] : List va_W))))) : List.Perm ([oX1 ty (r0 2) a2 g7, oX6 h0 r0, oX1 ty (r0 1) a1 z1] : List va_W) ([oX6 h0 r0, oX1 ty (r0 1) a1 z1, oX1 ty (r0 2) a2 g7] : List va_W)) hP hD hS hA (fun H locs hP hD hS => ?_)
          clear hp1 hv
          obtain ⟨x8, ex⟩ : ∃ y : Int32, y = (y2 + (1 : Int32)) := ⟨_, rfl⟩
          replace hf := bnd_at hf ex
          refine lv_iinc (v := x8) (lv' := [(2, .int x8), (0, .ref h0), (1, .int y1)]) hx hb dX6_lasts_63 hl (k := 2) rfl (by rw [ex]; rfl) (by decide) rfl (fun ls hl => ?_)
          clear ex
          refine lv_goto (tgt := 30) hx hb dX6_lasts_66 (by decide) ?_
          exact ih_30 x8 g7 _ _ _ hP hD hS (lv_sub hl [1, 2, 0] rfl) hf
        · replace hf := ite_f hf hc
          refine lv_iload_n hx hb dX6_lasts_47 rfl (lv_at hl 2 rfl) ?_
          obtain hf := hf
          obtain ⟨e0, e1⟩ := tup2 hf
          rw [e1] at hP hD
          exact CX_i F hr hlk hP hD hS e0 dX6_lasts_48
  exact L_30 v1 FU (0 : Int32) g4 _ _ _ hP hD hS (lv_sub hl [2, 1, 0] rfl) hf
def j_X6_stuffs_102 (z1 : Ob) (z3 : Ob) (p1 : Int32) (r_9 : Int32 → Int32 → Int32 → Ob → Option (Int32 × Ob)) (y2 : Int32) (y3 : Int32) (y4 : Int32) (w2 : Ob) : Option (Int32 × Ob) := bnd (y4 + (1 : Int32)) (fun x1 => r_9 y2 y3 x1 w2)
def j_X6_stuffs_46 (z1 : Ob) (z3 : Ob) (p1 : Int32) (r_9 : Int32 → Int32 → Int32 → Ob → Option (Int32 × Ob)) (y2 : Int32) (y3 : Int32) (y4 : Int32) (y5 : Int32) (w2 : Ob) : Option (Int32 × Ob) := (f_X1_copyFrom w2 z1).bind (fun g2 => (f_X5_eatenBy z3 y4).bind (fun v3 => bnd (sI g2 7 (if ((z1.1 7) + v3) < (9 : Int32) then ((z1.1 7) + v3) else (9 : Int32))) (fun g4 => bd2 (f_X1_restsHearing g4) (fun v5 g6 => (if v5 = 0 then j_X6_stuffs_102 z1 z3 p1 r_9 y2 y3 y4 g6 else j_X6_stuffs_102 z1 z3 p1 r_9 y4 y5 y4 g6)))))
def b_X6_stuffs_9 (z1 : Ob) (z3 : Ob) (p1 : Int32) (r_9 : Int32 → Int32 → Int32 → Ob → Option (Int32 × Ob)) (y2 : Int32) (y3 : Int32) (y4 : Int32) (w2 : Ob) : Option (Int32 × Ob) := (if ((1 : Int32) <<< ((z3.1 2) &&& 31)) ≤ y4 then (if p1 = 0 then some (y3, w2) else some (y2, w2)) else (f_X5_costOf z3 y4).bind (fun v7 => (if y2 = (-9 : Int32) then j_X6_stuffs_46 z1 z3 p1 r_9 y2 y3 y4 v7 w2 else (if y3 ≤ v7 then j_X6_stuffs_102 z1 z3 p1 r_9 y2 y3 y4 w2 else j_X6_stuffs_46 z1 z3 p1 r_9 y2 y3 y4 v7 w2))))
def f_X6_stuffs (z1 : Ob) (z2 : Ob) (z3 : Ob) (p1 : Int32) : Option (Int32 × Ob) := fuel4 (b_X6_stuffs_9 z1 z3 p1) FU (-9 : Int32) (-9 : Int32) (0 : Int32) z2
abbrev rm_X6_stuffs : Room := { frames := 7, cells := 0, slots := 0, locals := 152 }
theorem hd_X6_stuffs : yX6_stuffs.cls ≠ "java/lang/invoke/MethodHandle" ∧ yX6_stuffs.cls ≠ "java/lang/invoke/VarHandle" ∧ (parseMethodDescriptor yX6_stuffs.desc).map (fun d => d.parameters.length) = some 1 := by decide +kernel
theorem in_X6_stuffs_X6 : ∀ w ∈ wsX60, w ∈ wsX6_stuffs := fun w h => List.mem_cons_of_mem _ (List.mem_append_left _ (List.mem_append_left _ (List.mem_append_right _ h)))
theorem in_X6_stuffs_X1 : ∀ w ∈ wsX10, w ∈ wsX6_stuffs := fun w h => List.mem_cons_of_mem _ (List.mem_append_right _ h)
theorem in_X6_stuffs_X5 : ∀ w ∈ wsX50, w ∈ wsX6_stuffs := fun w h => List.mem_cons_of_mem _ (List.mem_append_left _ (List.mem_append_right _ h))
set_option maxHeartbeats 4000000 in
set_option maxRecDepth 100000 in
theorem c_X6_stuffs (l : Launch) (D : va_G) (ty : TY) (h0 : Nat) (r0 : Nat → Nat) (a1 : Nat → Nat) (a2 : Nat → Nat) (a3 : Nat → Nat) (z1 : Ob) (z2 : Ob) (z3 : Ob) (p1 : Int32) (o0 : Int32) (o1 : Ob) (hf : f_X6_stuffs z1 z2 z3 p1 = some (o0, o1)) (sz : Nat) : CX l yX6_stuffs wsX6_stuffs rm_X6_stuffs ([.ref h0, .int p1] : List Value) D ty (fl [oX6 h0 r0, oX1 ty (r0 1) a1 z1, oX1 ty (r0 2) a2 z2, oX5 ty (r0 3) a3 z3]) sz (qI D o0 (fl [oX6 h0 r0, oX1 ty (r0 1) a1 z1, oX1 ty (r0 2) a2 o1, oX5 ty (r0 3) a3 z3])) 0 0 := by
  refine CX_of (cc := cX6_stuffs) (maxL := 6) (ret := (some .int)) (C := RX6) (by decide) rfl rfl (Nat.le_of_ble_eq_true rfl) ?_
  intro p e s m below meth c A ls F hr hlk _ hK hP hD hS hA hl
  have hx := F.1
  have hb := F.2.1
  replace hl : lv_has ls 6 [(0, .ref h0), (1, .int p1)] := hl
  unfold f_X6_stuffs at hf
  refine lv_bipush (v := (-9 : Int32)) hx hb dX6_stuffs_0 (by decide) ?_
  refine lv_istore_n (lv' := [(2, .int (-9 : Int32)), (0, .ref h0), (1, .int p1)]) hx hb dX6_stuffs_2 rfl hl (by decide) rfl (fun ls hl => ?_)
  refine lv_bipush (v := (-9 : Int32)) hx hb dX6_stuffs_3 (by decide) ?_
  refine lv_istore_n (lv' := [(3, .int (-9 : Int32)), (2, .int (-9 : Int32)), (0, .ref h0), (1, .int p1)]) hx hb dX6_stuffs_5 rfl hl (by decide) rfl (fun ls hl => ?_)
  refine lv_iconst (v := (0 : Int32)) hx hb dX6_stuffs_6 (by decide) ?_
  refine lv_istore (lv' := [(4, .int (0 : Int32)), (3, .int (-9 : Int32)), (2, .int (-9 : Int32)), (0, .ref h0), (1, .int p1)]) hx hb dX6_stuffs_7 hl (by decide) rfl (fun ls hl => ?_)
  have L_9 : ∀ (n : Nat) (y2 : Int32) (y3 : Int32) (y4 : Int32) (w2 : Ob) (H : Heap) (locs : List Loc) (ls : Array Slot), va_P D vwC (fl [oX6 h0 r0, oX1 ty (r0 1) a1 z1, oX1 ty (r0 2) a2 w2, oX5 ty (r0 3) a3 z3]) H → va_D A (fl [oX6 h0 r0, oX1 ty (r0 1) a1 z1, oX1 ty (r0 2) a2 w2, oX5 ty (r0 3) a3 z3]) → va_S A s.heap H locs → lv_has ls 6 [(0, .ref h0), (1, .int p1), (2, .int y2), (3, .int y3), (4, .int y4)] → fuel4 (b_X6_stuffs_9 z1 z3 p1) n y2 y3 y4 w2 = some (o0, o1) → W p l e rm_X6_stuffs s m ([.ref h0, .int p1] : List Value).toArray below meth c H locs 0 0 (MQ below (qI D o0 (fl [oX6 h0 r0, oX1 ty (r0 1) a1 z1, oX1 ty (r0 2) a2 o1, oX5 ty (r0 3) a3 z3]) A) ([.ref h0, .int p1] : List Value).toArray s 0 0 A) (F0 m 9 ls []) := by
    intro n
    induction n with
    | zero => intro y2 y3 y4 w2 H locs ls hP hD hS hl hf; cases hf
    | succ n ih_9 =>
      intro y2 y3 y4 w2 H locs ls hP hD hS hl hf
      replace hf : b_X6_stuffs_9 z1 z3 p1 (fuel4 (b_X6_stuffs_9 z1 z3 p1) n) y2 y3 y4 w2 = some (o0, o1) := hf
      generalize fuel4 (b_X6_stuffs_9 z1 z3 p1) n = r_9 at ih_9 hf
      unfold b_X6_stuffs_9 at hf
      have J_102 : ∀ (y2 : Int32) (y3 : Int32) (y4 : Int32) (w2 : Ob) (H : Heap) (locs : List Loc) (ls : Array Slot), va_P D vwC (fl [oX6 h0 r0, oX1 ty (r0 1) a1 z1, oX1 ty (r0 2) a2 w2, oX5 ty (r0 3) a3 z3]) H → va_D A (fl [oX6 h0 r0, oX1 ty (r0 1) a1 z1, oX1 ty (r0 2) a2 w2, oX5 ty (r0 3) a3 z3]) → va_S A s.heap H locs → lv_has ls 6 [(0, .ref h0), (1, .int p1), (2, .int y2), (3, .int y3), (4, .int y4)] → j_X6_stuffs_102 z1 z3 p1 r_9 y2 y3 y4 w2 = some (o0, o1) → W p l e rm_X6_stuffs s m ([.ref h0, .int p1] : List Value).toArray below meth c H locs 0 0 (MQ below (qI D o0 (fl [oX6 h0 r0, oX1 ty (r0 1) a1 z1, oX1 ty (r0 2) a2 o1, oX5 ty (r0 3) a3 z3]) A) ([.ref h0, .int p1] : List Value).toArray s 0 0 A) (F0 m 102 ls []) := by
        intro y2 y3 y4 w2 H locs ls hP hD hS hl hf
        unfold j_X6_stuffs_102 at hf
        obtain ⟨x1, ex⟩ : ∃ y : Int32, y = (y4 + (1 : Int32)) := ⟨_, rfl⟩
        replace hf := bnd_at hf ex
        refine lv_iinc (v := x1) (lv' := [(4, .int x1), (0, .ref h0), (1, .int p1), (2, .int y2), (3, .int y3)]) hx hb dX6_stuffs_102 hl (k := 4) rfl (by rw [ex]; rfl) (by decide) rfl (fun ls hl => ?_)
        clear ex
        refine lv_goto (tgt := 9) hx hb dX6_stuffs_105 (by decide) ?_
        exact ih_9 y2 y3 x1 w2 _ _ _ hP hD hS (lv_sub hl [1, 2, 3, 4, 0] rfl) hf
      have J_46 : ∀ (y2 : Int32) (y3 : Int32) (y4 : Int32) (y5 : Int32) (w2 : Ob) (H : Heap) (locs : List Loc) (ls : Array Slot), va_P D vwC (fl [oX6 h0 r0, oX1 ty (r0 1) a1 z1, oX1 ty (r0 2) a2 w2, oX5 ty (r0 3) a3 z3]) H → va_D A (fl [oX6 h0 r0, oX1 ty (r0 1) a1 z1, oX1 ty (r0 2) a2 w2, oX5 ty (r0 3) a3 z3]) → va_S A s.heap H locs → lv_has ls 6 [(0, .ref h0), (1, .int p1), (2, .int y2), (3, .int y3), (4, .int y4), (5, .int y5)] → j_X6_stuffs_46 z1 z3 p1 r_9 y2 y3 y4 y5 w2 = some (o0, o1) → W p l e rm_X6_stuffs s m ([.ref h0, .int p1] : List Value).toArray below meth c H locs 0 0 (MQ below (qI D o0 (fl [oX6 h0 r0, oX1 ty (r0 1) a1 z1, oX1 ty (r0 2) a2 o1, oX5 ty (r0 3) a3 z3]) A) ([.ref h0, .int p1] : List Value).toArray s 0 0 A) (F0 m 46 ls []) := by
        intro y2 y3 y4 y5 w2 H locs ls hP hD hS hl hf
        unfold j_X6_stuffs_46 at hf
        refine lv_aload_n hx hb dX6_stuffs_46 rfl (lv_at hl 0 rfl) ?_
        refine va_get (D := D) (ci := 6) (C := RX6) (T := TX6) (N := 8) hx hb F.2.2.2.2 in_X6_stuffs_X6 F.2.2.2.1 hK.1 hP 0 rfl rfl 2 (Nat.le_of_ble_eq_true rfl) (F.2.2.2.2 (.fieldLink RX6 23 "LouderRoom" "trial" "LLouderRoom$Crowd;") (List.mem_of_getElem? (i := 2) rfl)) (fun _ h9 => h9) rfl dX6_stuffs_47 ?_
        refine lv_aload_n hx hb dX6_stuffs_50 rfl (lv_at hl 0 rfl) ?_
        refine va_get (D := D) (ci := 6) (C := RX6) (T := TX6) (N := 8) hx hb F.2.2.2.2 in_X6_stuffs_X6 F.2.2.2.1 hK.1 hP 0 rfl rfl 1 (Nat.le_of_ble_eq_true rfl) (F.2.2.2.2 (.fieldLink RX6 19 "LouderRoom" "now" "LLouderRoom$Crowd;") (List.mem_of_getElem? (i := 3) rfl)) (fun _ h9 => h9) rfl dX6_stuffs_51 ?_
        obtain ⟨g2, hv, hf⟩ := obd hf
        have hp1 : List.Perm [oX6 h0 r0, oX1 ty (r0 1) a1 z1, oX1 ty (r0 2) a2 w2, oX5 ty (r0 3) a3 z3] ([oX1 ty (r0 2) a2 w2, oX1 ty (r0 1) a1 z1] ++ [oX6 h0 r0, oX5 ty (r0 3) a3 z3]) := (((List.perm_middle (a := (oX1 ty (r0 2) a2 w2 : va_W)) (l₁ := ([oX6 h0 r0, oX1 ty (r0 1) a1 z1] : List va_W)) (l₂ := ([oX5 ty (r0 3) a3 z3] : List va_W))).trans (List.Perm.cons _ (List.perm_middle (a := (oX1 ty (r0 1) a1 z1 : va_W)) (l₁ := ([oX6 h0 r0] : List va_W)) (l₂ := ([oX5 ty (r0 3) a3 z3] : List va_W))))) : List.Perm ([oX6 h0 r0, oX1 ty (r0 1) a1 z1, oX1 ty (r0 2) a2 w2, oX5 ty (r0 3) a3 z3] : List va_W) ([oX1 ty (r0 2) a2 w2, oX1 ty (r0 1) a1 z1, oX6 h0 r0, oX5 ty (r0 3) a3 z3] : List va_W))
        refine cv_call (os := [oX6 h0 r0, oX1 ty (r0 1) a1 z1, oX1 ty (r0 2) a2 w2, oX5 ty (r0 3) a3 z3]) (oc := [oX1 ty (r0 2) a2 w2, oX1 ty (r0 1) a1 z1]) (oc' := [oX1 ty (r0 2) a2 g2, oX1 ty (r0 1) a1 z1]) (or_ := [oX6 h0 r0, oX5 ty (r0 3) a3 z3]) (os' := [oX6 h0 r0, oX1 ty (r0 1) a1 z1, oX1 ty (r0 2) a2 g2, oX5 ty (r0 3) a3 z3]) (va_runV (As := [.ref (r0 1)]) (rest := []) F (c_X1_copyFrom l D ty (r0 2) a2 (r0 1) a1 _ _ _ hv _) (cwV 1 F.2.2.2.2 gX6_stuffs_X1_copyFrom rfl rfl rfl ⟨rfl, hd_X1_copyFrom⟩ ⟨Nat.le_of_ble_eq_true rfl, Nat.le_of_ble_eq_true rfl⟩) (pre_v hK hP hD hp1 rfl rfl rfl) rfl rfl hl.1 rfl (lv_room (Nat.le_of_ble_eq_true rfl)) dX6_stuffs_54 ⟨Nat.zero_le _, Nat.zero_le _⟩) hp1 (((List.perm_middle (a := (oX6 h0 r0 : va_W)) (l₁ := ([oX1 ty (r0 2) a2 g2, oX1 ty (r0 1) a1 z1] : List va_W)) (l₂ := ([oX5 ty (r0 3) a3 z3] : List va_W))).trans (List.Perm.cons _ (List.perm_middle (a := (oX1 ty (r0 1) a1 z1 : va_W)) (l₁ := ([oX1 ty (r0 2) a2 g2] : List va_W)) (l₂ := ([oX5 ty (r0 3) a3 z3] : List va_W))))) : List.Perm ([oX1 ty (r0 2) a2 g2, oX1 ty (r0 1) a1 z1, oX6 h0 r0, oX5 ty (r0 3) a3 z3] : List va_W) ([oX6 h0 r0, oX1 ty (r0 1) a1 z1, oX1 ty (r0 2) a2 g2, oX5 ty (r0 3) a3 z3] : List va_W)) hP hD hS hA (fun H locs hP hD hS => ?_)
        clear hp1 hv
        refine lv_aload_n hx hb dX6_stuffs_57 rfl (lv_at hl 0 rfl) ?_
        refine va_get (D := D) (ci := 6) (C := RX6) (T := TX6) (N := 8) hx hb F.2.2.2.2 in_X6_stuffs_X6 F.2.2.2.1 hK.1 hP 0 rfl rfl 2 (Nat.le_of_ble_eq_true rfl) (F.2.2.2.2 (.fieldLink RX6 23 "LouderRoom" "trial" "LLouderRoom$Crowd;") (List.mem_of_getElem? (i := 2) rfl)) (fun _ h9 => h9) rfl dX6_stuffs_58 ?_
        refine lv_bipush (v := (9 : Int32)) hx hb dX6_stuffs_61 (by decide) ?_
        refine lv_aload_n hx hb dX6_stuffs_63 rfl (lv_at hl 0 rfl) ?_
        refine va_get (D := D) (ci := 6) (C := RX6) (T := TX6) (N := 8) hx hb F.2.2.2.2 in_X6_stuffs_X6 F.2.2.2.1 hK.1 hP 0 rfl rfl 1 (Nat.le_of_ble_eq_true rfl) (F.2.2.2.2 (.fieldLink RX6 19 "LouderRoom" "now" "LLouderRoom$Crowd;") (List.mem_of_getElem? (i := 3) rfl)) (fun _ h9 => h9) rfl dX6_stuffs_64 ?_
        refine va_getN (D := D) (ci := 1) (C := RX1) (T := TX1) (N := 12) hx hb F.2.2.2.2 in_X6_stuffs_X1 F.2.2.2.1 hK.1 hP 1 rfl rfl 7 (Nat.le_of_ble_eq_true rfl) (KN.use hK 11 (w := .fieldLinkNest RX6 86 "LouderRoom$Crowd" "eats" "I" "LouderRoom") rfl _) (fun _ h9 => h9) rfl dX6_stuffs_67 ?_
        refine lv_aload_n hx hb dX6_stuffs_70 rfl (lv_at hl 0 rfl) ?_
        refine va_get (D := D) (ci := 6) (C := RX6) (T := TX6) (N := 8) hx hb F.2.2.2.2 in_X6_stuffs_X6 F.2.2.2.1 hK.1 hP 0 rfl rfl 3 (Nat.le_of_ble_eq_true rfl) (F.2.2.2.2 (.fieldLink RX6 29 "LouderRoom" "wares" "LLouderRoom$Wares;") (List.mem_of_getElem? (i := 1) rfl)) (fun _ h9 => h9) rfl dX6_stuffs_71 ?_
        refine lv_iload hx hb dX6_stuffs_74 (lv_at hl 4 rfl) ?_
        obtain ⟨v3, hv, hf⟩ := obd hf
        have hp1 : List.Perm [oX6 h0 r0, oX1 ty (r0 1) a1 z1, oX1 ty (r0 2) a2 g2, oX5 ty (r0 3) a3 z3] ([oX5 ty (r0 3) a3 z3] ++ [oX6 h0 r0, oX1 ty (r0 1) a1 z1, oX1 ty (r0 2) a2 g2]) := ((List.perm_middle (a := (oX5 ty (r0 3) a3 z3 : va_W)) (l₁ := ([oX6 h0 r0, oX1 ty (r0 1) a1 z1, oX1 ty (r0 2) a2 g2] : List va_W)) (l₂ := ([] : List va_W))) : List.Perm ([oX6 h0 r0, oX1 ty (r0 1) a1 z1, oX1 ty (r0 2) a2 g2, oX5 ty (r0 3) a3 z3] : List va_W) ([oX5 ty (r0 3) a3 z3, oX6 h0 r0, oX1 ty (r0 1) a1 z1, oX1 ty (r0 2) a2 g2] : List va_W))
        refine ci_call (out := v3) (os := [oX6 h0 r0, oX1 ty (r0 1) a1 z1, oX1 ty (r0 2) a2 g2, oX5 ty (r0 3) a3 z3]) (oc := [oX5 ty (r0 3) a3 z3]) (oc' := [oX5 ty (r0 3) a3 z3]) (or_ := [oX6 h0 r0, oX1 ty (r0 1) a1 z1, oX1 ty (r0 2) a2 g2]) (os' := [oX6 h0 r0, oX1 ty (r0 1) a1 z1, oX1 ty (r0 2) a2 g2, oX5 ty (r0 3) a3 z3]) (va_runV (As := [.int y4]) (rest := [.int (z1.1 7), .int (9 : Int32), .ref (r0 2)]) F (c_X5_eatenBy l D ty (r0 3) a3 _ _ _ hv _) (cwV 1 F.2.2.2.2 gX6_stuffs_X5_eatenBy rfl rfl rfl ⟨rfl, hd_X5_eatenBy⟩ ⟨Nat.le_of_ble_eq_true rfl, Nat.le_of_ble_eq_true rfl⟩) (pre_v hK hP hD hp1 rfl rfl rfl) rfl rfl hl.1 rfl (lv_room (Nat.le_of_ble_eq_true rfl)) dX6_stuffs_76 ⟨Nat.zero_le _, Nat.zero_le _⟩) hp1 (((List.perm_middle (a := (oX6 h0 r0 : va_W)) (l₁ := ([oX5 ty (r0 3) a3 z3] : List va_W)) (l₂ := ([oX1 ty (r0 1) a1 z1, oX1 ty (r0 2) a2 g2] : List va_W))).trans (List.Perm.cons _ ((List.perm_middle (a := (oX1 ty (r0 1) a1 z1 : va_W)) (l₁ := ([oX5 ty (r0 3) a3 z3] : List va_W)) (l₂ := ([oX1 ty (r0 2) a2 g2] : List va_W))).trans (List.Perm.cons _ (List.perm_middle (a := (oX1 ty (r0 2) a2 g2 : va_W)) (l₁ := ([oX5 ty (r0 3) a3 z3] : List va_W)) (l₂ := ([] : List va_W))))))) : List.Perm ([oX5 ty (r0 3) a3 z3, oX6 h0 r0, oX1 ty (r0 1) a1 z1, oX1 ty (r0 2) a2 g2] : List va_W) ([oX6 h0 r0, oX1 ty (r0 1) a1 z1, oX1 ty (r0 2) a2 g2, oX5 ty (r0 3) a3 z3] : List va_W)) hP hD hS hA (fun H locs hP hD hS => ?_)
        clear hp1 hv
        refine lv_iadd hx hb dX6_stuffs_79 ?_
        refine va_mmin hx hb (F.2.2.1.trans hl.1.symm) F.2.2.2.1 (F.2.2.2.2 (.methodLink RX6 204 Lib.Math.min.name) (List.mem_of_getElem? (i := 4) rfl)) (F.2.2.2.2 (.static Lib.Math.min.name) (List.mem_of_getElem? (i := 5) rfl)) (F.2.2.2.2 (.initialized "java/lang/Math") (List.mem_of_getElem? (i := 6) rfl)) (F.2.2.2.2 (.code Lib.Math.min.name Lib.Math.min.code 2 (some .int)) (List.mem_of_getElem? (i := 7) rfl)) (Nat.le_of_ble_eq_true rfl) (Nat.le_of_ble_eq_true rfl) (Nat.zero_le _) (Nat.zero_le _) dX6_stuffs_80 ?_
        refine pt_putN (D := D) (ci := 1) (fty := .int) (C := RX1) (T := TX1) (N := 12) (w1 := fl [oX6 h0 r0, oX1 ty (r0 1) a1 z1, oX1 ty (r0 2) a2 (sI g2 7 (if ((z1.1 7) + v3) < (9 : Int32) then ((z1.1 7) + v3) else (9 : Int32))), oX5 ty (r0 3) a3 z3]) F in_X6_stuffs_X1 tyX1 tyX1_ok nmX1 hK.1 hP hD hS 8 rfl rfl 7 (Nat.le_of_ble_eq_true rfl) (KN.use hK 11 (w := .fieldLinkNest RX6 86 "LouderRoom$Crowd" "eats" "I" "LouderRoom") rfl _) (fun _ h9 => h9) rfl (by decide +kernel) rfl rfl (Nat.le_of_ble_eq_true rfl) rfl dX6_stuffs_83 (fun H locs hP hD hS => ?_)
        obtain ⟨g4, ex⟩ : ∃ y : Ob, y = (sI g2 7 (if ((z1.1 7) + v3) < (9 : Int32) then ((z1.1 7) + v3) else (9 : Int32))) := ⟨_, rfl⟩
        replace hf := bnd_at hf ex; rw [← ex] at hP hD; clear ex
        refine lv_aload_n hx hb dX6_stuffs_86 rfl (lv_at hl 0 rfl) ?_
        refine va_get (D := D) (ci := 6) (C := RX6) (T := TX6) (N := 8) hx hb F.2.2.2.2 in_X6_stuffs_X6 F.2.2.2.1 hK.1 hP 0 rfl rfl 2 (Nat.le_of_ble_eq_true rfl) (F.2.2.2.2 (.fieldLink RX6 23 "LouderRoom" "trial" "LLouderRoom$Crowd;") (List.mem_of_getElem? (i := 2) rfl)) (fun _ h9 => h9) rfl dX6_stuffs_87 ?_
        obtain ⟨v5, g6, hv, hf⟩ := obd2 hf
        have hp1 : List.Perm [oX6 h0 r0, oX1 ty (r0 1) a1 z1, oX1 ty (r0 2) a2 g4, oX5 ty (r0 3) a3 z3] ([oX1 ty (r0 2) a2 g4] ++ [oX6 h0 r0, oX1 ty (r0 1) a1 z1, oX5 ty (r0 3) a3 z3]) := ((List.perm_middle (a := (oX1 ty (r0 2) a2 g4 : va_W)) (l₁ := ([oX6 h0 r0, oX1 ty (r0 1) a1 z1] : List va_W)) (l₂ := ([oX5 ty (r0 3) a3 z3] : List va_W))) : List.Perm ([oX6 h0 r0, oX1 ty (r0 1) a1 z1, oX1 ty (r0 2) a2 g4, oX5 ty (r0 3) a3 z3] : List va_W) ([oX1 ty (r0 2) a2 g4, oX6 h0 r0, oX1 ty (r0 1) a1 z1, oX5 ty (r0 3) a3 z3] : List va_W))
        refine ci_call (out := v5) (os := [oX6 h0 r0, oX1 ty (r0 1) a1 z1, oX1 ty (r0 2) a2 g4, oX5 ty (r0 3) a3 z3]) (oc := [oX1 ty (r0 2) a2 g4]) (oc' := [oX1 ty (r0 2) a2 g6]) (or_ := [oX6 h0 r0, oX1 ty (r0 1) a1 z1, oX5 ty (r0 3) a3 z3]) (os' := [oX6 h0 r0, oX1 ty (r0 1) a1 z1, oX1 ty (r0 2) a2 g6, oX5 ty (r0 3) a3 z3]) (va_runV (As := []) (rest := []) F (c_X1_restsHearing l D ty (r0 2) a2 _ _ _ hv _) (cwV 0 F.2.2.2.2 gX6_stuffs_X1_restsHearing rfl rfl rfl ⟨rfl, hd_X1_restsHearing⟩ ⟨Nat.le_of_ble_eq_true rfl, Nat.le_of_ble_eq_true rfl⟩) (pre_v hK hP hD hp1 rfl rfl rfl) rfl rfl hl.1 rfl (lv_room (Nat.le_of_ble_eq_true rfl)) dX6_stuffs_90 ⟨Nat.zero_le _, Nat.zero_le _⟩) hp1 (((List.perm_middle (a := (oX6 h0 r0 : va_W)) (l₁ := ([oX1 ty (r0 2) a2 g6] : List va_W)) (l₂ := ([oX1 ty (r0 1) a1 z1, oX5 ty (r0 3) a3 z3] : List va_W))).trans (List.Perm.cons _ (List.perm_middle (a := (oX1 ty (r0 1) a1 z1 : va_W)) (l₁ := ([oX1 ty (r0 2) a2 g6] : List va_W)) (l₂ := ([oX5 ty (r0 3) a3 z3] : List va_W))))) : List.Perm ([oX1 ty (r0 2) a2 g6, oX6 h0 r0, oX1 ty (r0 1) a1 z1, oX5 ty (r0 3) a3 z3] : List va_W) ([oX6 h0 r0, oX1 ty (r0 1) a1 z1, oX1 ty (r0 2) a2 g6, oX5 ty (r0 3) a3 z3] : List va_W)) hP hD hS hA (fun H locs hP hD hS => ?_)
        clear hp1 hv
        refine lv_if_eq (tgt := 102) hx hb dX6_stuffs_93 (by decide) (fun hc => ?_) (fun hc => ?_)
        · replace hf := ite_t hf hc
          exact J_102 y2 y3 y4 g6 _ _ _ hP hD hS (lv_sub hl [0, 1, 2, 3, 4] rfl) hf
        · replace hf := ite_f hf hc
          refine lv_iload hx hb dX6_stuffs_96 (lv_at hl 4 rfl) ?_
          refine lv_istore_n (lv' := [(2, .int y4), (0, .ref h0), (1, .int p1), (3, .int y3), (4, .int y4), (5, .int y5)]) hx hb dX6_stuffs_98 rfl hl (by decide) rfl (fun ls hl => ?_)
          refine lv_iload hx hb dX6_stuffs_99 (lv_at hl 5 rfl) ?_
          refine lv_istore_n (lv' := [(3, .int y5), (2, .int y4), (0, .ref h0), (1, .int p1), (4, .int y4), (5, .int y5)]) hx hb dX6_stuffs_101 rfl hl (by decide) rfl (fun ls hl => ?_)
          exact J_102 y4 y5 y4 g6 _ _ _ hP hD hS (lv_sub hl [2, 3, 1, 0, 4] rfl) hf
      refine lv_iload hx hb dX6_stuffs_9 (lv_at hl 4 rfl) ?_
      refine lv_iconst (v := (1 : Int32)) hx hb dX6_stuffs_11 (by decide) ?_
      refine lv_aload_n hx hb dX6_stuffs_12 rfl (lv_at hl 0 rfl) ?_
      refine va_get (D := D) (ci := 6) (C := RX6) (T := TX6) (N := 8) hx hb F.2.2.2.2 in_X6_stuffs_X6 F.2.2.2.1 hK.1 hP 0 rfl rfl 3 (Nat.le_of_ble_eq_true rfl) (F.2.2.2.2 (.fieldLink RX6 29 "LouderRoom" "wares" "LLouderRoom$Wares;") (List.mem_of_getElem? (i := 1) rfl)) (fun _ h9 => h9) rfl dX6_stuffs_13 ?_
      refine va_getN (D := D) (ci := 5) (C := RX5) (T := TX5) (N := 3) hx hb F.2.2.2.2 in_X6_stuffs_X5 F.2.2.2.1 hK.1 hP 15 rfl rfl 2 (Nat.le_of_ble_eq_true rfl) (KN.use hK 20 (w := .fieldLinkNest RX6 101 "LouderRoom$Wares" "count" "I" "LouderRoom") rfl _) (fun _ h9 => h9) rfl dX6_stuffs_16 ?_
      refine lv_ishl hx hb dX6_stuffs_19 ?_
      refine lv_icmp_ge (tgt := 108) hx hb dX6_stuffs_20 (by decide) (fun hc => ?_) (fun hc => ?_)
      · replace hf := ite_t hf hc
        refine lv_iload_n hx hb dX6_stuffs_108 rfl (lv_at hl 1 rfl) ?_
        refine lv_if_eq (tgt := 116) hx hb dX6_stuffs_109 (by decide) (fun hc => ?_) (fun hc => ?_)
        · replace hf := ite_t hf hc
          refine lv_iload_n hx hb dX6_stuffs_116 rfl (lv_at hl 3 rfl) ?_
          obtain hf := hf
          obtain ⟨e0, e1⟩ := tup2 hf
          rw [e1] at hP hD
          exact CX_i F hr hlk hP hD hS e0 dX6_stuffs_117
        · replace hf := ite_f hf hc
          refine lv_iload_n hx hb dX6_stuffs_112 rfl (lv_at hl 2 rfl) ?_
          refine lv_goto (tgt := 117) hx hb dX6_stuffs_113 (by decide) ?_
          obtain hf := hf
          obtain ⟨e0, e1⟩ := tup2 hf
          rw [e1] at hP hD
          exact CX_i F hr hlk hP hD hS e0 dX6_stuffs_117
      · replace hf := ite_f hf hc
        refine lv_aload_n hx hb dX6_stuffs_23 rfl (lv_at hl 0 rfl) ?_
        refine va_get (D := D) (ci := 6) (C := RX6) (T := TX6) (N := 8) hx hb F.2.2.2.2 in_X6_stuffs_X6 F.2.2.2.1 hK.1 hP 0 rfl rfl 3 (Nat.le_of_ble_eq_true rfl) (F.2.2.2.2 (.fieldLink RX6 29 "LouderRoom" "wares" "LLouderRoom$Wares;") (List.mem_of_getElem? (i := 1) rfl)) (fun _ h9 => h9) rfl dX6_stuffs_24 ?_
        refine lv_iload hx hb dX6_stuffs_27 (lv_at hl 4 rfl) ?_
        obtain ⟨v7, hv, hf⟩ := obd hf
        have hp1 : List.Perm [oX6 h0 r0, oX1 ty (r0 1) a1 z1, oX1 ty (r0 2) a2 w2, oX5 ty (r0 3) a3 z3] ([oX5 ty (r0 3) a3 z3] ++ [oX6 h0 r0, oX1 ty (r0 1) a1 z1, oX1 ty (r0 2) a2 w2]) := ((List.perm_middle (a := (oX5 ty (r0 3) a3 z3 : va_W)) (l₁ := ([oX6 h0 r0, oX1 ty (r0 1) a1 z1, oX1 ty (r0 2) a2 w2] : List va_W)) (l₂ := ([] : List va_W))) : List.Perm ([oX6 h0 r0, oX1 ty (r0 1) a1 z1, oX1 ty (r0 2) a2 w2, oX5 ty (r0 3) a3 z3] : List va_W) ([oX5 ty (r0 3) a3 z3, oX6 h0 r0, oX1 ty (r0 1) a1 z1, oX1 ty (r0 2) a2 w2] : List va_W))
        refine ci_call (out := v7) (os := [oX6 h0 r0, oX1 ty (r0 1) a1 z1, oX1 ty (r0 2) a2 w2, oX5 ty (r0 3) a3 z3]) (oc := [oX5 ty (r0 3) a3 z3]) (oc' := [oX5 ty (r0 3) a3 z3]) (or_ := [oX6 h0 r0, oX1 ty (r0 1) a1 z1, oX1 ty (r0 2) a2 w2]) (os' := [oX6 h0 r0, oX1 ty (r0 1) a1 z1, oX1 ty (r0 2) a2 w2, oX5 ty (r0 3) a3 z3]) (va_runV (As := [.int y4]) (rest := []) F (c_X5_costOf l D ty (r0 3) a3 _ _ _ hv _) (cwV 1 F.2.2.2.2 gX6_stuffs_X5_costOf rfl rfl rfl ⟨rfl, hd_X5_costOf⟩ ⟨Nat.le_of_ble_eq_true rfl, Nat.le_of_ble_eq_true rfl⟩) (pre_v hK hP hD hp1 rfl rfl rfl) rfl rfl hl.1 rfl (lv_room (Nat.le_of_ble_eq_true rfl)) dX6_stuffs_29 ⟨Nat.zero_le _, Nat.zero_le _⟩) hp1 (((List.perm_middle (a := (oX6 h0 r0 : va_W)) (l₁ := ([oX5 ty (r0 3) a3 z3] : List va_W)) (l₂ := ([oX1 ty (r0 1) a1 z1, oX1 ty (r0 2) a2 w2] : List va_W))).trans (List.Perm.cons _ ((List.perm_middle (a := (oX1 ty (r0 1) a1 z1 : va_W)) (l₁ := ([oX5 ty (r0 3) a3 z3] : List va_W)) (l₂ := ([oX1 ty (r0 2) a2 w2] : List va_W))).trans (List.Perm.cons _ (List.perm_middle (a := (oX1 ty (r0 2) a2 w2 : va_W)) (l₁ := ([oX5 ty (r0 3) a3 z3] : List va_W)) (l₂ := ([] : List va_W))))))) : List.Perm ([oX5 ty (r0 3) a3 z3, oX6 h0 r0, oX1 ty (r0 1) a1 z1, oX1 ty (r0 2) a2 w2] : List va_W) ([oX6 h0 r0, oX1 ty (r0 1) a1 z1, oX1 ty (r0 2) a2 w2, oX5 ty (r0 3) a3 z3] : List va_W)) hP hD hS hA (fun H locs hP hD hS => ?_)
        clear hp1 hv
        refine lv_istore (lv' := [(5, .int v7), (0, .ref h0), (1, .int p1), (2, .int y2), (3, .int y3), (4, .int y4)]) hx hb dX6_stuffs_32 hl (by decide) rfl (fun ls hl => ?_)
        refine lv_iload_n hx hb dX6_stuffs_34 rfl (lv_at hl 3 rfl) ?_
        refine lv_bipush (v := (-9 : Int32)) hx hb dX6_stuffs_35 (by decide) ?_
        refine lv_icmp_eq (tgt := 46) hx hb dX6_stuffs_37 (by decide) (fun hc => ?_) (fun hc => ?_)
        · replace hf := ite_t hf hc
          exact J_46 y2 y3 y4 v7 w2 _ _ _ hP hD hS (lv_sub hl [1, 2, 3, 4, 5, 0] rfl) hf
        · replace hf := ite_f hf hc
          refine lv_iload hx hb dX6_stuffs_40 (lv_at hl 0 rfl) ?_
          refine lv_iload_n hx hb dX6_stuffs_42 rfl (lv_at hl 4 rfl) ?_
          refine lv_icmp_ge (tgt := 102) hx hb dX6_stuffs_43 (by decide) (fun hc => ?_) (fun hc => ?_)
          · replace hf := ite_t hf hc
            exact J_102 y2 y3 y4 w2 _ _ _ hP hD hS (lv_sub hl [1, 2, 3, 4, 5] rfl) hf
          · replace hf := ite_f hf hc
            exact J_46 y2 y3 y4 v7 w2 _ _ _ hP hD hS (lv_sub hl [1, 2, 3, 4, 5, 0] rfl) hf
  exact L_9 FU (-9 : Int32) (-9 : Int32) (0 : Int32) z2 _ _ _ hP hD hS (lv_sub hl [3, 4, 2, 1, 0] rfl) hf
def b_X6_loudest_3 (z1 : Ob) (r_3 : Int32 → Ob → Option (Int32 × Ob)) (y1 : Int32) (w2 : Ob) : Option (Int32 × Ob) := (if y1 < 0 then some ((-9 : Int32), w2) else (f_X1_copyFrom w2 z1).bind (fun g1 => bnd (sI g1 8 y1) (fun g2 => bnd (sI g2 10 (0 : Int32)) (fun g3 => bd2 (f_X1_restsHearing g3) (fun v4 g5 => (if v4 = 0 then bnd (y1 + (-1 : Int32)) (fun x6 => r_3 x6 g5) else some (y1, g5)))))))
def f_X6_loudest (z1 : Ob) (z2 : Ob) : Option (Int32 × Ob) := fuel2 (b_X6_loudest_3 z1) FU (9 : Int32) z2
abbrev rm_X6_loudest : Room := { frames := 7, cells := 0, slots := 0, locals := 152 }
theorem hd_X6_loudest : yX6_loudest.cls ≠ "java/lang/invoke/MethodHandle" ∧ yX6_loudest.cls ≠ "java/lang/invoke/VarHandle" ∧ (parseMethodDescriptor yX6_loudest.desc).map (fun d => d.parameters.length) = some 0 := by decide +kernel
theorem in_X6_loudest_X6 : ∀ w ∈ wsX60, w ∈ wsX6_loudest := fun w h => List.mem_cons_of_mem _ (List.mem_append_left _ (List.mem_append_right _ h))
theorem in_X6_loudest_X1 : ∀ w ∈ wsX10, w ∈ wsX6_loudest := fun w h => List.mem_cons_of_mem _ (List.mem_append_right _ h)
set_option maxHeartbeats 4000000 in
set_option maxRecDepth 100000 in
theorem c_X6_loudest (l : Launch) (D : va_G) (ty : TY) (h0 : Nat) (r0 : Nat → Nat) (a1 : Nat → Nat) (a2 : Nat → Nat) (z1 : Ob) (z2 : Ob) (o0 : Int32) (o1 : Ob) (hf : f_X6_loudest z1 z2 = some (o0, o1)) (sz : Nat) : CX l yX6_loudest wsX6_loudest rm_X6_loudest ([.ref h0] : List Value) D ty (fl [oX6 h0 r0, oX1 ty (r0 1) a1 z1, oX1 ty (r0 2) a2 z2]) sz (qI D o0 (fl [oX6 h0 r0, oX1 ty (r0 1) a1 z1, oX1 ty (r0 2) a2 o1])) 0 0 := by
  refine CX_of (cc := cX6_loudest) (maxL := 2) (ret := (some .int)) (C := RX6) (by decide) rfl rfl (Nat.le_of_ble_eq_true rfl) ?_
  intro p e s m below meth c A ls F hr hlk _ hK hP hD hS hA hl
  have hx := F.1
  have hb := F.2.1
  replace hl : lv_has ls 2 [(0, .ref h0)] := hl
  unfold f_X6_loudest at hf
  refine lv_bipush (v := (9 : Int32)) hx hb dX6_loudest_0 (by decide) ?_
  refine lv_istore_n (lv' := [(1, .int (9 : Int32)), (0, .ref h0)]) hx hb dX6_loudest_2 rfl hl (by decide) rfl (fun ls hl => ?_)
  have L_3 : ∀ (n : Nat) (y1 : Int32) (w2 : Ob) (H : Heap) (locs : List Loc) (ls : Array Slot), va_P D vwC (fl [oX6 h0 r0, oX1 ty (r0 1) a1 z1, oX1 ty (r0 2) a2 w2]) H → va_D A (fl [oX6 h0 r0, oX1 ty (r0 1) a1 z1, oX1 ty (r0 2) a2 w2]) → va_S A s.heap H locs → lv_has ls 2 [(0, .ref h0), (1, .int y1)] → fuel2 (b_X6_loudest_3 z1) n y1 w2 = some (o0, o1) → W p l e rm_X6_loudest s m ([.ref h0] : List Value).toArray below meth c H locs 0 0 (MQ below (qI D o0 (fl [oX6 h0 r0, oX1 ty (r0 1) a1 z1, oX1 ty (r0 2) a2 o1]) A) ([.ref h0] : List Value).toArray s 0 0 A) (F0 m 3 ls []) := by
    intro n
    induction n with
    | zero => intro y1 w2 H locs ls hP hD hS hl hf; cases hf
    | succ n ih_3 =>
      intro y1 w2 H locs ls hP hD hS hl hf
      replace hf : b_X6_loudest_3 z1 (fuel2 (b_X6_loudest_3 z1) n) y1 w2 = some (o0, o1) := hf
      generalize fuel2 (b_X6_loudest_3 z1) n = r_3 at ih_3 hf
      unfold b_X6_loudest_3 at hf
      refine lv_iload_n hx hb dX6_loudest_3 rfl (lv_at hl 1 rfl) ?_
      refine lv_if_lt (tgt := 52) hx hb dX6_loudest_4 (by decide) (fun hc => ?_) (fun hc => ?_)
      · replace hf := ite_t hf hc
        refine lv_bipush (v := (-9 : Int32)) hx hb dX6_loudest_52 (by decide) ?_
        obtain hf := hf
        obtain ⟨e0, e1⟩ := tup2 hf
        rw [e1] at hP hD
        exact CX_i F hr hlk hP hD hS e0 dX6_loudest_54
      · replace hf := ite_f hf hc
        refine lv_aload_n hx hb dX6_loudest_7 rfl (lv_at hl 0 rfl) ?_
        refine va_get (D := D) (ci := 6) (C := RX6) (T := TX6) (N := 8) hx hb F.2.2.2.2 in_X6_loudest_X6 F.2.2.2.1 hK.1 hP 0 rfl rfl 2 (Nat.le_of_ble_eq_true rfl) (F.2.2.2.2 (.fieldLink RX6 23 "LouderRoom" "trial" "LLouderRoom$Crowd;") (List.mem_of_getElem? (i := 1) rfl)) (fun _ h9 => h9) rfl dX6_loudest_8 ?_
        refine lv_aload_n hx hb dX6_loudest_11 rfl (lv_at hl 0 rfl) ?_
        refine va_get (D := D) (ci := 6) (C := RX6) (T := TX6) (N := 8) hx hb F.2.2.2.2 in_X6_loudest_X6 F.2.2.2.1 hK.1 hP 0 rfl rfl 1 (Nat.le_of_ble_eq_true rfl) (F.2.2.2.2 (.fieldLink RX6 19 "LouderRoom" "now" "LLouderRoom$Crowd;") (List.mem_of_getElem? (i := 2) rfl)) (fun _ h9 => h9) rfl dX6_loudest_12 ?_
        obtain ⟨g1, hv, hf⟩ := obd hf
        have hp1 : List.Perm [oX6 h0 r0, oX1 ty (r0 1) a1 z1, oX1 ty (r0 2) a2 w2] ([oX1 ty (r0 2) a2 w2, oX1 ty (r0 1) a1 z1] ++ [oX6 h0 r0]) := (((List.perm_middle (a := (oX1 ty (r0 2) a2 w2 : va_W)) (l₁ := ([oX6 h0 r0, oX1 ty (r0 1) a1 z1] : List va_W)) (l₂ := ([] : List va_W))).trans (List.Perm.cons _ (List.perm_middle (a := (oX1 ty (r0 1) a1 z1 : va_W)) (l₁ := ([oX6 h0 r0] : List va_W)) (l₂ := ([] : List va_W))))) : List.Perm ([oX6 h0 r0, oX1 ty (r0 1) a1 z1, oX1 ty (r0 2) a2 w2] : List va_W) ([oX1 ty (r0 2) a2 w2, oX1 ty (r0 1) a1 z1, oX6 h0 r0] : List va_W))
        refine cv_call (os := [oX6 h0 r0, oX1 ty (r0 1) a1 z1, oX1 ty (r0 2) a2 w2]) (oc := [oX1 ty (r0 2) a2 w2, oX1 ty (r0 1) a1 z1]) (oc' := [oX1 ty (r0 2) a2 g1, oX1 ty (r0 1) a1 z1]) (or_ := [oX6 h0 r0]) (os' := [oX6 h0 r0, oX1 ty (r0 1) a1 z1, oX1 ty (r0 2) a2 g1]) (va_runV (As := [.ref (r0 1)]) (rest := []) F (c_X1_copyFrom l D ty (r0 2) a2 (r0 1) a1 _ _ _ hv _) (cwV 1 F.2.2.2.2 gX6_loudest_X1_copyFrom rfl rfl rfl ⟨rfl, hd_X1_copyFrom⟩ ⟨Nat.le_of_ble_eq_true rfl, Nat.le_of_ble_eq_true rfl⟩) (pre_v hK hP hD hp1 rfl rfl rfl) rfl rfl hl.1 rfl (lv_room (Nat.le_of_ble_eq_true rfl)) dX6_loudest_15 ⟨Nat.zero_le _, Nat.zero_le _⟩) hp1 (((List.perm_middle (a := (oX6 h0 r0 : va_W)) (l₁ := ([oX1 ty (r0 2) a2 g1, oX1 ty (r0 1) a1 z1] : List va_W)) (l₂ := ([] : List va_W))).trans (List.Perm.cons _ (List.perm_middle (a := (oX1 ty (r0 1) a1 z1 : va_W)) (l₁ := ([oX1 ty (r0 2) a2 g1] : List va_W)) (l₂ := ([] : List va_W))))) : List.Perm ([oX1 ty (r0 2) a2 g1, oX1 ty (r0 1) a1 z1, oX6 h0 r0] : List va_W) ([oX6 h0 r0, oX1 ty (r0 1) a1 z1, oX1 ty (r0 2) a2 g1] : List va_W)) hP hD hS hA (fun H locs hP hD hS => ?_)
        clear hp1 hv
        refine lv_aload_n hx hb dX6_loudest_18 rfl (lv_at hl 0 rfl) ?_
        refine va_get (D := D) (ci := 6) (C := RX6) (T := TX6) (N := 8) hx hb F.2.2.2.2 in_X6_loudest_X6 F.2.2.2.1 hK.1 hP 0 rfl rfl 2 (Nat.le_of_ble_eq_true rfl) (F.2.2.2.2 (.fieldLink RX6 23 "LouderRoom" "trial" "LLouderRoom$Crowd;") (List.mem_of_getElem? (i := 1) rfl)) (fun _ h9 => h9) rfl dX6_loudest_19 ?_
        refine lv_iload_n hx hb dX6_loudest_22 rfl (lv_at hl 1 rfl) ?_
        refine pt_putN (D := D) (ci := 1) (fty := .int) (C := RX1) (T := TX1) (N := 12) (w1 := fl [oX6 h0 r0, oX1 ty (r0 1) a1 z1, oX1 ty (r0 2) a2 (sI g1 8 y1)]) F in_X6_loudest_X1 tyX1 tyX1_ok nmX1 hK.1 hP hD hS 8 rfl rfl 8 (Nat.le_of_ble_eq_true rfl) (KN.use hK 13 (w := .fieldLinkNest RX6 89 "LouderRoom$Crowd" "music" "I" "LouderRoom") rfl _) (fun _ h9 => h9) rfl (by decide +kernel) rfl rfl (Nat.le_of_ble_eq_true rfl) rfl dX6_loudest_23 (fun H locs hP hD hS => ?_)
        obtain ⟨g2, ex⟩ : ∃ y : Ob, y = (sI g1 8 y1) := ⟨_, rfl⟩
        replace hf := bnd_at hf ex; rw [← ex] at hP hD; clear ex
        refine lv_aload_n hx hb dX6_loudest_26 rfl (lv_at hl 0 rfl) ?_
        refine va_get (D := D) (ci := 6) (C := RX6) (T := TX6) (N := 8) hx hb F.2.2.2.2 in_X6_loudest_X6 F.2.2.2.1 hK.1 hP 0 rfl rfl 2 (Nat.le_of_ble_eq_true rfl) (F.2.2.2.2 (.fieldLink RX6 23 "LouderRoom" "trial" "LLouderRoom$Crowd;") (List.mem_of_getElem? (i := 1) rfl)) (fun _ h9 => h9) rfl dX6_loudest_27 ?_
        refine lv_iconst (v := (0 : Int32)) hx hb dX6_loudest_30 (by decide) ?_
        refine pt_putN (D := D) (ci := 1) (fty := .boolean) (C := RX1) (T := TX1) (N := 12) (w1 := fl [oX6 h0 r0, oX1 ty (r0 1) a1 z1, oX1 ty (r0 2) a2 (sI g2 10 (0 : Int32))]) F in_X6_loudest_X1 tyX1 tyX1_ok nmX1 hK.1 hP hD hS 8 rfl rfl 10 (Nat.le_of_ble_eq_true rfl) (KN.use hK 14 (w := .fieldLinkNest RX6 156 "LouderRoom$Crowd" "follows" "Z" "LouderRoom") rfl _) (fun _ h9 => h9) rfl (by decide +kernel) (by decide +kernel) (by decide +kernel) (Nat.le_of_ble_eq_true rfl) rfl dX6_loudest_31 (fun H locs hP hD hS => ?_)
        obtain ⟨g3, ex⟩ : ∃ y : Ob, y = (sI g2 10 (0 : Int32)) := ⟨_, rfl⟩
        replace hf := bnd_at hf ex; rw [← ex] at hP hD; clear ex
        refine lv_aload_n hx hb dX6_loudest_34 rfl (lv_at hl 0 rfl) ?_
        refine va_get (D := D) (ci := 6) (C := RX6) (T := TX6) (N := 8) hx hb F.2.2.2.2 in_X6_loudest_X6 F.2.2.2.1 hK.1 hP 0 rfl rfl 2 (Nat.le_of_ble_eq_true rfl) (F.2.2.2.2 (.fieldLink RX6 23 "LouderRoom" "trial" "LLouderRoom$Crowd;") (List.mem_of_getElem? (i := 1) rfl)) (fun _ h9 => h9) rfl dX6_loudest_35 ?_
        obtain ⟨v4, g5, hv, hf⟩ := obd2 hf
        have hp1 : List.Perm [oX6 h0 r0, oX1 ty (r0 1) a1 z1, oX1 ty (r0 2) a2 g3] ([oX1 ty (r0 2) a2 g3] ++ [oX6 h0 r0, oX1 ty (r0 1) a1 z1]) := ((List.perm_middle (a := (oX1 ty (r0 2) a2 g3 : va_W)) (l₁ := ([oX6 h0 r0, oX1 ty (r0 1) a1 z1] : List va_W)) (l₂ := ([] : List va_W))) : List.Perm ([oX6 h0 r0, oX1 ty (r0 1) a1 z1, oX1 ty (r0 2) a2 g3] : List va_W) ([oX1 ty (r0 2) a2 g3, oX6 h0 r0, oX1 ty (r0 1) a1 z1] : List va_W))
        refine ci_call (out := v4) (os := [oX6 h0 r0, oX1 ty (r0 1) a1 z1, oX1 ty (r0 2) a2 g3]) (oc := [oX1 ty (r0 2) a2 g3]) (oc' := [oX1 ty (r0 2) a2 g5]) (or_ := [oX6 h0 r0, oX1 ty (r0 1) a1 z1]) (os' := [oX6 h0 r0, oX1 ty (r0 1) a1 z1, oX1 ty (r0 2) a2 g5]) (va_runV (As := []) (rest := []) F (c_X1_restsHearing l D ty (r0 2) a2 _ _ _ hv _) (cwV 0 F.2.2.2.2 gX6_loudest_X1_restsHearing rfl rfl rfl ⟨rfl, hd_X1_restsHearing⟩ ⟨Nat.le_of_ble_eq_true rfl, Nat.le_of_ble_eq_true rfl⟩) (pre_v hK hP hD hp1 rfl rfl rfl) rfl rfl hl.1 rfl (lv_room (Nat.le_of_ble_eq_true rfl)) dX6_loudest_38 ⟨Nat.zero_le _, Nat.zero_le _⟩) hp1 (((List.perm_middle (a := (oX6 h0 r0 : va_W)) (l₁ := ([oX1 ty (r0 2) a2 g5] : List va_W)) (l₂ := ([oX1 ty (r0 1) a1 z1] : List va_W))).trans (List.Perm.cons _ (List.perm_middle (a := (oX1 ty (r0 1) a1 z1 : va_W)) (l₁ := ([oX1 ty (r0 2) a2 g5] : List va_W)) (l₂ := ([] : List va_W))))) : List.Perm ([oX1 ty (r0 2) a2 g5, oX6 h0 r0, oX1 ty (r0 1) a1 z1] : List va_W) ([oX6 h0 r0, oX1 ty (r0 1) a1 z1, oX1 ty (r0 2) a2 g5] : List va_W)) hP hD hS hA (fun H locs hP hD hS => ?_)
        clear hp1 hv
        refine lv_if_eq (tgt := 46) hx hb dX6_loudest_41 (by decide) (fun hc => ?_) (fun hc => ?_)
        · replace hf := ite_t hf hc
          obtain ⟨x6, ex⟩ : ∃ y : Int32, y = (y1 + (-1 : Int32)) := ⟨_, rfl⟩
          replace hf := bnd_at hf ex
          refine lv_iinc (v := x6) (lv' := [(1, .int x6), (0, .ref h0)]) hx hb dX6_loudest_46 hl (k := 1) rfl (by rw [ex]; rfl) (by decide) rfl (fun ls hl => ?_)
          clear ex
          refine lv_goto (tgt := 3) hx hb dX6_loudest_49 (by decide) ?_
          exact ih_3 x6 g5 _ _ _ hP hD hS (lv_sub hl [1, 0] rfl) hf
        · replace hf := ite_f hf hc
          refine lv_iload_n hx hb dX6_loudest_44 rfl (lv_at hl 1 rfl) ?_
          obtain hf := hf
          obtain ⟨e0, e1⟩ := tup2 hf
          rw [e1] at hP hD
          exact CX_i F hr hlk hP hD hS e0 dX6_loudest_45
  exact L_3 FU (9 : Int32) z2 _ _ _ hP hD hS (lv_sub hl [1, 0] rfl) hf
def b_X6_softer_13 (z1 : Ob) (r_13 : Int32 → Ob → Option (Int32 × Ob)) (y1 : Int32) (w2 : Ob) : Option (Int32 × Ob) := (if (9 : Int32) < y1 then some ((-9 : Int32), w2) else bd2 (f_X1_speakAll w2 y1) (fun v2 g3 => (f_X1_allHear g3).bind (fun v4 => (if v4 = 0 then bnd (y1 + (1 : Int32)) (fun x5 => r_13 x5 g3) else some (y1, g3)))))
def f_X6_softer (z1 : Ob) (z2 : Ob) : Option (Int32 × Ob) := (f_X1_copyFrom z2 z1).bind (fun g1 => fuel2 (b_X6_softer_13 z1) FU (1 : Int32) g1)
abbrev rm_X6_softer : Room := { frames := 6, cells := 0, slots := 0, locals := 132 }
theorem hd_X6_softer : yX6_softer.cls ≠ "java/lang/invoke/MethodHandle" ∧ yX6_softer.cls ≠ "java/lang/invoke/VarHandle" ∧ (parseMethodDescriptor yX6_softer.desc).map (fun d => d.parameters.length) = some 0 := by decide +kernel
theorem in_X6_softer_X6 : ∀ w ∈ wsX60, w ∈ wsX6_softer := fun w h => List.mem_cons_of_mem _ (List.mem_append_left _ (List.mem_append_right _ h))
set_option maxHeartbeats 4000000 in
set_option maxRecDepth 100000 in
theorem c_X6_softer (l : Launch) (D : va_G) (ty : TY) (h0 : Nat) (r0 : Nat → Nat) (a1 : Nat → Nat) (a2 : Nat → Nat) (z1 : Ob) (z2 : Ob) (o0 : Int32) (o1 : Ob) (hf : f_X6_softer z1 z2 = some (o0, o1)) (sz : Nat) : CX l yX6_softer wsX6_softer rm_X6_softer ([.ref h0] : List Value) D ty (fl [oX6 h0 r0, oX1 ty (r0 1) a1 z1, oX1 ty (r0 2) a2 z2]) sz (qI D o0 (fl [oX6 h0 r0, oX1 ty (r0 1) a1 z1, oX1 ty (r0 2) a2 o1])) 0 0 := by
  refine CX_of (cc := cX6_softer) (maxL := 2) (ret := (some .int)) (C := RX6) (by decide) rfl rfl (Nat.le_of_ble_eq_true rfl) ?_
  intro p e s m below meth c A ls F hr hlk _ hK hP hD hS hA hl
  have hx := F.1
  have hb := F.2.1
  replace hl : lv_has ls 2 [(0, .ref h0)] := hl
  unfold f_X6_softer at hf
  refine lv_aload_n hx hb dX6_softer_0 rfl (lv_at hl 0 rfl) ?_
  refine va_get (D := D) (ci := 6) (C := RX6) (T := TX6) (N := 8) hx hb F.2.2.2.2 in_X6_softer_X6 F.2.2.2.1 hK.1 hP 0 rfl rfl 2 (Nat.le_of_ble_eq_true rfl) (F.2.2.2.2 (.fieldLink RX6 23 "LouderRoom" "trial" "LLouderRoom$Crowd;") (List.mem_of_getElem? (i := 1) rfl)) (fun _ h9 => h9) rfl dX6_softer_1 ?_
  refine lv_aload_n hx hb dX6_softer_4 rfl (lv_at hl 0 rfl) ?_
  refine va_get (D := D) (ci := 6) (C := RX6) (T := TX6) (N := 8) hx hb F.2.2.2.2 in_X6_softer_X6 F.2.2.2.1 hK.1 hP 0 rfl rfl 1 (Nat.le_of_ble_eq_true rfl) (F.2.2.2.2 (.fieldLink RX6 19 "LouderRoom" "now" "LLouderRoom$Crowd;") (List.mem_of_getElem? (i := 2) rfl)) (fun _ h9 => h9) rfl dX6_softer_5 ?_
  obtain ⟨g1, hv, hf⟩ := obd hf
  have hp1 : List.Perm [oX6 h0 r0, oX1 ty (r0 1) a1 z1, oX1 ty (r0 2) a2 z2] ([oX1 ty (r0 2) a2 z2, oX1 ty (r0 1) a1 z1] ++ [oX6 h0 r0]) := (((List.perm_middle (a := (oX1 ty (r0 2) a2 z2 : va_W)) (l₁ := ([oX6 h0 r0, oX1 ty (r0 1) a1 z1] : List va_W)) (l₂ := ([] : List va_W))).trans (List.Perm.cons _ (List.perm_middle (a := (oX1 ty (r0 1) a1 z1 : va_W)) (l₁ := ([oX6 h0 r0] : List va_W)) (l₂ := ([] : List va_W))))) : List.Perm ([oX6 h0 r0, oX1 ty (r0 1) a1 z1, oX1 ty (r0 2) a2 z2] : List va_W) ([oX1 ty (r0 2) a2 z2, oX1 ty (r0 1) a1 z1, oX6 h0 r0] : List va_W))
  refine cv_call (os := [oX6 h0 r0, oX1 ty (r0 1) a1 z1, oX1 ty (r0 2) a2 z2]) (oc := [oX1 ty (r0 2) a2 z2, oX1 ty (r0 1) a1 z1]) (oc' := [oX1 ty (r0 2) a2 g1, oX1 ty (r0 1) a1 z1]) (or_ := [oX6 h0 r0]) (os' := [oX6 h0 r0, oX1 ty (r0 1) a1 z1, oX1 ty (r0 2) a2 g1]) (va_runV (As := [.ref (r0 1)]) (rest := []) F (c_X1_copyFrom l D ty (r0 2) a2 (r0 1) a1 _ _ _ hv _) (cwV 1 F.2.2.2.2 gX6_softer_X1_copyFrom rfl rfl rfl ⟨rfl, hd_X1_copyFrom⟩ ⟨Nat.le_of_ble_eq_true rfl, Nat.le_of_ble_eq_true rfl⟩) (pre_v hK hP hD hp1 rfl rfl rfl) rfl rfl hl.1 rfl (lv_room (Nat.le_of_ble_eq_true rfl)) dX6_softer_8 ⟨Nat.zero_le _, Nat.zero_le _⟩) hp1 (((List.perm_middle (a := (oX6 h0 r0 : va_W)) (l₁ := ([oX1 ty (r0 2) a2 g1, oX1 ty (r0 1) a1 z1] : List va_W)) (l₂ := ([] : List va_W))).trans (List.Perm.cons _ (List.perm_middle (a := (oX1 ty (r0 1) a1 z1 : va_W)) (l₁ := ([oX1 ty (r0 2) a2 g1] : List va_W)) (l₂ := ([] : List va_W))))) : List.Perm ([oX1 ty (r0 2) a2 g1, oX1 ty (r0 1) a1 z1, oX6 h0 r0] : List va_W) ([oX6 h0 r0, oX1 ty (r0 1) a1 z1, oX1 ty (r0 2) a2 g1] : List va_W)) hP hD hS hA (fun H locs hP hD hS => ?_)
  clear hp1 hv
  refine lv_iconst (v := (1 : Int32)) hx hb dX6_softer_11 (by decide) ?_
  refine lv_istore_n (lv' := [(1, .int (1 : Int32)), (0, .ref h0)]) hx hb dX6_softer_12 rfl hl (by decide) rfl (fun ls hl => ?_)
  have L_13 : ∀ (n : Nat) (y1 : Int32) (w2 : Ob) (H : Heap) (locs : List Loc) (ls : Array Slot), va_P D vwC (fl [oX6 h0 r0, oX1 ty (r0 1) a1 z1, oX1 ty (r0 2) a2 w2]) H → va_D A (fl [oX6 h0 r0, oX1 ty (r0 1) a1 z1, oX1 ty (r0 2) a2 w2]) → va_S A s.heap H locs → lv_has ls 2 [(0, .ref h0), (1, .int y1)] → fuel2 (b_X6_softer_13 z1) n y1 w2 = some (o0, o1) → W p l e rm_X6_softer s m ([.ref h0] : List Value).toArray below meth c H locs 0 0 (MQ below (qI D o0 (fl [oX6 h0 r0, oX1 ty (r0 1) a1 z1, oX1 ty (r0 2) a2 o1]) A) ([.ref h0] : List Value).toArray s 0 0 A) (F0 m 13 ls []) := by
    intro n
    induction n with
    | zero => intro y1 w2 H locs ls hP hD hS hl hf; cases hf
    | succ n ih_13 =>
      intro y1 w2 H locs ls hP hD hS hl hf
      replace hf : b_X6_softer_13 z1 (fuel2 (b_X6_softer_13 z1) n) y1 w2 = some (o0, o1) := hf
      generalize fuel2 (b_X6_softer_13 z1) n = r_13 at ih_13 hf
      unfold b_X6_softer_13 at hf
      refine lv_iload_n hx hb dX6_softer_13 rfl (lv_at hl 1 rfl) ?_
      refine lv_bipush (v := (9 : Int32)) hx hb dX6_softer_14 (by decide) ?_
      refine lv_icmp_gt (tgt := 46) hx hb dX6_softer_16 (by decide) (fun hc => ?_) (fun hc => ?_)
      · replace hf := ite_t hf hc
        refine lv_bipush (v := (-9 : Int32)) hx hb dX6_softer_46 (by decide) ?_
        obtain hf := hf
        obtain ⟨e0, e1⟩ := tup2 hf
        rw [e1] at hP hD
        exact CX_i F hr hlk hP hD hS e0 dX6_softer_48
      · replace hf := ite_f hf hc
        refine lv_aload_n hx hb dX6_softer_19 rfl (lv_at hl 0 rfl) ?_
        refine va_get (D := D) (ci := 6) (C := RX6) (T := TX6) (N := 8) hx hb F.2.2.2.2 in_X6_softer_X6 F.2.2.2.1 hK.1 hP 0 rfl rfl 2 (Nat.le_of_ble_eq_true rfl) (F.2.2.2.2 (.fieldLink RX6 23 "LouderRoom" "trial" "LLouderRoom$Crowd;") (List.mem_of_getElem? (i := 1) rfl)) (fun _ h9 => h9) rfl dX6_softer_20 ?_
        refine lv_iload_n hx hb dX6_softer_23 rfl (lv_at hl 1 rfl) ?_
        obtain ⟨v2, g3, hv, hf⟩ := obd2 hf
        have hp1 : List.Perm [oX6 h0 r0, oX1 ty (r0 1) a1 z1, oX1 ty (r0 2) a2 w2] ([oX1 ty (r0 2) a2 w2] ++ [oX6 h0 r0, oX1 ty (r0 1) a1 z1]) := ((List.perm_middle (a := (oX1 ty (r0 2) a2 w2 : va_W)) (l₁ := ([oX6 h0 r0, oX1 ty (r0 1) a1 z1] : List va_W)) (l₂ := ([] : List va_W))) : List.Perm ([oX6 h0 r0, oX1 ty (r0 1) a1 z1, oX1 ty (r0 2) a2 w2] : List va_W) ([oX1 ty (r0 2) a2 w2, oX6 h0 r0, oX1 ty (r0 1) a1 z1] : List va_W))
        refine ci_call (out := v2) (os := [oX6 h0 r0, oX1 ty (r0 1) a1 z1, oX1 ty (r0 2) a2 w2]) (oc := [oX1 ty (r0 2) a2 w2]) (oc' := [oX1 ty (r0 2) a2 g3]) (or_ := [oX6 h0 r0, oX1 ty (r0 1) a1 z1]) (os' := [oX6 h0 r0, oX1 ty (r0 1) a1 z1, oX1 ty (r0 2) a2 g3]) (va_runV (As := [.int y1]) (rest := []) F (c_X1_speakAll l D ty (r0 2) a2 _ _ _ _ hv _) (cwV 1 F.2.2.2.2 gX6_softer_X1_speakAll rfl rfl rfl ⟨rfl, hd_X1_speakAll⟩ ⟨Nat.le_of_ble_eq_true rfl, Nat.le_of_ble_eq_true rfl⟩) (pre_v hK hP hD hp1 rfl rfl rfl) rfl rfl hl.1 rfl (lv_room (Nat.le_of_ble_eq_true rfl)) dX6_softer_24 ⟨Nat.zero_le _, Nat.zero_le _⟩) hp1 (((List.perm_middle (a := (oX6 h0 r0 : va_W)) (l₁ := ([oX1 ty (r0 2) a2 g3] : List va_W)) (l₂ := ([oX1 ty (r0 1) a1 z1] : List va_W))).trans (List.Perm.cons _ (List.perm_middle (a := (oX1 ty (r0 1) a1 z1 : va_W)) (l₁ := ([oX1 ty (r0 2) a2 g3] : List va_W)) (l₂ := ([] : List va_W))))) : List.Perm ([oX1 ty (r0 2) a2 g3, oX6 h0 r0, oX1 ty (r0 1) a1 z1] : List va_W) ([oX6 h0 r0, oX1 ty (r0 1) a1 z1, oX1 ty (r0 2) a2 g3] : List va_W)) hP hD hS hA (fun H locs hP hD hS => ?_)
        clear hp1 hv
        refine lv_pop hx hb dX6_softer_27 rfl ?_
        refine lv_aload_n hx hb dX6_softer_28 rfl (lv_at hl 0 rfl) ?_
        refine va_get (D := D) (ci := 6) (C := RX6) (T := TX6) (N := 8) hx hb F.2.2.2.2 in_X6_softer_X6 F.2.2.2.1 hK.1 hP 0 rfl rfl 2 (Nat.le_of_ble_eq_true rfl) (F.2.2.2.2 (.fieldLink RX6 23 "LouderRoom" "trial" "LLouderRoom$Crowd;") (List.mem_of_getElem? (i := 1) rfl)) (fun _ h9 => h9) rfl dX6_softer_29 ?_
        obtain ⟨v4, hv, hf⟩ := obd hf
        have hp1 : List.Perm [oX6 h0 r0, oX1 ty (r0 1) a1 z1, oX1 ty (r0 2) a2 g3] ([oX1 ty (r0 2) a2 g3] ++ [oX6 h0 r0, oX1 ty (r0 1) a1 z1]) := ((List.perm_middle (a := (oX1 ty (r0 2) a2 g3 : va_W)) (l₁ := ([oX6 h0 r0, oX1 ty (r0 1) a1 z1] : List va_W)) (l₂ := ([] : List va_W))) : List.Perm ([oX6 h0 r0, oX1 ty (r0 1) a1 z1, oX1 ty (r0 2) a2 g3] : List va_W) ([oX1 ty (r0 2) a2 g3, oX6 h0 r0, oX1 ty (r0 1) a1 z1] : List va_W))
        refine ci_call (out := v4) (os := [oX6 h0 r0, oX1 ty (r0 1) a1 z1, oX1 ty (r0 2) a2 g3]) (oc := [oX1 ty (r0 2) a2 g3]) (oc' := [oX1 ty (r0 2) a2 g3]) (or_ := [oX6 h0 r0, oX1 ty (r0 1) a1 z1]) (os' := [oX6 h0 r0, oX1 ty (r0 1) a1 z1, oX1 ty (r0 2) a2 g3]) (va_runV (As := []) (rest := []) F (c_X1_allHear l D ty (r0 2) a2 _ _ hv _) (cwV 0 F.2.2.2.2 gX6_softer_X1_allHear rfl rfl rfl ⟨rfl, hd_X1_allHear⟩ ⟨Nat.le_of_ble_eq_true rfl, Nat.le_of_ble_eq_true rfl⟩) (pre_v hK hP hD hp1 rfl rfl rfl) rfl rfl hl.1 rfl (lv_room (Nat.le_of_ble_eq_true rfl)) dX6_softer_32 ⟨Nat.zero_le _, Nat.zero_le _⟩) hp1 (((List.perm_middle (a := (oX6 h0 r0 : va_W)) (l₁ := ([oX1 ty (r0 2) a2 g3] : List va_W)) (l₂ := ([oX1 ty (r0 1) a1 z1] : List va_W))).trans (List.Perm.cons _ (List.perm_middle (a := (oX1 ty (r0 1) a1 z1 : va_W)) (l₁ := ([oX1 ty (r0 2) a2 g3] : List va_W)) (l₂ := ([] : List va_W))))) : List.Perm ([oX1 ty (r0 2) a2 g3, oX6 h0 r0, oX1 ty (r0 1) a1 z1] : List va_W) ([oX6 h0 r0, oX1 ty (r0 1) a1 z1, oX1 ty (r0 2) a2 g3] : List va_W)) hP hD hS hA (fun H locs hP hD hS => ?_)
        clear hp1 hv
        refine lv_if_eq (tgt := 40) hx hb dX6_softer_35 (by decide) (fun hc => ?_) (fun hc => ?_)
        · replace hf := ite_t hf hc
          obtain ⟨x5, ex⟩ : ∃ y : Int32, y = (y1 + (1 : Int32)) := ⟨_, rfl⟩
          replace hf := bnd_at hf ex
          refine lv_iinc (v := x5) (lv' := [(1, .int x5), (0, .ref h0)]) hx hb dX6_softer_40 hl (k := 1) rfl (by rw [ex]; rfl) (by decide) rfl (fun ls hl => ?_)
          clear ex
          refine lv_goto (tgt := 13) hx hb dX6_softer_43 (by decide) ?_
          exact ih_13 x5 g3 _ _ _ hP hD hS (lv_sub hl [1, 0] rfl) hf
        · replace hf := ite_f hf hc
          refine lv_iload_n hx hb dX6_softer_38 rfl (lv_at hl 1 rfl) ?_
          obtain hf := hf
          obtain ⟨e0, e1⟩ := tup2 hf
          rw [e1] at hP hD
          exact CX_i F hr hlk hP hD hS e0 dX6_softer_39
  exact L_13 FU (1 : Int32) g1 _ _ _ hP hD hS (lv_sub hl [1, 0] rfl) hf
def j_X6_overhears_86 (z1 : Ob) (p1 : Int32) (r_38 : Int32 → Int32 → Option (Int32)) (y2 : Int32) (y3 : Int32) (y4 : Int32) (y5 : Int32) : Option (Int32) := bnd (y5 + (1 : Int32)) (fun x4 => r_38 y4 x4)
def b_X6_overhears_38 (z1 : Ob) (p1 : Int32) (y2 : Int32) (y3 : Int32) (r_38 : Int32 → Int32 → Option (Int32)) (y4 : Int32) (y5 : Int32) : Option (Int32) := (if (z1.1 6) ≤ y5 then some y4 else (f_X1_fromRing z1 y5 y2).bind (fun v5 => (if v5 < (1 : Int32) then j_X6_overhears_86 z1 p1 r_38 y2 y3 y4 y5 else (if v5 < (y3 - v5) then j_X6_overhears_86 z1 p1 r_38 y2 y3 y4 y5 else bnd (y4 ||| ((1 : Int32) <<< (y5 &&& 31))) (fun x6 => j_X6_overhears_86 z1 p1 r_38 y2 y3 x6 y5)))))
def f_X6_overhears (z1 : Ob) (p1 : Int32) : Option (Int32) := (f_X1_has z1 p1).bind (fun v1 => (if v1 = 0 then some (-1 : Int32) else (if inb p1 8 = true then bnd (z1.2 1 p1.toNatClampNeg) (fun x2 => (f_X1_noiseAt z1 x2).bind (fun v3 => fuel2 (b_X6_overhears_38 z1 p1 x2 v3) FU (0 : Int32) (0 : Int32))) else none)))
abbrev rm_X6_overhears : Room := { frames := 4, cells := 0, slots := 0, locals := 90 }
theorem hd_X6_overhears : yX6_overhears.cls ≠ "java/lang/invoke/MethodHandle" ∧ yX6_overhears.cls ≠ "java/lang/invoke/VarHandle" ∧ (parseMethodDescriptor yX6_overhears.desc).map (fun d => d.parameters.length) = some 1 := by decide +kernel
theorem in_X6_overhears_X6 : ∀ w ∈ wsX60, w ∈ wsX6_overhears := fun w h => List.mem_cons_of_mem _ (List.mem_append_left _ (List.mem_append_right _ h))
theorem in_X6_overhears_X1 : ∀ w ∈ wsX10, w ∈ wsX6_overhears := fun w h => List.mem_cons_of_mem _ (List.mem_append_right _ h)
set_option maxHeartbeats 4000000 in
set_option maxRecDepth 100000 in
theorem c_X6_overhears (l : Launch) (D : va_G) (ty : TY) (h0 : Nat) (r0 : Nat → Nat) (a1 : Nat → Nat) (z1 : Ob) (p1 : Int32) (o0 : Int32) (hf : f_X6_overhears z1 p1 = some o0) (sz : Nat) : CX l yX6_overhears wsX6_overhears rm_X6_overhears ([.ref h0, .int p1] : List Value) D ty (fl [oX6 h0 r0, oX1 ty (r0 1) a1 z1]) sz (qI D o0 (fl [oX6 h0 r0, oX1 ty (r0 1) a1 z1])) 0 0 := by
  refine CX_of (cc := cX6_overhears) (maxL := 7) (ret := (some .int)) (C := RX6) (by decide) rfl rfl (Nat.le_of_ble_eq_true rfl) ?_
  intro p e s m below meth c A ls F hr hlk _ hK hP hD hS hA hl
  have hx := F.1
  have hb := F.2.1
  replace hl : lv_has ls 7 [(0, .ref h0), (1, .int p1)] := hl
  unfold f_X6_overhears at hf
  refine lv_aload_n hx hb dX6_overhears_0 rfl (lv_at hl 0 rfl) ?_
  refine va_get (D := D) (ci := 6) (C := RX6) (T := TX6) (N := 8) hx hb F.2.2.2.2 in_X6_overhears_X6 F.2.2.2.1 hK.1 hP 0 rfl rfl 1 (Nat.le_of_ble_eq_true rfl) (F.2.2.2.2 (.fieldLink RX6 19 "LouderRoom" "now" "LLouderRoom$Crowd;") (List.mem_of_getElem? (i := 1) rfl)) (fun _ h9 => h9) rfl dX6_overhears_1 ?_
  refine lv_iload_n hx hb dX6_overhears_4 rfl (lv_at hl 1 rfl) ?_
  obtain ⟨v1, hv, hf⟩ := obd hf
  have hp1 : List.Perm [oX6 h0 r0, oX1 ty (r0 1) a1 z1] ([oX1 ty (r0 1) a1 z1] ++ [oX6 h0 r0]) := ((List.perm_middle (a := (oX1 ty (r0 1) a1 z1 : va_W)) (l₁ := ([oX6 h0 r0] : List va_W)) (l₂ := ([] : List va_W))) : List.Perm ([oX6 h0 r0, oX1 ty (r0 1) a1 z1] : List va_W) ([oX1 ty (r0 1) a1 z1, oX6 h0 r0] : List va_W))
  refine ci_call (out := v1) (os := [oX6 h0 r0, oX1 ty (r0 1) a1 z1]) (oc := [oX1 ty (r0 1) a1 z1]) (oc' := [oX1 ty (r0 1) a1 z1]) (or_ := [oX6 h0 r0]) (os' := [oX6 h0 r0, oX1 ty (r0 1) a1 z1]) (va_runV (As := [.int p1]) (rest := []) F (c_X1_has l D ty (r0 1) a1 _ _ _ hv _) (cwV 1 F.2.2.2.2 gX6_overhears_X1_has rfl rfl rfl ⟨rfl, hd_X1_has⟩ ⟨Nat.le_of_ble_eq_true rfl, Nat.le_of_ble_eq_true rfl⟩) (pre_v hK hP hD hp1 rfl rfl rfl) rfl rfl hl.1 rfl (lv_room (Nat.le_of_ble_eq_true rfl)) dX6_overhears_5 ⟨Nat.zero_le _, Nat.zero_le _⟩) hp1 ((List.perm_middle (a := (oX6 h0 r0 : va_W)) (l₁ := ([oX1 ty (r0 1) a1 z1] : List va_W)) (l₂ := ([] : List va_W))) : List.Perm ([oX1 ty (r0 1) a1 z1, oX6 h0 r0] : List va_W) ([oX6 h0 r0, oX1 ty (r0 1) a1 z1] : List va_W)) hP hD hS hA (fun H locs hP hD hS => ?_)
  clear hp1 hv
  refine lv_if_ne (tgt := 13) hx hb dX6_overhears_8 (by decide) (fun hc => ?_) (fun hc => ?_)
  · replace hf := ite_f hf hc
    refine lv_aload_n hx hb dX6_overhears_13 rfl (lv_at hl 0 rfl) ?_
    refine va_get (D := D) (ci := 6) (C := RX6) (T := TX6) (N := 8) hx hb F.2.2.2.2 in_X6_overhears_X6 F.2.2.2.1 hK.1 hP 0 rfl rfl 1 (Nat.le_of_ble_eq_true rfl) (F.2.2.2.2 (.fieldLink RX6 19 "LouderRoom" "now" "LLouderRoom$Crowd;") (List.mem_of_getElem? (i := 1) rfl)) (fun _ h9 => h9) rfl dX6_overhears_14 ?_
    refine va_getN (D := D) (ci := 1) (C := RX1) (T := TX1) (N := 12) hx hb F.2.2.2.2 in_X6_overhears_X1 F.2.2.2.1 hK.1 hP 1 rfl rfl 1 (Nat.le_of_ble_eq_true rfl) (KN.use hK 4 (w := .fieldLinkNest RX6 117 "LouderRoom$Crowd" "cell" "[I" "LouderRoom") rfl _) (fun _ h9 => h9) rfl dX6_overhears_17 ?_
    refine lv_iload_n hx hb dX6_overhears_20 rfl (lv_at hl 1 rfl) ?_
    obtain ⟨hi, hf⟩ := grd hf
    refine va_iald hx hb hK.1 hP 3 0 rfl rfl (inb_in hi) dX6_overhears_21 ?_
    refine lv_topi (fun x2 ex => ?_)
    replace hf := bnd_at hf ex; clear ex
    refine lv_istore_n (lv' := [(2, .int x2), (0, .ref h0), (1, .int p1)]) hx hb dX6_overhears_22 rfl hl (by decide) rfl (fun ls hl => ?_)
    refine lv_aload_n hx hb dX6_overhears_23 rfl (lv_at hl 1 rfl) ?_
    refine va_get (D := D) (ci := 6) (C := RX6) (T := TX6) (N := 8) hx hb F.2.2.2.2 in_X6_overhears_X6 F.2.2.2.1 hK.1 hP 0 rfl rfl 1 (Nat.le_of_ble_eq_true rfl) (F.2.2.2.2 (.fieldLink RX6 19 "LouderRoom" "now" "LLouderRoom$Crowd;") (List.mem_of_getElem? (i := 1) rfl)) (fun _ h9 => h9) rfl dX6_overhears_24 ?_
    refine lv_iload_n hx hb dX6_overhears_27 rfl (lv_at hl 0 rfl) ?_
    obtain ⟨v3, hv, hf⟩ := obd hf
    have hp1 : List.Perm [oX6 h0 r0, oX1 ty (r0 1) a1 z1] ([oX1 ty (r0 1) a1 z1] ++ [oX6 h0 r0]) := ((List.perm_middle (a := (oX1 ty (r0 1) a1 z1 : va_W)) (l₁ := ([oX6 h0 r0] : List va_W)) (l₂ := ([] : List va_W))) : List.Perm ([oX6 h0 r0, oX1 ty (r0 1) a1 z1] : List va_W) ([oX1 ty (r0 1) a1 z1, oX6 h0 r0] : List va_W))
    refine ci_call (out := v3) (os := [oX6 h0 r0, oX1 ty (r0 1) a1 z1]) (oc := [oX1 ty (r0 1) a1 z1]) (oc' := [oX1 ty (r0 1) a1 z1]) (or_ := [oX6 h0 r0]) (os' := [oX6 h0 r0, oX1 ty (r0 1) a1 z1]) (va_runV (As := [.int x2]) (rest := []) F (c_X1_noiseAt l D ty (r0 1) a1 _ _ _ hv _) (cwV 1 F.2.2.2.2 gX6_overhears_X1_noiseAt rfl rfl rfl ⟨rfl, hd_X1_noiseAt⟩ ⟨Nat.le_of_ble_eq_true rfl, Nat.le_of_ble_eq_true rfl⟩) (pre_v hK hP hD hp1 rfl rfl rfl) rfl rfl hl.1 rfl (lv_room (Nat.le_of_ble_eq_true rfl)) dX6_overhears_28 ⟨Nat.zero_le _, Nat.zero_le _⟩) hp1 ((List.perm_middle (a := (oX6 h0 r0 : va_W)) (l₁ := ([oX1 ty (r0 1) a1 z1] : List va_W)) (l₂ := ([] : List va_W))) : List.Perm ([oX1 ty (r0 1) a1 z1, oX6 h0 r0] : List va_W) ([oX6 h0 r0, oX1 ty (r0 1) a1 z1] : List va_W)) hP hD hS hA (fun H locs hP hD hS => ?_)
    clear hp1 hv
    refine lv_istore_n (lv' := [(3, .int v3), (2, .int x2), (0, .ref h0), (1, .int p1)]) hx hb dX6_overhears_31 rfl hl (by decide) rfl (fun ls hl => ?_)
    refine lv_iconst (v := (0 : Int32)) hx hb dX6_overhears_32 (by decide) ?_
    refine lv_istore (lv' := [(4, .int (0 : Int32)), (3, .int v3), (2, .int x2), (0, .ref h0), (1, .int p1)]) hx hb dX6_overhears_33 hl (by decide) rfl (fun ls hl => ?_)
    refine lv_iconst (v := (0 : Int32)) hx hb dX6_overhears_35 (by decide) ?_
    refine lv_istore (lv' := [(5, .int (0 : Int32)), (4, .int (0 : Int32)), (3, .int v3), (2, .int x2), (0, .ref h0), (1, .int p1)]) hx hb dX6_overhears_36 hl (by decide) rfl (fun ls hl => ?_)
    have L_38 : ∀ (y2 : Int32) (y3 : Int32) (n : Nat) (y4 : Int32) (y5 : Int32) (H : Heap) (locs : List Loc) (ls : Array Slot), va_P D vwC (fl [oX6 h0 r0, oX1 ty (r0 1) a1 z1]) H → va_D A (fl [oX6 h0 r0, oX1 ty (r0 1) a1 z1]) → va_S A s.heap H locs → lv_has ls 7 [(0, .ref h0), (2, .int y2), (3, .int y3), (4, .int y4), (5, .int y5)] → fuel2 (b_X6_overhears_38 z1 p1 y2 y3) n y4 y5 = some o0 → W p l e rm_X6_overhears s m ([.ref h0, .int p1] : List Value).toArray below meth c H locs 0 0 (MQ below (qI D o0 (fl [oX6 h0 r0, oX1 ty (r0 1) a1 z1]) A) ([.ref h0, .int p1] : List Value).toArray s 0 0 A) (F0 m 38 ls []) := by
      intro y2 y3 n
      induction n with
      | zero => intro y4 y5 H locs ls hP hD hS hl hf; cases hf
      | succ n ih_38 =>
        intro y4 y5 H locs ls hP hD hS hl hf
        replace hf : b_X6_overhears_38 z1 p1 y2 y3 (fuel2 (b_X6_overhears_38 z1 p1 y2 y3) n) y4 y5 = some o0 := hf
        generalize fuel2 (b_X6_overhears_38 z1 p1 y2 y3) n = r_38 at ih_38 hf
        unfold b_X6_overhears_38 at hf
        have J_86 : ∀ (y4 : Int32) (y5 : Int32) (H : Heap) (locs : List Loc) (ls : Array Slot), va_P D vwC (fl [oX6 h0 r0, oX1 ty (r0 1) a1 z1]) H → va_D A (fl [oX6 h0 r0, oX1 ty (r0 1) a1 z1]) → va_S A s.heap H locs → lv_has ls 7 [(0, .ref h0), (2, .int y2), (3, .int y3), (4, .int y4), (5, .int y5)] → j_X6_overhears_86 z1 p1 r_38 y2 y3 y4 y5 = some o0 → W p l e rm_X6_overhears s m ([.ref h0, .int p1] : List Value).toArray below meth c H locs 0 0 (MQ below (qI D o0 (fl [oX6 h0 r0, oX1 ty (r0 1) a1 z1]) A) ([.ref h0, .int p1] : List Value).toArray s 0 0 A) (F0 m 86 ls []) := by
          intro y4 y5 H locs ls hP hD hS hl hf
          unfold j_X6_overhears_86 at hf
          obtain ⟨x4, ex⟩ : ∃ y : Int32, y = (y5 + (1 : Int32)) := ⟨_, rfl⟩
          replace hf := bnd_at hf ex
          refine lv_iinc (v := x4) (lv' := [(5, .int x4), (0, .ref h0), (2, .int y2), (3, .int y3), (4, .int y4)]) hx hb dX6_overhears_86 hl (k := 4) rfl (by rw [ex]; rfl) (by decide) rfl (fun ls hl => ?_)
          clear ex
          refine lv_goto (tgt := 38) hx hb dX6_overhears_89 (by decide) ?_
          exact ih_38 y4 x4 _ _ _ hP hD hS (lv_sub hl [1, 2, 3, 4, 0] rfl) hf
        refine lv_iload hx hb dX6_overhears_38 (lv_at hl 4 rfl) ?_
        refine lv_aload_n hx hb dX6_overhears_40 rfl (lv_at hl 0 rfl) ?_
        refine va_get (D := D) (ci := 6) (C := RX6) (T := TX6) (N := 8) hx hb F.2.2.2.2 in_X6_overhears_X6 F.2.2.2.1 hK.1 hP 0 rfl rfl 1 (Nat.le_of_ble_eq_true rfl) (F.2.2.2.2 (.fieldLink RX6 19 "LouderRoom" "now" "LLouderRoom$Crowd;") (List.mem_of_getElem? (i := 1) rfl)) (fun _ h9 => h9) rfl dX6_overhears_41 ?_
        refine va_getN (D := D) (ci := 1) (C := RX1) (T := TX1) (N := 12) hx hb F.2.2.2.2 in_X6_overhears_X1 F.2.2.2.1 hK.1 hP 1 rfl rfl 6 (Nat.le_of_ble_eq_true rfl) (KN.use hK 9 (w := .fieldLinkNest RX6 79 "LouderRoom$Crowd" "rings" "I" "LouderRoom") rfl _) (fun _ h9 => h9) rfl dX6_overhears_44 ?_
        refine lv_icmp_ge (tgt := 92) hx hb dX6_overhears_47 (by decide) (fun hc => ?_) (fun hc => ?_)
        · replace hf := ite_t hf hc
          refine lv_iload hx hb dX6_overhears_92 (lv_at hl 3 rfl) ?_
          obtain hf := hf
          have e0 := Option.some.inj hf
          exact CX_i F hr hlk hP hD hS e0 dX6_overhears_94
        · replace hf := ite_f hf hc
          refine lv_aload_n hx hb dX6_overhears_50 rfl (lv_at hl 0 rfl) ?_
          refine va_get (D := D) (ci := 6) (C := RX6) (T := TX6) (N := 8) hx hb F.2.2.2.2 in_X6_overhears_X6 F.2.2.2.1 hK.1 hP 0 rfl rfl 1 (Nat.le_of_ble_eq_true rfl) (F.2.2.2.2 (.fieldLink RX6 19 "LouderRoom" "now" "LLouderRoom$Crowd;") (List.mem_of_getElem? (i := 1) rfl)) (fun _ h9 => h9) rfl dX6_overhears_51 ?_
          refine lv_iload hx hb dX6_overhears_54 (lv_at hl 4 rfl) ?_
          refine lv_iload_n hx hb dX6_overhears_56 rfl (lv_at hl 1 rfl) ?_
          obtain ⟨v5, hv, hf⟩ := obd hf
          have hp1 : List.Perm [oX6 h0 r0, oX1 ty (r0 1) a1 z1] ([oX1 ty (r0 1) a1 z1] ++ [oX6 h0 r0]) := ((List.perm_middle (a := (oX1 ty (r0 1) a1 z1 : va_W)) (l₁ := ([oX6 h0 r0] : List va_W)) (l₂ := ([] : List va_W))) : List.Perm ([oX6 h0 r0, oX1 ty (r0 1) a1 z1] : List va_W) ([oX1 ty (r0 1) a1 z1, oX6 h0 r0] : List va_W))
          refine ci_call (out := v5) (os := [oX6 h0 r0, oX1 ty (r0 1) a1 z1]) (oc := [oX1 ty (r0 1) a1 z1]) (oc' := [oX1 ty (r0 1) a1 z1]) (or_ := [oX6 h0 r0]) (os' := [oX6 h0 r0, oX1 ty (r0 1) a1 z1]) (va_runV (As := [.int y5, .int y2]) (rest := []) F (c_X1_fromRing l D ty (r0 1) a1 _ _ _ _ hv _) (cwV 2 F.2.2.2.2 gX6_overhears_X1_fromRing rfl rfl rfl ⟨rfl, hd_X1_fromRing⟩ ⟨Nat.le_of_ble_eq_true rfl, Nat.le_of_ble_eq_true rfl⟩) (pre_v hK hP hD hp1 rfl rfl rfl) rfl rfl hl.1 rfl (lv_room (Nat.le_of_ble_eq_true rfl)) dX6_overhears_57 ⟨Nat.zero_le _, Nat.zero_le _⟩) hp1 ((List.perm_middle (a := (oX6 h0 r0 : va_W)) (l₁ := ([oX1 ty (r0 1) a1 z1] : List va_W)) (l₂ := ([] : List va_W))) : List.Perm ([oX1 ty (r0 1) a1 z1, oX6 h0 r0] : List va_W) ([oX6 h0 r0, oX1 ty (r0 1) a1 z1] : List va_W)) hP hD hS hA (fun H locs hP hD hS => ?_)
          clear hp1 hv
          refine lv_istore (lv' := [(6, .int v5), (0, .ref h0), (2, .int y2), (3, .int y3), (4, .int y4), (5, .int y5)]) hx hb dX6_overhears_60 hl (by decide) rfl (fun ls hl => ?_)
          refine lv_iload hx hb dX6_overhears_62 (lv_at hl 0 rfl) ?_
          refine lv_iconst (v := (1 : Int32)) hx hb dX6_overhears_64 (by decide) ?_
          refine lv_icmp_lt (tgt := 86) hx hb dX6_overhears_65 (by decide) (fun hc => ?_) (fun hc => ?_)
          · replace hf := ite_t hf hc
            exact J_86 y4 y5 _ _ _ hP hD hS (lv_sub hl [1, 2, 3, 4, 5] rfl) hf
          · replace hf := ite_f hf hc
            refine lv_iload hx hb dX6_overhears_68 (lv_at hl 0 rfl) ?_
            refine lv_iload_n hx hb dX6_overhears_70 rfl (lv_at hl 3 rfl) ?_
            refine lv_iload hx hb dX6_overhears_71 (lv_at hl 0 rfl) ?_
            refine lv_isub hx hb dX6_overhears_73 ?_
            refine lv_icmp_lt (tgt := 86) hx hb dX6_overhears_74 (by decide) (fun hc => ?_) (fun hc => ?_)
            · replace hf := ite_t hf hc
              exact J_86 y4 y5 _ _ _ hP hD hS (lv_sub hl [1, 2, 3, 4, 5] rfl) hf
            · replace hf := ite_f hf hc
              refine lv_iload hx hb dX6_overhears_77 (lv_at hl 4 rfl) ?_
              refine lv_iconst (v := (1 : Int32)) hx hb dX6_overhears_79 (by decide) ?_
              refine lv_iload hx hb dX6_overhears_80 (lv_at hl 5 rfl) ?_
              refine lv_ishl hx hb dX6_overhears_82 ?_
              refine lv_ior hx hb dX6_overhears_83 ?_
              refine lv_topi (fun x6 ex => ?_)
              replace hf := bnd_at hf ex; clear ex
              refine lv_istore (lv' := [(4, .int x6), (6, .int v5), (0, .ref h0), (2, .int y2), (3, .int y3), (5, .int y5)]) hx hb dX6_overhears_84 hl (by decide) rfl (fun ls hl => ?_)
              exact J_86 x6 y5 _ _ _ hP hD hS (lv_sub hl [2, 3, 4, 0, 5] rfl) hf
    exact L_38 x2 v3 FU (0 : Int32) (0 : Int32) _ _ _ hP hD hS (lv_sub hl [4, 3, 2, 1, 0] rfl) hf
  · replace hf := ite_t hf hc
    refine lv_iconst (v := (-1 : Int32)) hx hb dX6_overhears_11 (by decide) ?_
    obtain hf := hf
    have e0 := Option.some.inj hf
    exact CX_i F hr hlk hP hD hS e0 dX6_overhears_12
def j_X6_quietest_53 (z1 : Ob) (r_7 : Int32 → Int32 → Int32 → Option (Int32)) (y1 : Int32) (y2 : Int32) (y3 : Int32) : Option (Int32) := bnd (y3 + (1 : Int32)) (fun x1 => r_7 y1 y2 x1)
def j_X6_quietest_48 (z1 : Ob) (r_7 : Int32 → Int32 → Int32 → Option (Int32)) (y3 : Int32) (y4 : Int32) : Option (Int32) := j_X6_quietest_53 z1 r_7 y3 y4 y3
def b_X6_quietest_7 (z1 : Ob) (r_7 : Int32 → Int32 → Int32 → Option (Int32)) (y1 : Int32) (y2 : Int32) (y3 : Int32) : Option (Int32) := (if (100 : Int32) ≤ y3 then some y1 else (f_X1_ringIn z1 y3).bind (fun v2 => (if v2 = (-9 : Int32) then (f_X1_noiseAt z1 y3).bind (fun v3 => (if y1 = (-9 : Int32) then j_X6_quietest_48 z1 r_7 y3 v3 else (if y2 ≤ v3 then j_X6_quietest_53 z1 r_7 y1 y2 y3 else j_X6_quietest_48 z1 r_7 y3 v3))) else j_X6_quietest_53 z1 r_7 y1 y2 y3)))
def f_X6_quietest (z1 : Ob) : Option (Int32) := fuel3 (b_X6_quietest_7 z1) FU (-9 : Int32) (0 : Int32) (0 : Int32)
abbrev rm_X6_quietest : Room := { frames := 4, cells := 0, slots := 0, locals := 90 }
theorem hd_X6_quietest : yX6_quietest.cls ≠ "java/lang/invoke/MethodHandle" ∧ yX6_quietest.cls ≠ "java/lang/invoke/VarHandle" ∧ (parseMethodDescriptor yX6_quietest.desc).map (fun d => d.parameters.length) = some 0 := by decide +kernel
theorem in_X6_quietest_X6 : ∀ w ∈ wsX60, w ∈ wsX6_quietest := fun w h => List.mem_cons_of_mem _ (List.mem_append_left _ (List.mem_append_right _ h))
set_option maxHeartbeats 4000000 in
set_option maxRecDepth 100000 in
theorem c_X6_quietest (l : Launch) (D : va_G) (ty : TY) (h0 : Nat) (r0 : Nat → Nat) (a1 : Nat → Nat) (z1 : Ob) (o0 : Int32) (hf : f_X6_quietest z1 = some o0) (sz : Nat) : CX l yX6_quietest wsX6_quietest rm_X6_quietest ([.ref h0] : List Value) D ty (fl [oX6 h0 r0, oX1 ty (r0 1) a1 z1]) sz (qI D o0 (fl [oX6 h0 r0, oX1 ty (r0 1) a1 z1])) 0 0 := by
  refine CX_of (cc := cX6_quietest) (maxL := 5) (ret := (some .int)) (C := RX6) (by decide) rfl rfl (Nat.le_of_ble_eq_true rfl) ?_
  intro p e s m below meth c A ls F hr hlk _ hK hP hD hS hA hl
  have hx := F.1
  have hb := F.2.1
  replace hl : lv_has ls 5 [(0, .ref h0)] := hl
  unfold f_X6_quietest at hf
  refine lv_bipush (v := (-9 : Int32)) hx hb dX6_quietest_0 (by decide) ?_
  refine lv_istore_n (lv' := [(1, .int (-9 : Int32)), (0, .ref h0)]) hx hb dX6_quietest_2 rfl hl (by decide) rfl (fun ls hl => ?_)
  refine lv_iconst (v := (0 : Int32)) hx hb dX6_quietest_3 (by decide) ?_
  refine lv_istore_n (lv' := [(2, .int (0 : Int32)), (1, .int (-9 : Int32)), (0, .ref h0)]) hx hb dX6_quietest_4 rfl hl (by decide) rfl (fun ls hl => ?_)
  refine lv_iconst (v := (0 : Int32)) hx hb dX6_quietest_5 (by decide) ?_
  refine lv_istore_n (lv' := [(3, .int (0 : Int32)), (2, .int (0 : Int32)), (1, .int (-9 : Int32)), (0, .ref h0)]) hx hb dX6_quietest_6 rfl hl (by decide) rfl (fun ls hl => ?_)
  have L_7 : ∀ (n : Nat) (y1 : Int32) (y2 : Int32) (y3 : Int32) (H : Heap) (locs : List Loc) (ls : Array Slot), va_P D vwC (fl [oX6 h0 r0, oX1 ty (r0 1) a1 z1]) H → va_D A (fl [oX6 h0 r0, oX1 ty (r0 1) a1 z1]) → va_S A s.heap H locs → lv_has ls 5 [(0, .ref h0), (1, .int y1), (2, .int y2), (3, .int y3)] → fuel3 (b_X6_quietest_7 z1) n y1 y2 y3 = some o0 → W p l e rm_X6_quietest s m ([.ref h0] : List Value).toArray below meth c H locs 0 0 (MQ below (qI D o0 (fl [oX6 h0 r0, oX1 ty (r0 1) a1 z1]) A) ([.ref h0] : List Value).toArray s 0 0 A) (F0 m 7 ls []) := by
    intro n
    induction n with
    | zero => intro y1 y2 y3 H locs ls hP hD hS hl hf; cases hf
    | succ n ih_7 =>
      intro y1 y2 y3 H locs ls hP hD hS hl hf
      replace hf : b_X6_quietest_7 z1 (fuel3 (b_X6_quietest_7 z1) n) y1 y2 y3 = some o0 := hf
      generalize fuel3 (b_X6_quietest_7 z1) n = r_7 at ih_7 hf
      unfold b_X6_quietest_7 at hf
      have J_53 : ∀ (y1 : Int32) (y2 : Int32) (y3 : Int32) (H : Heap) (locs : List Loc) (ls : Array Slot), va_P D vwC (fl [oX6 h0 r0, oX1 ty (r0 1) a1 z1]) H → va_D A (fl [oX6 h0 r0, oX1 ty (r0 1) a1 z1]) → va_S A s.heap H locs → lv_has ls 5 [(0, .ref h0), (1, .int y1), (2, .int y2), (3, .int y3)] → j_X6_quietest_53 z1 r_7 y1 y2 y3 = some o0 → W p l e rm_X6_quietest s m ([.ref h0] : List Value).toArray below meth c H locs 0 0 (MQ below (qI D o0 (fl [oX6 h0 r0, oX1 ty (r0 1) a1 z1]) A) ([.ref h0] : List Value).toArray s 0 0 A) (F0 m 53 ls []) := by
        intro y1 y2 y3 H locs ls hP hD hS hl hf
        unfold j_X6_quietest_53 at hf
        obtain ⟨x1, ex⟩ : ∃ y : Int32, y = (y3 + (1 : Int32)) := ⟨_, rfl⟩
        replace hf := bnd_at hf ex
        refine lv_iinc (v := x1) (lv' := [(3, .int x1), (0, .ref h0), (1, .int y1), (2, .int y2)]) hx hb dX6_quietest_53 hl (k := 3) rfl (by rw [ex]; rfl) (by decide) rfl (fun ls hl => ?_)
        clear ex
        refine lv_goto (tgt := 7) hx hb dX6_quietest_56 (by decide) ?_
        exact ih_7 y1 y2 x1 _ _ _ hP hD hS (lv_sub hl [1, 2, 3, 0] rfl) hf
      have J_48 : ∀ (y3 : Int32) (y4 : Int32) (H : Heap) (locs : List Loc) (ls : Array Slot), va_P D vwC (fl [oX6 h0 r0, oX1 ty (r0 1) a1 z1]) H → va_D A (fl [oX6 h0 r0, oX1 ty (r0 1) a1 z1]) → va_S A s.heap H locs → lv_has ls 5 [(0, .ref h0), (3, .int y3), (4, .int y4)] → j_X6_quietest_48 z1 r_7 y3 y4 = some o0 → W p l e rm_X6_quietest s m ([.ref h0] : List Value).toArray below meth c H locs 0 0 (MQ below (qI D o0 (fl [oX6 h0 r0, oX1 ty (r0 1) a1 z1]) A) ([.ref h0] : List Value).toArray s 0 0 A) (F0 m 48 ls []) := by
        intro y3 y4 H locs ls hP hD hS hl hf
        unfold j_X6_quietest_48 at hf
        refine lv_iload_n hx hb dX6_quietest_48 rfl (lv_at hl 1 rfl) ?_
        refine lv_istore_n (lv' := [(1, .int y3), (0, .ref h0), (3, .int y3), (4, .int y4)]) hx hb dX6_quietest_49 rfl hl (by decide) rfl (fun ls hl => ?_)
        refine lv_iload hx hb dX6_quietest_50 (lv_at hl 3 rfl) ?_
        refine lv_istore_n (lv' := [(2, .int y4), (1, .int y3), (0, .ref h0), (3, .int y3), (4, .int y4)]) hx hb dX6_quietest_52 rfl hl (by decide) rfl (fun ls hl => ?_)
        exact J_53 y3 y4 y3 _ _ _ hP hD hS (lv_sub hl [2, 1, 0, 3] rfl) hf
      refine lv_iload_n hx hb dX6_quietest_7 rfl (lv_at hl 3 rfl) ?_
      refine lv_bipush (v := (100 : Int32)) hx hb dX6_quietest_8 (by decide) ?_
      refine lv_icmp_ge (tgt := 59) hx hb dX6_quietest_10 (by decide) (fun hc => ?_) (fun hc => ?_)
      · replace hf := ite_t hf hc
        refine lv_iload_n hx hb dX6_quietest_59 rfl (lv_at hl 1 rfl) ?_
        obtain hf := hf
        have e0 := Option.some.inj hf
        exact CX_i F hr hlk hP hD hS e0 dX6_quietest_60
      · replace hf := ite_f hf hc
        refine lv_aload_n hx hb dX6_quietest_13 rfl (lv_at hl 0 rfl) ?_
        refine va_get (D := D) (ci := 6) (C := RX6) (T := TX6) (N := 8) hx hb F.2.2.2.2 in_X6_quietest_X6 F.2.2.2.1 hK.1 hP 0 rfl rfl 1 (Nat.le_of_ble_eq_true rfl) (F.2.2.2.2 (.fieldLink RX6 19 "LouderRoom" "now" "LLouderRoom$Crowd;") (List.mem_of_getElem? (i := 1) rfl)) (fun _ h9 => h9) rfl dX6_quietest_14 ?_
        refine lv_iload_n hx hb dX6_quietest_17 rfl (lv_at hl 3 rfl) ?_
        obtain ⟨v2, hv, hf⟩ := obd hf
        have hp1 : List.Perm [oX6 h0 r0, oX1 ty (r0 1) a1 z1] ([oX1 ty (r0 1) a1 z1] ++ [oX6 h0 r0]) := ((List.perm_middle (a := (oX1 ty (r0 1) a1 z1 : va_W)) (l₁ := ([oX6 h0 r0] : List va_W)) (l₂ := ([] : List va_W))) : List.Perm ([oX6 h0 r0, oX1 ty (r0 1) a1 z1] : List va_W) ([oX1 ty (r0 1) a1 z1, oX6 h0 r0] : List va_W))
        refine ci_call (out := v2) (os := [oX6 h0 r0, oX1 ty (r0 1) a1 z1]) (oc := [oX1 ty (r0 1) a1 z1]) (oc' := [oX1 ty (r0 1) a1 z1]) (or_ := [oX6 h0 r0]) (os' := [oX6 h0 r0, oX1 ty (r0 1) a1 z1]) (va_runV (As := [.int y3]) (rest := []) F (c_X1_ringIn l D ty (r0 1) a1 _ _ _ hv _) (cwV 1 F.2.2.2.2 gX6_quietest_X1_ringIn rfl rfl rfl ⟨rfl, hd_X1_ringIn⟩ ⟨Nat.le_of_ble_eq_true rfl, Nat.le_of_ble_eq_true rfl⟩) (pre_v hK hP hD hp1 rfl rfl rfl) rfl rfl hl.1 rfl (lv_room (Nat.le_of_ble_eq_true rfl)) dX6_quietest_18 ⟨Nat.zero_le _, Nat.zero_le _⟩) hp1 ((List.perm_middle (a := (oX6 h0 r0 : va_W)) (l₁ := ([oX1 ty (r0 1) a1 z1] : List va_W)) (l₂ := ([] : List va_W))) : List.Perm ([oX1 ty (r0 1) a1 z1, oX6 h0 r0] : List va_W) ([oX6 h0 r0, oX1 ty (r0 1) a1 z1] : List va_W)) hP hD hS hA (fun H locs hP hD hS => ?_)
        clear hp1 hv
        refine lv_bipush (v := (-9 : Int32)) hx hb dX6_quietest_21 (by decide) ?_
        refine lv_icmp_ne (tgt := 53) hx hb dX6_quietest_23 (by decide) (fun hc => ?_) (fun hc => ?_)
        · replace hf := ite_f hf hc
          exact J_53 y1 y2 y3 _ _ _ hP hD hS (lv_sub hl [0, 1, 2, 3] rfl) hf
        · replace hf := ite_t hf hc
          refine lv_aload_n hx hb dX6_quietest_26 rfl (lv_at hl 0 rfl) ?_
          refine va_get (D := D) (ci := 6) (C := RX6) (T := TX6) (N := 8) hx hb F.2.2.2.2 in_X6_quietest_X6 F.2.2.2.1 hK.1 hP 0 rfl rfl 1 (Nat.le_of_ble_eq_true rfl) (F.2.2.2.2 (.fieldLink RX6 19 "LouderRoom" "now" "LLouderRoom$Crowd;") (List.mem_of_getElem? (i := 1) rfl)) (fun _ h9 => h9) rfl dX6_quietest_27 ?_
          refine lv_iload_n hx hb dX6_quietest_30 rfl (lv_at hl 3 rfl) ?_
          obtain ⟨v3, hv, hf⟩ := obd hf
          have hp1 : List.Perm [oX6 h0 r0, oX1 ty (r0 1) a1 z1] ([oX1 ty (r0 1) a1 z1] ++ [oX6 h0 r0]) := ((List.perm_middle (a := (oX1 ty (r0 1) a1 z1 : va_W)) (l₁ := ([oX6 h0 r0] : List va_W)) (l₂ := ([] : List va_W))) : List.Perm ([oX6 h0 r0, oX1 ty (r0 1) a1 z1] : List va_W) ([oX1 ty (r0 1) a1 z1, oX6 h0 r0] : List va_W))
          refine ci_call (out := v3) (os := [oX6 h0 r0, oX1 ty (r0 1) a1 z1]) (oc := [oX1 ty (r0 1) a1 z1]) (oc' := [oX1 ty (r0 1) a1 z1]) (or_ := [oX6 h0 r0]) (os' := [oX6 h0 r0, oX1 ty (r0 1) a1 z1]) (va_runV (As := [.int y3]) (rest := []) F (c_X1_noiseAt l D ty (r0 1) a1 _ _ _ hv _) (cwV 1 F.2.2.2.2 gX6_quietest_X1_noiseAt rfl rfl rfl ⟨rfl, hd_X1_noiseAt⟩ ⟨Nat.le_of_ble_eq_true rfl, Nat.le_of_ble_eq_true rfl⟩) (pre_v hK hP hD hp1 rfl rfl rfl) rfl rfl hl.1 rfl (lv_room (Nat.le_of_ble_eq_true rfl)) dX6_quietest_31 ⟨Nat.zero_le _, Nat.zero_le _⟩) hp1 ((List.perm_middle (a := (oX6 h0 r0 : va_W)) (l₁ := ([oX1 ty (r0 1) a1 z1] : List va_W)) (l₂ := ([] : List va_W))) : List.Perm ([oX1 ty (r0 1) a1 z1, oX6 h0 r0] : List va_W) ([oX6 h0 r0, oX1 ty (r0 1) a1 z1] : List va_W)) hP hD hS hA (fun H locs hP hD hS => ?_)
          clear hp1 hv
          refine lv_istore (lv' := [(4, .int v3), (0, .ref h0), (1, .int y1), (2, .int y2), (3, .int y3)]) hx hb dX6_quietest_34 hl (by decide) rfl (fun ls hl => ?_)
          refine lv_iload_n hx hb dX6_quietest_36 rfl (lv_at hl 2 rfl) ?_
          refine lv_bipush (v := (-9 : Int32)) hx hb dX6_quietest_37 (by decide) ?_
          refine lv_icmp_eq (tgt := 48) hx hb dX6_quietest_39 (by decide) (fun hc => ?_) (fun hc => ?_)
          · replace hf := ite_t hf hc
            exact J_48 y3 v3 _ _ _ hP hD hS (lv_sub hl [1, 4, 0] rfl) hf
          · replace hf := ite_f hf hc
            refine lv_iload hx hb dX6_quietest_42 (lv_at hl 0 rfl) ?_
            refine lv_iload_n hx hb dX6_quietest_44 rfl (lv_at hl 3 rfl) ?_
            refine lv_icmp_ge (tgt := 53) hx hb dX6_quietest_45 (by decide) (fun hc => ?_) (fun hc => ?_)
            · replace hf := ite_t hf hc
              exact J_53 y1 y2 y3 _ _ _ hP hD hS (lv_sub hl [1, 2, 3, 4] rfl) hf
            · replace hf := ite_f hf hc
              exact J_48 y3 v3 _ _ _ hP hD hS (lv_sub hl [1, 4, 0] rfl) hf
  exact L_7 FU (-9 : Int32) (0 : Int32) (0 : Int32) _ _ _ hP hD hS (lv_sub hl [3, 2, 1, 0] rfl) hf
def f_X6_isTables (p0 : Int32) (p1 : Int32) : Option (Int32) := (if p0 < (1 : Int32) then some (0 : Int32) else (if (4 : Int32) < p0 then some (0 : Int32) else (if p1 < 0 then some (0 : Int32) else (if (10 : Int32) ≤ p1 then some (0 : Int32) else some (1 : Int32)))))
abbrev rm_X6_isTables : Room := { frames := 0, cells := 0, slots := 0, locals := 0 }
theorem hd_X6_isTables : yX6_isTables.cls ≠ "java/lang/invoke/MethodHandle" ∧ yX6_isTables.cls ≠ "java/lang/invoke/VarHandle" ∧ (parseMethodDescriptor yX6_isTables.desc).map (fun d => d.parameters.length) = some 2 := by decide +kernel
set_option maxHeartbeats 4000000 in
set_option maxRecDepth 100000 in
theorem c_X6_isTables (l : Launch) (D : va_G) (ty : TY) (p0 : Int32) (p1 : Int32) (o0 : Int32) (hf : f_X6_isTables p0 p1 = some o0) (sz : Nat) : CX l yX6_isTables wsX6_isTables rm_X6_isTables ([.int p0, .int p1] : List Value) D ty (fl []) sz (qI D o0 (fl [])) 0 0 := by
  refine CX_of (cc := cX6_isTables) (maxL := 2) (ret := (some .boolean)) (C := RX6) (by decide) rfl rfl (Nat.le_of_ble_eq_true rfl) ?_
  intro p e s m below meth c A ls F hr hlk _ hK hP hD hS hA hl
  have hx := F.1
  have hb := F.2.1
  replace hl : lv_has ls 2 [(0, .int p0), (1, .int p1)] := hl
  unfold f_X6_isTables at hf
  refine lv_iload_n hx hb dX6_isTables_0 rfl (lv_at hl 0 rfl) ?_
  refine lv_iconst (v := (1 : Int32)) hx hb dX6_isTables_1 (by decide) ?_
  refine lv_icmp_lt (tgt := 24) hx hb dX6_isTables_2 (by decide) (fun hc => ?_) (fun hc => ?_)
  · replace hf := ite_t hf hc
    refine lv_iconst (v := (0 : Int32)) hx hb dX6_isTables_24 (by decide) ?_
    obtain hf := hf
    have e0 := Option.some.inj hf
    exact CX_z F hr hlk hP hD hS narrow_b0 e0 dX6_isTables_25
  · replace hf := ite_f hf hc
    refine lv_iload_n hx hb dX6_isTables_5 rfl (lv_at hl 0 rfl) ?_
    refine lv_iconst (v := (4 : Int32)) hx hb dX6_isTables_6 (by decide) ?_
    refine lv_icmp_gt (tgt := 24) hx hb dX6_isTables_7 (by decide) (fun hc => ?_) (fun hc => ?_)
    · replace hf := ite_t hf hc
      refine lv_iconst (v := (0 : Int32)) hx hb dX6_isTables_24 (by decide) ?_
      obtain hf := hf
      have e0 := Option.some.inj hf
      exact CX_z F hr hlk hP hD hS narrow_b0 e0 dX6_isTables_25
    · replace hf := ite_f hf hc
      refine lv_iload_n hx hb dX6_isTables_10 rfl (lv_at hl 1 rfl) ?_
      refine lv_if_lt (tgt := 24) hx hb dX6_isTables_11 (by decide) (fun hc => ?_) (fun hc => ?_)
      · replace hf := ite_t hf hc
        refine lv_iconst (v := (0 : Int32)) hx hb dX6_isTables_24 (by decide) ?_
        obtain hf := hf
        have e0 := Option.some.inj hf
        exact CX_z F hr hlk hP hD hS narrow_b0 e0 dX6_isTables_25
      · replace hf := ite_f hf hc
        refine lv_iload_n hx hb dX6_isTables_14 rfl (lv_at hl 1 rfl) ?_
        refine lv_bipush (v := (10 : Int32)) hx hb dX6_isTables_15 (by decide) ?_
        refine lv_icmp_ge (tgt := 24) hx hb dX6_isTables_17 (by decide) (fun hc => ?_) (fun hc => ?_)
        · replace hf := ite_t hf hc
          refine lv_iconst (v := (0 : Int32)) hx hb dX6_isTables_24 (by decide) ?_
          obtain hf := hf
          have e0 := Option.some.inj hf
          exact CX_z F hr hlk hP hD hS narrow_b0 e0 dX6_isTables_25
        · replace hf := ite_f hf hc
          refine lv_iconst (v := (1 : Int32)) hx hb dX6_isTables_20 (by decide) ?_
          refine lv_goto (tgt := 25) hx hb dX6_isTables_21 (by decide) ?_
          obtain hf := hf
          have e0 := Option.some.inj hf
          exact CX_z F hr hlk hP hD hS narrow_b1 e0 dX6_isTables_25
def f_J6_bitCount_0f7a4 (p0 : Int32) : Option (Int32) := bnd (p0 - ((p0.toUInt32 >>> ((1 : Int32).toUInt32 &&& Int32.toUInt32 31)).toInt32 &&& (1431655765 : Int32))) (fun x1 => bnd ((x1 &&& (858993459 : Int32)) + ((x1.toUInt32 >>> ((2 : Int32).toUInt32 &&& Int32.toUInt32 31)).toInt32 &&& (858993459 : Int32))) (fun x2 => bnd ((x2 + (x2.toUInt32 >>> ((4 : Int32).toUInt32 &&& Int32.toUInt32 31)).toInt32) &&& (252645135 : Int32)) (fun x3 => bnd (x3 + (x3.toUInt32 >>> ((8 : Int32).toUInt32 &&& Int32.toUInt32 31)).toInt32) (fun x4 => bnd (x4 + (x4.toUInt32 >>> ((16 : Int32).toUInt32 &&& Int32.toUInt32 31)).toInt32) (fun x5 => some (x5 &&& (63 : Int32)))))))
abbrev rm_J6_bitCount_0f7a4 : Room := { frames := 0, cells := 0, slots := 0, locals := 0 }
theorem hd_J6_bitCount_0f7a4 : yJ6_bitCount_0f7a4.cls ≠ "java/lang/invoke/MethodHandle" ∧ yJ6_bitCount_0f7a4.cls ≠ "java/lang/invoke/VarHandle" ∧ (parseMethodDescriptor yJ6_bitCount_0f7a4.desc).map (fun d => d.parameters.length) = some 1 := by decide +kernel
set_option maxHeartbeats 4000000 in
set_option maxRecDepth 100000 in
theorem c_J6_bitCount_0f7a4 (l : Launch) (D : va_G) (ty : TY) (p0 : Int32) (o0 : Int32) (hf : f_J6_bitCount_0f7a4 p0 = some o0) (sz : Nat) : CX l yJ6_bitCount_0f7a4 wsJ6_bitCount_0f7a4 rm_J6_bitCount_0f7a4 ([.int p0] : List Value) D ty (fl []) sz (qI D o0 (fl [])) 0 0 := by
  refine CX_of (cc := cJ6_bitCount_0f7a4) (maxL := 1) (ret := (some .int)) (C := RJ6) (by decide) rfl rfl (Nat.le_of_ble_eq_true rfl) ?_
  intro p e s m below meth c A ls F hr hlk _ hK hP hD hS hA hl
  have hx := F.1
  have hb := F.2.1
  replace hl : lv_has ls 1 [(0, .int p0)] := hl
  unfold f_J6_bitCount_0f7a4 at hf
  refine lv_iload_n hx hb dJ6_bitCount_0f7a4_0 rfl (lv_at hl 0 rfl) ?_
  refine lv_iload_n hx hb dJ6_bitCount_0f7a4_1 rfl (lv_at hl 0 rfl) ?_
  refine lv_iconst (v := (1 : Int32)) hx hb dJ6_bitCount_0f7a4_2 (by decide) ?_
  refine lv_iushr hx hb dJ6_bitCount_0f7a4_3 rfl ?_
  refine lv_ldcw hx hb F.2.2.2.1 (F.2.2.2.2 (.constant RJ6 265 (1431655765)) (List.mem_of_getElem? (i := 1) rfl)) dJ6_bitCount_0f7a4_4 ?_
  refine lv_iand hx hb dJ6_bitCount_0f7a4_7 ?_
  refine lv_isub hx hb dJ6_bitCount_0f7a4_8 ?_
  refine lv_topi (fun x1 ex => ?_)
  replace hf := bnd_at hf ex; clear ex
  refine lv_istore_n (lv' := [(0, .int x1)]) hx hb dJ6_bitCount_0f7a4_9 rfl hl (by decide) rfl (fun ls hl => ?_)
  refine lv_iload_n hx hb dJ6_bitCount_0f7a4_10 rfl (lv_at hl 0 rfl) ?_
  refine lv_ldcw hx hb F.2.2.2.1 (F.2.2.2.2 (.constant RJ6 266 (858993459)) (List.mem_of_getElem? (i := 2) rfl)) dJ6_bitCount_0f7a4_11 ?_
  refine lv_iand hx hb dJ6_bitCount_0f7a4_14 ?_
  refine lv_iload_n hx hb dJ6_bitCount_0f7a4_15 rfl (lv_at hl 0 rfl) ?_
  refine lv_iconst (v := (2 : Int32)) hx hb dJ6_bitCount_0f7a4_16 (by decide) ?_
  refine lv_iushr hx hb dJ6_bitCount_0f7a4_17 rfl ?_
  refine lv_ldcw hx hb F.2.2.2.1 (F.2.2.2.2 (.constant RJ6 266 (858993459)) (List.mem_of_getElem? (i := 2) rfl)) dJ6_bitCount_0f7a4_18 ?_
  refine lv_iand hx hb dJ6_bitCount_0f7a4_21 ?_
  refine lv_iadd hx hb dJ6_bitCount_0f7a4_22 ?_
  refine lv_topi (fun x2 ex => ?_)
  replace hf := bnd_at hf ex; clear ex
  refine lv_istore_n (lv' := [(0, .int x2)]) hx hb dJ6_bitCount_0f7a4_23 rfl hl (by decide) rfl (fun ls hl => ?_)
  refine lv_iload_n hx hb dJ6_bitCount_0f7a4_24 rfl (lv_at hl 0 rfl) ?_
  refine lv_iload_n hx hb dJ6_bitCount_0f7a4_25 rfl (lv_at hl 0 rfl) ?_
  refine lv_iconst (v := (4 : Int32)) hx hb dJ6_bitCount_0f7a4_26 (by decide) ?_
  refine lv_iushr hx hb dJ6_bitCount_0f7a4_27 rfl ?_
  refine lv_iadd hx hb dJ6_bitCount_0f7a4_28 ?_
  refine lv_ldcw hx hb F.2.2.2.1 (F.2.2.2.2 (.constant RJ6 267 (252645135)) (List.mem_of_getElem? (i := 3) rfl)) dJ6_bitCount_0f7a4_29 ?_
  refine lv_iand hx hb dJ6_bitCount_0f7a4_32 ?_
  refine lv_topi (fun x3 ex => ?_)
  replace hf := bnd_at hf ex; clear ex
  refine lv_istore_n (lv' := [(0, .int x3)]) hx hb dJ6_bitCount_0f7a4_33 rfl hl (by decide) rfl (fun ls hl => ?_)
  refine lv_iload_n hx hb dJ6_bitCount_0f7a4_34 rfl (lv_at hl 0 rfl) ?_
  refine lv_iload_n hx hb dJ6_bitCount_0f7a4_35 rfl (lv_at hl 0 rfl) ?_
  refine lv_bipush (v := (8 : Int32)) hx hb dJ6_bitCount_0f7a4_36 (by decide) ?_
  refine lv_iushr hx hb dJ6_bitCount_0f7a4_38 rfl ?_
  refine lv_iadd hx hb dJ6_bitCount_0f7a4_39 ?_
  refine lv_topi (fun x4 ex => ?_)
  replace hf := bnd_at hf ex; clear ex
  refine lv_istore_n (lv' := [(0, .int x4)]) hx hb dJ6_bitCount_0f7a4_40 rfl hl (by decide) rfl (fun ls hl => ?_)
  refine lv_iload_n hx hb dJ6_bitCount_0f7a4_41 rfl (lv_at hl 0 rfl) ?_
  refine lv_iload_n hx hb dJ6_bitCount_0f7a4_42 rfl (lv_at hl 0 rfl) ?_
  refine lv_bipush (v := (16 : Int32)) hx hb dJ6_bitCount_0f7a4_43 (by decide) ?_
  refine lv_iushr hx hb dJ6_bitCount_0f7a4_45 rfl ?_
  refine lv_iadd hx hb dJ6_bitCount_0f7a4_46 ?_
  refine lv_topi (fun x5 ex => ?_)
  replace hf := bnd_at hf ex; clear ex
  refine lv_istore_n (lv' := [(0, .int x5)]) hx hb dJ6_bitCount_0f7a4_47 rfl hl (by decide) rfl (fun ls hl => ?_)
  refine lv_iload_n hx hb dJ6_bitCount_0f7a4_48 rfl (lv_at hl 0 rfl) ?_
  refine lv_bipush (v := (63 : Int32)) hx hb dJ6_bitCount_0f7a4_49 (by decide) ?_
  refine lv_iand hx hb dJ6_bitCount_0f7a4_51 ?_
  obtain hf := hf
  have e0 := Option.some.inj hf
  exact CX_i F hr hlk hP hD hS e0 dJ6_bitCount_0f7a4_52
def f_X6_isIn (p0 : Int32) (p1 : Int32) : Option (Int32) := (if ((p0 >>> (((9 : Int32) - p1) &&& 31)) &&& (1 : Int32)) = (1 : Int32) then some (1 : Int32) else some (0 : Int32))
abbrev rm_X6_isIn : Room := { frames := 0, cells := 0, slots := 0, locals := 0 }
theorem hd_X6_isIn : yX6_isIn.cls ≠ "java/lang/invoke/MethodHandle" ∧ yX6_isIn.cls ≠ "java/lang/invoke/VarHandle" ∧ (parseMethodDescriptor yX6_isIn.desc).map (fun d => d.parameters.length) = some 2 := by decide +kernel
set_option maxHeartbeats 4000000 in
set_option maxRecDepth 100000 in
theorem c_X6_isIn (l : Launch) (D : va_G) (ty : TY) (p0 : Int32) (p1 : Int32) (o0 : Int32) (hf : f_X6_isIn p0 p1 = some o0) (sz : Nat) : CX l yX6_isIn wsX6_isIn rm_X6_isIn ([.int p0, .int p1] : List Value) D ty (fl []) sz (qI D o0 (fl [])) 0 0 := by
  refine CX_of (cc := cX6_isIn) (maxL := 2) (ret := (some .boolean)) (C := RX6) (by decide) rfl rfl (Nat.le_of_ble_eq_true rfl) ?_
  intro p e s m below meth c A ls F hr hlk _ hK hP hD hS hA hl
  have hx := F.1
  have hb := F.2.1
  replace hl : lv_has ls 2 [(0, .int p0), (1, .int p1)] := hl
  unfold f_X6_isIn at hf
  refine lv_iload_n hx hb dX6_isIn_0 rfl (lv_at hl 0 rfl) ?_
  refine lv_bipush (v := (9 : Int32)) hx hb dX6_isIn_1 (by decide) ?_
  refine lv_iload_n hx hb dX6_isIn_3 rfl (lv_at hl 1 rfl) ?_
  refine lv_isub hx hb dX6_isIn_4 ?_
  refine lv_ishr hx hb dX6_isIn_5 ?_
  refine lv_iconst (v := (1 : Int32)) hx hb dX6_isIn_6 (by decide) ?_
  refine lv_iand hx hb dX6_isIn_7 ?_
  refine lv_iconst (v := (1 : Int32)) hx hb dX6_isIn_8 (by decide) ?_
  refine lv_icmp_ne (tgt := 16) hx hb dX6_isIn_9 (by decide) (fun hc => ?_) (fun hc => ?_)
  · replace hf := ite_f hf hc
    refine lv_iconst (v := (0 : Int32)) hx hb dX6_isIn_16 (by decide) ?_
    obtain hf := hf
    have e0 := Option.some.inj hf
    exact CX_z F hr hlk hP hD hS narrow_b0 e0 dX6_isIn_17
  · replace hf := ite_t hf hc
    refine lv_iconst (v := (1 : Int32)) hx hb dX6_isIn_12 (by decide) ?_
    refine lv_goto (tgt := 17) hx hb dX6_isIn_13 (by decide) ?_
    obtain hf := hf
    have e0 := Option.some.inj hf
    exact CX_z F hr hlk hP hD hS narrow_b1 e0 dX6_isIn_17
def f_X6_cellInLine (p0 : Int32) (p1 : Int32) (p2 : Int32) : Option (Int32) := (if p0 = 0 then some (((10 : Int32) * p1) + p2) else some (((10 : Int32) * p2) + p1))
abbrev rm_X6_cellInLine : Room := { frames := 0, cells := 0, slots := 0, locals := 0 }
theorem hd_X6_cellInLine : yX6_cellInLine.cls ≠ "java/lang/invoke/MethodHandle" ∧ yX6_cellInLine.cls ≠ "java/lang/invoke/VarHandle" ∧ (parseMethodDescriptor yX6_cellInLine.desc).map (fun d => d.parameters.length) = some 3 := by decide +kernel
set_option maxHeartbeats 4000000 in
set_option maxRecDepth 100000 in
theorem c_X6_cellInLine (l : Launch) (D : va_G) (ty : TY) (p0 : Int32) (p1 : Int32) (p2 : Int32) (o0 : Int32) (hf : f_X6_cellInLine p0 p1 p2 = some o0) (sz : Nat) : CX l yX6_cellInLine wsX6_cellInLine rm_X6_cellInLine ([.int p0, .int p1, .int p2] : List Value) D ty (fl []) sz (qI D o0 (fl [])) 0 0 := by
  refine CX_of (cc := cX6_cellInLine) (maxL := 3) (ret := (some .int)) (C := RX6) (by decide) rfl rfl (Nat.le_of_ble_eq_true rfl) ?_
  intro p e s m below meth c A ls F hr hlk _ hK hP hD hS hA hl
  have hx := F.1
  have hb := F.2.1
  replace hl : lv_has ls 3 [(0, .int p0), (1, .int p1), (2, .int p2)] := hl
  unfold f_X6_cellInLine at hf
  refine lv_iload_n hx hb dX6_cellInLine_0 rfl (lv_at hl 0 rfl) ?_
  refine lv_if_eq (tgt := 13) hx hb dX6_cellInLine_1 (by decide) (fun hc => ?_) (fun hc => ?_)
  · replace hf := ite_t hf hc
    refine lv_bipush (v := (10 : Int32)) hx hb dX6_cellInLine_13 (by decide) ?_
    refine lv_iload_n hx hb dX6_cellInLine_15 rfl (lv_at hl 1 rfl) ?_
    refine lv_imul hx hb dX6_cellInLine_16 ?_
    refine lv_iload_n hx hb dX6_cellInLine_17 rfl (lv_at hl 2 rfl) ?_
    refine lv_iadd hx hb dX6_cellInLine_18 ?_
    obtain hf := hf
    have e0 := Option.some.inj hf
    exact CX_i F hr hlk hP hD hS e0 dX6_cellInLine_19
  · replace hf := ite_f hf hc
    refine lv_bipush (v := (10 : Int32)) hx hb dX6_cellInLine_4 (by decide) ?_
    refine lv_iload_n hx hb dX6_cellInLine_6 rfl (lv_at hl 2 rfl) ?_
    refine lv_imul hx hb dX6_cellInLine_7 ?_
    refine lv_iload_n hx hb dX6_cellInLine_8 rfl (lv_at hl 1 rfl) ?_
    refine lv_iadd hx hb dX6_cellInLine_9 ?_
    refine lv_goto (tgt := 19) hx hb dX6_cellInLine_10 (by decide) ?_
    obtain hf := hf
    have e0 := Option.some.inj hf
    exact CX_i F hr hlk hP hD hS e0 dX6_cellInLine_19
def j_X6_leastSquare_91 (z1 : Ob) (p1 : Int32) (p2 : Int32) (p3 : Int32) (r_8 : Int32 → Int32 → Option (Int32)) (y4 : Int32) (y5 : Int32) : Option (Int32) := bnd (y5 + (1 : Int32)) (fun x1 => r_8 y4 x1)
def j_X6_leastSquare_85 (z1 : Ob) (p1 : Int32) (p2 : Int32) (p3 : Int32) (r_8 : Int32 → Int32 → Option (Int32)) (r_51 : Int32 → Int32 → Option (Int32)) (y5 : Int32) (y4 : Int32) (y6 : Int32) : Option (Int32) := bnd (y6 + (1 : Int32)) (fun x7 => r_51 y4 x7)
def b_X6_leastSquare_51 (z1 : Ob) (p1 : Int32) (p2 : Int32) (p3 : Int32) (r_8 : Int32 → Int32 → Option (Int32)) (y5 : Int32) (r_51 : Int32 → Int32 → Option (Int32)) (y4 : Int32) (y6 : Int32) : Option (Int32) := (if (10 : Int32) ≤ y6 then j_X6_leastSquare_91 z1 p1 p2 p3 r_8 y4 y5 else (f_X6_isIn p1 y6).bind (fun v8 => (if v8 = 0 then j_X6_leastSquare_85 z1 p1 p2 p3 r_8 r_51 y5 y4 y6 else bnd (if ((y6 - y5) * (y6 - y5)) < y4 then ((y6 - y5) * (y6 - y5)) else y4) (fun x9 => j_X6_leastSquare_85 z1 p1 p2 p3 r_8 r_51 y5 x9 y6))))
def b_X6_leastSquare_8 (z1 : Ob) (p1 : Int32) (p2 : Int32) (p3 : Int32) (r_8 : Int32 → Int32 → Option (Int32)) (y4 : Int32) (y5 : Int32) : Option (Int32) := (if (10 : Int32) ≤ y5 then some y4 else (f_X6_isIn p1 y5).bind (fun v2 => (if v2 = 0 then j_X6_leastSquare_91 z1 p1 p2 p3 r_8 y4 y5 else (f_X6_cellInLine p2 p3 y5).bind (fun v3 => (f_X1_squareToRings z1 v3).bind (fun v4 => bnd (if v4 < y4 then v4 else y4) (fun x5 => bnd (y5 + (1 : Int32)) (fun x6 => fuel2 (b_X6_leastSquare_51 z1 p1 p2 p3 r_8 y5) FU x5 x6)))))))
def f_X6_leastSquare (z1 : Ob) (p1 : Int32) (p2 : Int32) (p3 : Int32) : Option (Int32) := fuel2 (b_X6_leastSquare_8 z1 p1 p2 p3) FU (1000 : Int32) (0 : Int32)
abbrev rm_X6_leastSquare : Room := { frames := 2, cells := 0, slots := 0, locals := 46 }
theorem hd_X6_leastSquare : yX6_leastSquare.cls ≠ "java/lang/invoke/MethodHandle" ∧ yX6_leastSquare.cls ≠ "java/lang/invoke/VarHandle" ∧ (parseMethodDescriptor yX6_leastSquare.desc).map (fun d => d.parameters.length) = some 3 := by decide +kernel
theorem in_X6_leastSquare_X6 : ∀ w ∈ wsX60, w ∈ wsX6_leastSquare := fun w h => List.mem_cons_of_mem _ (List.mem_append_left _ (List.mem_append_right _ h))
set_option maxHeartbeats 4000000 in
set_option maxRecDepth 100000 in
theorem c_X6_leastSquare (l : Launch) (D : va_G) (ty : TY) (h0 : Nat) (r0 : Nat → Nat) (a1 : Nat → Nat) (z1 : Ob) (p1 : Int32) (p2 : Int32) (p3 : Int32) (o0 : Int32) (hf : f_X6_leastSquare z1 p1 p2 p3 = some o0) (sz : Nat) : CX l yX6_leastSquare wsX6_leastSquare rm_X6_leastSquare ([.ref h0, .int p1, .int p2, .int p3] : List Value) D ty (fl [oX6 h0 r0, oX1 ty (r0 1) a1 z1]) sz (qI D o0 (fl [oX6 h0 r0, oX1 ty (r0 1) a1 z1])) 0 0 := by
  refine CX_of (cc := cX6_leastSquare) (maxL := 7) (ret := (some .int)) (C := RX6) (by decide) rfl rfl (Nat.le_of_ble_eq_true rfl) ?_
  intro p e s m below meth c A ls F hr hlk _ hK hP hD hS hA hl
  have hx := F.1
  have hb := F.2.1
  replace hl : lv_has ls 7 [(0, .ref h0), (1, .int p1), (2, .int p2), (3, .int p3)] := hl
  unfold f_X6_leastSquare at hf
  refine lv_sipush (v := (1000 : Int32)) hx hb dX6_leastSquare_0 (by decide) ?_
  refine lv_istore (lv' := [(4, .int (1000 : Int32)), (0, .ref h0), (1, .int p1), (2, .int p2), (3, .int p3)]) hx hb dX6_leastSquare_3 hl (by decide) rfl (fun ls hl => ?_)
  refine lv_iconst (v := (0 : Int32)) hx hb dX6_leastSquare_5 (by decide) ?_
  refine lv_istore (lv' := [(5, .int (0 : Int32)), (4, .int (1000 : Int32)), (0, .ref h0), (1, .int p1), (2, .int p2), (3, .int p3)]) hx hb dX6_leastSquare_6 hl (by decide) rfl (fun ls hl => ?_)
  have L_8 : ∀ (n : Nat) (y4 : Int32) (y5 : Int32) (H : Heap) (locs : List Loc) (ls : Array Slot), va_P D vwC (fl [oX6 h0 r0, oX1 ty (r0 1) a1 z1]) H → va_D A (fl [oX6 h0 r0, oX1 ty (r0 1) a1 z1]) → va_S A s.heap H locs → lv_has ls 7 [(0, .ref h0), (1, .int p1), (2, .int p2), (3, .int p3), (4, .int y4), (5, .int y5)] → fuel2 (b_X6_leastSquare_8 z1 p1 p2 p3) n y4 y5 = some o0 → W p l e rm_X6_leastSquare s m ([.ref h0, .int p1, .int p2, .int p3] : List Value).toArray below meth c H locs 0 0 (MQ below (qI D o0 (fl [oX6 h0 r0, oX1 ty (r0 1) a1 z1]) A) ([.ref h0, .int p1, .int p2, .int p3] : List Value).toArray s 0 0 A) (F0 m 8 ls []) := by
    intro n
    induction n with
    | zero => intro y4 y5 H locs ls hP hD hS hl hf; cases hf
    | succ n ih_8 =>
      intro y4 y5 H locs ls hP hD hS hl hf
      replace hf : b_X6_leastSquare_8 z1 p1 p2 p3 (fuel2 (b_X6_leastSquare_8 z1 p1 p2 p3) n) y4 y5 = some o0 := hf
      generalize fuel2 (b_X6_leastSquare_8 z1 p1 p2 p3) n = r_8 at ih_8 hf
      unfold b_X6_leastSquare_8 at hf
      have J_91 : ∀ (y4 : Int32) (y5 : Int32) (H : Heap) (locs : List Loc) (ls : Array Slot), va_P D vwC (fl [oX6 h0 r0, oX1 ty (r0 1) a1 z1]) H → va_D A (fl [oX6 h0 r0, oX1 ty (r0 1) a1 z1]) → va_S A s.heap H locs → lv_has ls 7 [(0, .ref h0), (1, .int p1), (2, .int p2), (3, .int p3), (4, .int y4), (5, .int y5)] → j_X6_leastSquare_91 z1 p1 p2 p3 r_8 y4 y5 = some o0 → W p l e rm_X6_leastSquare s m ([.ref h0, .int p1, .int p2, .int p3] : List Value).toArray below meth c H locs 0 0 (MQ below (qI D o0 (fl [oX6 h0 r0, oX1 ty (r0 1) a1 z1]) A) ([.ref h0, .int p1, .int p2, .int p3] : List Value).toArray s 0 0 A) (F0 m 91 ls []) := by
        intro y4 y5 H locs ls hP hD hS hl hf
        unfold j_X6_leastSquare_91 at hf
        obtain ⟨x1, ex⟩ : ∃ y : Int32, y = (y5 + (1 : Int32)) := ⟨_, rfl⟩
        replace hf := bnd_at hf ex
        refine lv_iinc (v := x1) (lv' := [(5, .int x1), (0, .ref h0), (1, .int p1), (2, .int p2), (3, .int p3), (4, .int y4)]) hx hb dX6_leastSquare_91 hl (k := 5) rfl (by rw [ex]; rfl) (by decide) rfl (fun ls hl => ?_)
        clear ex
        refine lv_goto (tgt := 8) hx hb dX6_leastSquare_94 (by decide) ?_
        exact ih_8 y4 x1 _ _ _ hP hD hS (lv_sub hl [1, 2, 3, 4, 5, 0] rfl) hf
      refine lv_iload hx hb dX6_leastSquare_8 (lv_at hl 5 rfl) ?_
      refine lv_bipush (v := (10 : Int32)) hx hb dX6_leastSquare_10 (by decide) ?_
      refine lv_icmp_ge (tgt := 97) hx hb dX6_leastSquare_12 (by decide) (fun hc => ?_) (fun hc => ?_)
      · replace hf := ite_t hf hc
        refine lv_iload hx hb dX6_leastSquare_97 (lv_at hl 4 rfl) ?_
        obtain hf := hf
        have e0 := Option.some.inj hf
        exact CX_i F hr hlk hP hD hS e0 dX6_leastSquare_99
      · replace hf := ite_f hf hc
        refine lv_iload_n hx hb dX6_leastSquare_15 rfl (lv_at hl 1 rfl) ?_
        refine lv_iload hx hb dX6_leastSquare_16 (lv_at hl 5 rfl) ?_
        obtain ⟨v2, hv, hf⟩ := obd hf
        have hp1 : List.Perm [oX6 h0 r0, oX1 ty (r0 1) a1 z1] ([] ++ [oX6 h0 r0, oX1 ty (r0 1) a1 z1]) := (List.Perm.refl _)
        refine ci_call (out := v2) (os := [oX6 h0 r0, oX1 ty (r0 1) a1 z1]) (oc := []) (oc' := []) (or_ := [oX6 h0 r0, oX1 ty (r0 1) a1 z1]) (os' := [oX6 h0 r0, oX1 ty (r0 1) a1 z1]) (va_runS (As := [.int p1, .int y5]) (rest := []) F (c_X6_isIn l D ty _ _ _ hv _) (va_cwS 2 F.2.2.2.2 gX6_leastSquare_X6_isIn rfl rfl rfl hd_X6_isIn ⟨Nat.le_of_ble_eq_true rfl, Nat.le_of_ble_eq_true rfl⟩) (pre_s hK hP hD hp1) rfl rfl hl.1 rfl (lv_room (Nat.le_of_ble_eq_true rfl)) dX6_leastSquare_18 ⟨Nat.zero_le _, Nat.zero_le _⟩) hp1 (List.Perm.refl _) hP hD hS hA (fun H locs hP hD hS => ?_)
        clear hp1 hv
        refine lv_if_eq (tgt := 91) hx hb dX6_leastSquare_21 (by decide) (fun hc => ?_) (fun hc => ?_)
        · replace hf := ite_t hf hc
          exact J_91 y4 y5 _ _ _ hP hD hS (lv_sub hl [0, 1, 2, 3, 4, 5] rfl) hf
        · replace hf := ite_f hf hc
          refine lv_iload hx hb dX6_leastSquare_24 (lv_at hl 4 rfl) ?_
          refine lv_aload_n hx hb dX6_leastSquare_26 rfl (lv_at hl 0 rfl) ?_
          refine va_get (D := D) (ci := 6) (C := RX6) (T := TX6) (N := 8) hx hb F.2.2.2.2 in_X6_leastSquare_X6 F.2.2.2.1 hK.1 hP 0 rfl rfl 1 (Nat.le_of_ble_eq_true rfl) (F.2.2.2.2 (.fieldLink RX6 19 "LouderRoom" "now" "LLouderRoom$Crowd;") (List.mem_of_getElem? (i := 1) rfl)) (fun _ h9 => h9) rfl dX6_leastSquare_27 ?_
          refine lv_iload_n hx hb dX6_leastSquare_30 rfl (lv_at hl 2 rfl) ?_
          refine lv_iload_n hx hb dX6_leastSquare_31 rfl (lv_at hl 3 rfl) ?_
          refine lv_iload hx hb dX6_leastSquare_32 (lv_at hl 5 rfl) ?_
          obtain ⟨v3, hv, hf⟩ := obd hf
          have hp1 : List.Perm [oX6 h0 r0, oX1 ty (r0 1) a1 z1] ([] ++ [oX6 h0 r0, oX1 ty (r0 1) a1 z1]) := (List.Perm.refl _)
          refine ci_call (out := v3) (os := [oX6 h0 r0, oX1 ty (r0 1) a1 z1]) (oc := []) (oc' := []) (or_ := [oX6 h0 r0, oX1 ty (r0 1) a1 z1]) (os' := [oX6 h0 r0, oX1 ty (r0 1) a1 z1]) (va_runS (As := [.int p2, .int p3, .int y5]) (rest := [.ref (r0 1), .int y4]) F (c_X6_cellInLine l D ty _ _ _ _ hv _) (va_cwS 3 F.2.2.2.2 gX6_leastSquare_X6_cellInLine rfl rfl rfl hd_X6_cellInLine ⟨Nat.le_of_ble_eq_true rfl, Nat.le_of_ble_eq_true rfl⟩) (pre_s hK hP hD hp1) rfl rfl hl.1 rfl (lv_room (Nat.le_of_ble_eq_true rfl)) dX6_leastSquare_34 ⟨Nat.zero_le _, Nat.zero_le _⟩) hp1 (List.Perm.refl _) hP hD hS hA (fun H locs hP hD hS => ?_)
          clear hp1 hv
          obtain ⟨v4, hv, hf⟩ := obd hf
          have hp1 : List.Perm [oX6 h0 r0, oX1 ty (r0 1) a1 z1] ([oX1 ty (r0 1) a1 z1] ++ [oX6 h0 r0]) := ((List.perm_middle (a := (oX1 ty (r0 1) a1 z1 : va_W)) (l₁ := ([oX6 h0 r0] : List va_W)) (l₂ := ([] : List va_W))) : List.Perm ([oX6 h0 r0, oX1 ty (r0 1) a1 z1] : List va_W) ([oX1 ty (r0 1) a1 z1, oX6 h0 r0] : List va_W))
          refine ci_call (out := v4) (os := [oX6 h0 r0, oX1 ty (r0 1) a1 z1]) (oc := [oX1 ty (r0 1) a1 z1]) (oc' := [oX1 ty (r0 1) a1 z1]) (or_ := [oX6 h0 r0]) (os' := [oX6 h0 r0, oX1 ty (r0 1) a1 z1]) (va_runV (As := [.int v3]) (rest := [.int y4]) F (c_X1_squareToRings l D ty (r0 1) a1 _ _ _ hv _) (cwV 1 F.2.2.2.2 gX6_leastSquare_X1_squareToRings rfl rfl rfl ⟨rfl, hd_X1_squareToRings⟩ ⟨Nat.le_of_ble_eq_true rfl, Nat.le_of_ble_eq_true rfl⟩) (pre_v hK hP hD hp1 rfl rfl rfl) rfl rfl hl.1 rfl (lv_room (Nat.le_of_ble_eq_true rfl)) dX6_leastSquare_37 ⟨Nat.zero_le _, Nat.zero_le _⟩) hp1 ((List.perm_middle (a := (oX6 h0 r0 : va_W)) (l₁ := ([oX1 ty (r0 1) a1 z1] : List va_W)) (l₂ := ([] : List va_W))) : List.Perm ([oX1 ty (r0 1) a1 z1, oX6 h0 r0] : List va_W) ([oX6 h0 r0, oX1 ty (r0 1) a1 z1] : List va_W)) hP hD hS hA (fun H locs hP hD hS => ?_)
          clear hp1 hv
          refine va_mmin hx hb (F.2.2.1.trans hl.1.symm) F.2.2.2.1 (F.2.2.2.2 (.methodLink RX6 204 Lib.Math.min.name) (List.mem_of_getElem? (i := 2) rfl)) (F.2.2.2.2 (.static Lib.Math.min.name) (List.mem_of_getElem? (i := 3) rfl)) (F.2.2.2.2 (.initialized "java/lang/Math") (List.mem_of_getElem? (i := 4) rfl)) (F.2.2.2.2 (.code Lib.Math.min.name Lib.Math.min.code 2 (some .int)) (List.mem_of_getElem? (i := 5) rfl)) (Nat.le_of_ble_eq_true rfl) (Nat.le_of_ble_eq_true rfl) (Nat.zero_le _) (Nat.zero_le _) dX6_leastSquare_40 ?_
          refine lv_topi (fun x5 ex => ?_)
          replace hf := bnd_at hf ex; clear ex
          refine lv_istore (lv' := [(4, .int x5), (0, .ref h0), (1, .int p1), (2, .int p2), (3, .int p3), (5, .int y5)]) hx hb dX6_leastSquare_43 hl (by decide) rfl (fun ls hl => ?_)
          refine lv_iload hx hb dX6_leastSquare_45 (lv_at hl 5 rfl) ?_
          refine lv_iconst (v := (1 : Int32)) hx hb dX6_leastSquare_47 (by decide) ?_
          refine lv_iadd hx hb dX6_leastSquare_48 ?_
          refine lv_topi (fun x6 ex => ?_)
          replace hf := bnd_at hf ex; clear ex
          refine lv_istore (lv' := [(6, .int x6), (4, .int x5), (0, .ref h0), (1, .int p1), (2, .int p2), (3, .int p3), (5, .int y5)]) hx hb dX6_leastSquare_49 hl (by decide) rfl (fun ls hl => ?_)
          have L_51 : ∀ (y5 : Int32) (n : Nat) (y4 : Int32) (y6 : Int32) (H : Heap) (locs : List Loc) (ls : Array Slot), va_P D vwC (fl [oX6 h0 r0, oX1 ty (r0 1) a1 z1]) H → va_D A (fl [oX6 h0 r0, oX1 ty (r0 1) a1 z1]) → va_S A s.heap H locs → lv_has ls 7 [(0, .ref h0), (1, .int p1), (2, .int p2), (3, .int p3), (4, .int y4), (5, .int y5), (6, .int y6)] → fuel2 (b_X6_leastSquare_51 z1 p1 p2 p3 r_8 y5) n y4 y6 = some o0 → W p l e rm_X6_leastSquare s m ([.ref h0, .int p1, .int p2, .int p3] : List Value).toArray below meth c H locs 0 0 (MQ below (qI D o0 (fl [oX6 h0 r0, oX1 ty (r0 1) a1 z1]) A) ([.ref h0, .int p1, .int p2, .int p3] : List Value).toArray s 0 0 A) (F0 m 51 ls []) := by
            intro y5 n
            induction n with
            | zero => intro y4 y6 H locs ls hP hD hS hl hf; cases hf
            | succ n ih_51 =>
              intro y4 y6 H locs ls hP hD hS hl hf
              replace hf : b_X6_leastSquare_51 z1 p1 p2 p3 r_8 y5 (fuel2 (b_X6_leastSquare_51 z1 p1 p2 p3 r_8 y5) n) y4 y6 = some o0 := hf
              generalize fuel2 (b_X6_leastSquare_51 z1 p1 p2 p3 r_8 y5) n = r_51 at ih_51 hf
              unfold b_X6_leastSquare_51 at hf
              have J_85 : ∀ (y4 : Int32) (y6 : Int32) (H : Heap) (locs : List Loc) (ls : Array Slot), va_P D vwC (fl [oX6 h0 r0, oX1 ty (r0 1) a1 z1]) H → va_D A (fl [oX6 h0 r0, oX1 ty (r0 1) a1 z1]) → va_S A s.heap H locs → lv_has ls 7 [(0, .ref h0), (1, .int p1), (2, .int p2), (3, .int p3), (4, .int y4), (5, .int y5), (6, .int y6)] → j_X6_leastSquare_85 z1 p1 p2 p3 r_8 r_51 y5 y4 y6 = some o0 → W p l e rm_X6_leastSquare s m ([.ref h0, .int p1, .int p2, .int p3] : List Value).toArray below meth c H locs 0 0 (MQ below (qI D o0 (fl [oX6 h0 r0, oX1 ty (r0 1) a1 z1]) A) ([.ref h0, .int p1, .int p2, .int p3] : List Value).toArray s 0 0 A) (F0 m 85 ls []) := by
                intro y4 y6 H locs ls hP hD hS hl hf
                unfold j_X6_leastSquare_85 at hf
                obtain ⟨x7, ex⟩ : ∃ y : Int32, y = (y6 + (1 : Int32)) := ⟨_, rfl⟩
                replace hf := bnd_at hf ex
                refine lv_iinc (v := x7) (lv' := [(6, .int x7), (0, .ref h0), (1, .int p1), (2, .int p2), (3, .int p3), (4, .int y4), (5, .int y5)]) hx hb dX6_leastSquare_85 hl (k := 6) rfl (by rw [ex]; rfl) (by decide) rfl (fun ls hl => ?_)
                clear ex
                refine lv_goto (tgt := 51) hx hb dX6_leastSquare_88 (by decide) ?_
                exact ih_51 y4 x7 _ _ _ hP hD hS (lv_sub hl [1, 2, 3, 4, 5, 6, 0] rfl) hf
              refine lv_iload hx hb dX6_leastSquare_51 (lv_at hl 6 rfl) ?_
              refine lv_bipush (v := (10 : Int32)) hx hb dX6_leastSquare_53 (by decide) ?_
              refine lv_icmp_ge (tgt := 91) hx hb dX6_leastSquare_55 (by decide) (fun hc => ?_) (fun hc => ?_)
              · replace hf := ite_t hf hc
                exact J_91 y4 y5 _ _ _ hP hD hS (lv_sub hl [0, 1, 2, 3, 4, 5] rfl) hf
              · replace hf := ite_f hf hc
                refine lv_iload_n hx hb dX6_leastSquare_58 rfl (lv_at hl 1 rfl) ?_
                refine lv_iload hx hb dX6_leastSquare_59 (lv_at hl 6 rfl) ?_
                obtain ⟨v8, hv, hf⟩ := obd hf
                have hp1 : List.Perm [oX6 h0 r0, oX1 ty (r0 1) a1 z1] ([] ++ [oX6 h0 r0, oX1 ty (r0 1) a1 z1]) := (List.Perm.refl _)
                refine ci_call (out := v8) (os := [oX6 h0 r0, oX1 ty (r0 1) a1 z1]) (oc := []) (oc' := []) (or_ := [oX6 h0 r0, oX1 ty (r0 1) a1 z1]) (os' := [oX6 h0 r0, oX1 ty (r0 1) a1 z1]) (va_runS (As := [.int p1, .int y6]) (rest := []) F (c_X6_isIn l D ty _ _ _ hv _) (va_cwS 2 F.2.2.2.2 gX6_leastSquare_X6_isIn rfl rfl rfl hd_X6_isIn ⟨Nat.le_of_ble_eq_true rfl, Nat.le_of_ble_eq_true rfl⟩) (pre_s hK hP hD hp1) rfl rfl hl.1 rfl (lv_room (Nat.le_of_ble_eq_true rfl)) dX6_leastSquare_61 ⟨Nat.zero_le _, Nat.zero_le _⟩) hp1 (List.Perm.refl _) hP hD hS hA (fun H locs hP hD hS => ?_)
                clear hp1 hv
                refine lv_if_eq (tgt := 85) hx hb dX6_leastSquare_64 (by decide) (fun hc => ?_) (fun hc => ?_)
                · replace hf := ite_t hf hc
                  exact J_85 y4 y6 _ _ _ hP hD hS (lv_sub hl [0, 1, 2, 3, 4, 5, 6] rfl) hf
                · replace hf := ite_f hf hc
                  refine lv_iload hx hb dX6_leastSquare_67 (lv_at hl 4 rfl) ?_
                  refine lv_iload hx hb dX6_leastSquare_69 (lv_at hl 6 rfl) ?_
                  refine lv_iload hx hb dX6_leastSquare_71 (lv_at hl 5 rfl) ?_
                  refine lv_isub hx hb dX6_leastSquare_73 ?_
                  refine lv_iload hx hb dX6_leastSquare_74 (lv_at hl 6 rfl) ?_
                  refine lv_iload hx hb dX6_leastSquare_76 (lv_at hl 5 rfl) ?_
                  refine lv_isub hx hb dX6_leastSquare_78 ?_
                  refine lv_imul hx hb dX6_leastSquare_79 ?_
                  refine va_mmin hx hb (F.2.2.1.trans hl.1.symm) F.2.2.2.1 (F.2.2.2.2 (.methodLink RX6 204 Lib.Math.min.name) (List.mem_of_getElem? (i := 2) rfl)) (F.2.2.2.2 (.static Lib.Math.min.name) (List.mem_of_getElem? (i := 3) rfl)) (F.2.2.2.2 (.initialized "java/lang/Math") (List.mem_of_getElem? (i := 4) rfl)) (F.2.2.2.2 (.code Lib.Math.min.name Lib.Math.min.code 2 (some .int)) (List.mem_of_getElem? (i := 5) rfl)) (Nat.le_of_ble_eq_true rfl) (Nat.le_of_ble_eq_true rfl) (Nat.zero_le _) (Nat.zero_le _) dX6_leastSquare_80 ?_
                  refine lv_topi (fun x9 ex => ?_)
                  replace hf := bnd_at hf ex; clear ex
                  refine lv_istore (lv' := [(4, .int x9), (0, .ref h0), (1, .int p1), (2, .int p2), (3, .int p3), (5, .int y5), (6, .int y6)]) hx hb dX6_leastSquare_83 hl (by decide) rfl (fun ls hl => ?_)
                  exact J_85 x9 y6 _ _ _ hP hD hS (lv_sub hl [1, 2, 3, 4, 0, 5, 6] rfl) hf
          exact L_51 y5 FU x5 x6 _ _ _ hP hD hS (lv_sub hl [2, 3, 4, 5, 1, 6, 0] rfl) hf
  exact L_8 FU (1000 : Int32) (0 : Int32) _ _ _ hP hD hS (lv_sub hl [2, 3, 4, 5, 1, 0] rfl) hf
def j_X6_bestTables_50 (z1 : Ob) (p1 : Int32) (p2 : Int32) (p3 : Int32) (r_11 : Int32 → Int32 → Int32 → Option (Int32)) (y4 : Int32) (y5 : Int32) (y6 : Int32) : Option (Int32) := bnd (y6 + (-1 : Int32)) (fun x1 => r_11 y4 y5 x1)
def b_X6_bestTables_11 (z1 : Ob) (p1 : Int32) (p2 : Int32) (p3 : Int32) (r_11 : Int32 → Int32 → Int32 → Option (Int32)) (y4 : Int32) (y5 : Int32) (y6 : Int32) : Option (Int32) := (if y6 ≤ 0 then some y4 else (f_J6_bitCount_0f7a4 y6).bind (fun v2 => (if v2 = p1 then (f_X6_leastSquare z1 y6 p2 p3).bind (fun v3 => (if v3 ≤ y5 then j_X6_bestTables_50 z1 p1 p2 p3 r_11 y4 y5 y6 else j_X6_bestTables_50 z1 p1 p2 p3 r_11 y6 v3 y6)) else j_X6_bestTables_50 z1 p1 p2 p3 r_11 y4 y5 y6)))
def f_X6_bestTables (z1 : Ob) (p1 : Int32) (p2 : Int32) (p3 : Int32) : Option (Int32) := fuel3 (b_X6_bestTables_11 z1 p1 p2 p3) FU (0 : Int32) (0 : Int32) (1023 : Int32)
abbrev rm_X6_bestTables : Room := { frames := 3, cells := 0, slots := 0, locals := 72 }
theorem hd_X6_bestTables : yX6_bestTables.cls ≠ "java/lang/invoke/MethodHandle" ∧ yX6_bestTables.cls ≠ "java/lang/invoke/VarHandle" ∧ (parseMethodDescriptor yX6_bestTables.desc).map (fun d => d.parameters.length) = some 3 := by decide +kernel
set_option maxHeartbeats 4000000 in
set_option maxRecDepth 100000 in
theorem c_X6_bestTables (l : Launch) (D : va_G) (ty : TY) (h0 : Nat) (r0 : Nat → Nat) (a1 : Nat → Nat) (z1 : Ob) (p1 : Int32) (p2 : Int32) (p3 : Int32) (o0 : Int32) (hf : f_X6_bestTables z1 p1 p2 p3 = some o0) (sz : Nat) : CX l yX6_bestTables wsX6_bestTables rm_X6_bestTables ([.ref h0, .int p1, .int p2, .int p3] : List Value) D ty (fl [oX6 h0 r0, oX1 ty (r0 1) a1 z1]) sz (qI D o0 (fl [oX6 h0 r0, oX1 ty (r0 1) a1 z1])) 0 0 := by
  refine CX_of (cc := cX6_bestTables) (maxL := 8) (ret := (some .int)) (C := RX6) (by decide) rfl rfl (Nat.le_of_ble_eq_true rfl) ?_
  intro p e s m below meth c A ls F hr hlk _ hK hP hD hS hA hl
  have hx := F.1
  have hb := F.2.1
  replace hl : lv_has ls 8 [(0, .ref h0), (1, .int p1), (2, .int p2), (3, .int p3)] := hl
  unfold f_X6_bestTables at hf
  refine lv_iconst (v := (0 : Int32)) hx hb dX6_bestTables_0 (by decide) ?_
  refine lv_istore (lv' := [(4, .int (0 : Int32)), (0, .ref h0), (1, .int p1), (2, .int p2), (3, .int p3)]) hx hb dX6_bestTables_1 hl (by decide) rfl (fun ls hl => ?_)
  refine lv_iconst (v := (0 : Int32)) hx hb dX6_bestTables_3 (by decide) ?_
  refine lv_istore (lv' := [(5, .int (0 : Int32)), (4, .int (0 : Int32)), (0, .ref h0), (1, .int p1), (2, .int p2), (3, .int p3)]) hx hb dX6_bestTables_4 hl (by decide) rfl (fun ls hl => ?_)
  refine lv_sipush (v := (1023 : Int32)) hx hb dX6_bestTables_6 (by decide) ?_
  refine lv_istore (lv' := [(6, .int (1023 : Int32)), (5, .int (0 : Int32)), (4, .int (0 : Int32)), (0, .ref h0), (1, .int p1), (2, .int p2), (3, .int p3)]) hx hb dX6_bestTables_9 hl (by decide) rfl (fun ls hl => ?_)
  have L_11 : ∀ (n : Nat) (y4 : Int32) (y5 : Int32) (y6 : Int32) (H : Heap) (locs : List Loc) (ls : Array Slot), va_P D vwC (fl [oX6 h0 r0, oX1 ty (r0 1) a1 z1]) H → va_D A (fl [oX6 h0 r0, oX1 ty (r0 1) a1 z1]) → va_S A s.heap H locs → lv_has ls 8 [(0, .ref h0), (1, .int p1), (2, .int p2), (3, .int p3), (4, .int y4), (5, .int y5), (6, .int y6)] → fuel3 (b_X6_bestTables_11 z1 p1 p2 p3) n y4 y5 y6 = some o0 → W p l e rm_X6_bestTables s m ([.ref h0, .int p1, .int p2, .int p3] : List Value).toArray below meth c H locs 0 0 (MQ below (qI D o0 (fl [oX6 h0 r0, oX1 ty (r0 1) a1 z1]) A) ([.ref h0, .int p1, .int p2, .int p3] : List Value).toArray s 0 0 A) (F0 m 11 ls []) := by
    intro n
    induction n with
    | zero => intro y4 y5 y6 H locs ls hP hD hS hl hf; cases hf
    | succ n ih_11 =>
      intro y4 y5 y6 H locs ls hP hD hS hl hf
      replace hf : b_X6_bestTables_11 z1 p1 p2 p3 (fuel3 (b_X6_bestTables_11 z1 p1 p2 p3) n) y4 y5 y6 = some o0 := hf
      generalize fuel3 (b_X6_bestTables_11 z1 p1 p2 p3) n = r_11 at ih_11 hf
      unfold b_X6_bestTables_11 at hf
      have J_50 : ∀ (y4 : Int32) (y5 : Int32) (y6 : Int32) (H : Heap) (locs : List Loc) (ls : Array Slot), va_P D vwC (fl [oX6 h0 r0, oX1 ty (r0 1) a1 z1]) H → va_D A (fl [oX6 h0 r0, oX1 ty (r0 1) a1 z1]) → va_S A s.heap H locs → lv_has ls 8 [(0, .ref h0), (1, .int p1), (2, .int p2), (3, .int p3), (4, .int y4), (5, .int y5), (6, .int y6)] → j_X6_bestTables_50 z1 p1 p2 p3 r_11 y4 y5 y6 = some o0 → W p l e rm_X6_bestTables s m ([.ref h0, .int p1, .int p2, .int p3] : List Value).toArray below meth c H locs 0 0 (MQ below (qI D o0 (fl [oX6 h0 r0, oX1 ty (r0 1) a1 z1]) A) ([.ref h0, .int p1, .int p2, .int p3] : List Value).toArray s 0 0 A) (F0 m 50 ls []) := by
        intro y4 y5 y6 H locs ls hP hD hS hl hf
        unfold j_X6_bestTables_50 at hf
        obtain ⟨x1, ex⟩ : ∃ y : Int32, y = (y6 + (-1 : Int32)) := ⟨_, rfl⟩
        replace hf := bnd_at hf ex
        refine lv_iinc (v := x1) (lv' := [(6, .int x1), (0, .ref h0), (1, .int p1), (2, .int p2), (3, .int p3), (4, .int y4), (5, .int y5)]) hx hb dX6_bestTables_50 hl (k := 6) rfl (by rw [ex]; rfl) (by decide) rfl (fun ls hl => ?_)
        clear ex
        refine lv_goto (tgt := 11) hx hb dX6_bestTables_53 (by decide) ?_
        exact ih_11 y4 y5 x1 _ _ _ hP hD hS (lv_sub hl [1, 2, 3, 4, 5, 6, 0] rfl) hf
      refine lv_iload hx hb dX6_bestTables_11 (lv_at hl 6 rfl) ?_
      refine lv_if_le (tgt := 56) hx hb dX6_bestTables_13 (by decide) (fun hc => ?_) (fun hc => ?_)
      · replace hf := ite_t hf hc
        refine lv_iload hx hb dX6_bestTables_56 (lv_at hl 4 rfl) ?_
        obtain hf := hf
        have e0 := Option.some.inj hf
        exact CX_i F hr hlk hP hD hS e0 dX6_bestTables_58
      · replace hf := ite_f hf hc
        refine lv_iload hx hb dX6_bestTables_16 (lv_at hl 6 rfl) ?_
        obtain ⟨v2, hv, hf⟩ := obd hf
        have hp1 : List.Perm [oX6 h0 r0, oX1 ty (r0 1) a1 z1] ([] ++ [oX6 h0 r0, oX1 ty (r0 1) a1 z1]) := (List.Perm.refl _)
        refine ci_call (out := v2) (os := [oX6 h0 r0, oX1 ty (r0 1) a1 z1]) (oc := []) (oc' := []) (or_ := [oX6 h0 r0, oX1 ty (r0 1) a1 z1]) (os' := [oX6 h0 r0, oX1 ty (r0 1) a1 z1]) (va_runS (As := [.int y6]) (rest := []) F (c_J6_bitCount_0f7a4 l D ty _ _ hv _) (va_cwS 1 F.2.2.2.2 gX6_bestTables_J6_bitCount_0f7a4 rfl rfl rfl hd_J6_bitCount_0f7a4 ⟨Nat.le_of_ble_eq_true rfl, Nat.le_of_ble_eq_true rfl⟩) (pre_s hK hP hD hp1) rfl rfl hl.1 rfl (lv_room (Nat.le_of_ble_eq_true rfl)) dX6_bestTables_18 ⟨Nat.zero_le _, Nat.zero_le _⟩) hp1 (List.Perm.refl _) hP hD hS hA (fun H locs hP hD hS => ?_)
        clear hp1 hv
        refine lv_iload_n hx hb dX6_bestTables_21 rfl (lv_at hl 1 rfl) ?_
        refine lv_icmp_ne (tgt := 50) hx hb dX6_bestTables_22 (by decide) (fun hc => ?_) (fun hc => ?_)
        · replace hf := ite_f hf hc
          exact J_50 y4 y5 y6 _ _ _ hP hD hS (lv_sub hl [0, 1, 2, 3, 4, 5, 6] rfl) hf
        · replace hf := ite_t hf hc
          refine lv_aload_n hx hb dX6_bestTables_25 rfl (lv_at hl 0 rfl) ?_
          refine lv_iload hx hb dX6_bestTables_26 (lv_at hl 6 rfl) ?_
          refine lv_iload_n hx hb dX6_bestTables_28 rfl (lv_at hl 2 rfl) ?_
          refine lv_iload_n hx hb dX6_bestTables_29 rfl (lv_at hl 3 rfl) ?_
          obtain ⟨v3, hv, hf⟩ := obd hf
          have hp1 : List.Perm [oX6 h0 r0, oX1 ty (r0 1) a1 z1] ([oX6 h0 r0, oX1 ty (r0 1) a1 z1] ++ []) := (List.Perm.refl _)
          refine ci_call (out := v3) (os := [oX6 h0 r0, oX1 ty (r0 1) a1 z1]) (oc := [oX6 h0 r0, oX1 ty (r0 1) a1 z1]) (oc' := [oX6 h0 r0, oX1 ty (r0 1) a1 z1]) (or_ := []) (os' := [oX6 h0 r0, oX1 ty (r0 1) a1 z1]) (va_runV (As := [.int y6, .int p2, .int p3]) (rest := []) F (c_X6_leastSquare l D ty h0 r0 a1 _ _ _ _ _ hv _) (cwV 3 F.2.2.2.2 gX6_bestTables_X6_leastSquare rfl rfl rfl ⟨rfl, hd_X6_leastSquare⟩ ⟨Nat.le_of_ble_eq_true rfl, Nat.le_of_ble_eq_true rfl⟩) (pre_v hK hP hD hp1 rfl rfl rfl) rfl rfl hl.1 rfl (lv_room (Nat.le_of_ble_eq_true rfl)) dX6_bestTables_30 ⟨Nat.zero_le _, Nat.zero_le _⟩) hp1 (List.Perm.refl _) hP hD hS hA (fun H locs hP hD hS => ?_)
          clear hp1 hv
          refine lv_istore (lv' := [(7, .int v3), (0, .ref h0), (1, .int p1), (2, .int p2), (3, .int p3), (4, .int y4), (5, .int y5), (6, .int y6)]) hx hb dX6_bestTables_33 hl (by decide) rfl (fun ls hl => ?_)
          refine lv_iload hx hb dX6_bestTables_35 (lv_at hl 0 rfl) ?_
          refine lv_iload hx hb dX6_bestTables_37 (lv_at hl 6 rfl) ?_
          refine lv_icmp_le (tgt := 50) hx hb dX6_bestTables_39 (by decide) (fun hc => ?_) (fun hc => ?_)
          · replace hf := ite_t hf hc
            exact J_50 y4 y5 y6 _ _ _ hP hD hS (lv_sub hl [1, 2, 3, 4, 5, 6, 7] rfl) hf
          · replace hf := ite_f hf hc
            refine lv_iload hx hb dX6_bestTables_42 (lv_at hl 7 rfl) ?_
            refine lv_istore (lv' := [(4, .int y6), (7, .int v3), (0, .ref h0), (1, .int p1), (2, .int p2), (3, .int p3), (5, .int y5), (6, .int y6)]) hx hb dX6_bestTables_44 hl (by decide) rfl (fun ls hl => ?_)
            refine lv_iload hx hb dX6_bestTables_46 (lv_at hl 1 rfl) ?_
            refine lv_istore (lv' := [(5, .int v3), (4, .int y6), (7, .int v3), (0, .ref h0), (1, .int p1), (2, .int p2), (3, .int p3), (6, .int y6)]) hx hb dX6_bestTables_48 hl (by decide) rfl (fun ls hl => ?_)
            exact J_50 y6 v3 y6 _ _ _ hP hD hS (lv_sub hl [3, 4, 5, 6, 1, 0, 7] rfl) hf
  exact L_11 FU (0 : Int32) (0 : Int32) (1023 : Int32) _ _ _ hP hD hS (lv_sub hl [3, 4, 5, 6, 2, 1, 0] rfl) hf
def f_X6_tables (z1 : Ob) (p1 : Int32) (p2 : Int32) (p3 : Int32) : Option (Int32) := (f_X6_isTables p1 p3).bind (fun v1 => (if v1 = 0 then some (-2 : Int32) else (f_X6_bestTables z1 p1 p2 p3).bind (fun v2 => (if v2 = 0 then some (-9 : Int32) else (f_X6_leastSquare z1 v2 p2 p3).bind (fun v3 => some v3)))))
abbrev rm_X6_tables : Room := { frames := 4, cells := 0, slots := 0, locals := 99 }
theorem hd_X6_tables : yX6_tables.cls ≠ "java/lang/invoke/MethodHandle" ∧ yX6_tables.cls ≠ "java/lang/invoke/VarHandle" ∧ (parseMethodDescriptor yX6_tables.desc).map (fun d => d.parameters.length) = some 3 := by decide +kernel
set_option maxHeartbeats 4000000 in
set_option maxRecDepth 100000 in
theorem c_X6_tables (l : Launch) (D : va_G) (ty : TY) (h0 : Nat) (r0 : Nat → Nat) (a1 : Nat → Nat) (z1 : Ob) (p1 : Int32) (p2 : Int32) (p3 : Int32) (o0 : Int32) (hf : f_X6_tables z1 p1 p2 p3 = some o0) (sz : Nat) : CX l yX6_tables wsX6_tables rm_X6_tables ([.ref h0, .int p1, .int p2, .int p3] : List Value) D ty (fl [oX6 h0 r0, oX1 ty (r0 1) a1 z1]) sz (qI D o0 (fl [oX6 h0 r0, oX1 ty (r0 1) a1 z1])) 0 0 := by
  refine CX_of (cc := cX6_tables) (maxL := 5) (ret := (some .int)) (C := RX6) (by decide) rfl rfl (Nat.le_of_ble_eq_true rfl) ?_
  intro p e s m below meth c A ls F hr hlk _ hK hP hD hS hA hl
  have hx := F.1
  have hb := F.2.1
  replace hl : lv_has ls 5 [(0, .ref h0), (1, .int p1), (2, .int p2), (3, .int p3)] := hl
  unfold f_X6_tables at hf
  refine lv_iload_n hx hb dX6_tables_0 rfl (lv_at hl 1 rfl) ?_
  refine lv_iload_n hx hb dX6_tables_1 rfl (lv_at hl 3 rfl) ?_
  obtain ⟨v1, hv, hf⟩ := obd hf
  have hp1 : List.Perm [oX6 h0 r0, oX1 ty (r0 1) a1 z1] ([] ++ [oX6 h0 r0, oX1 ty (r0 1) a1 z1]) := (List.Perm.refl _)
  refine ci_call (out := v1) (os := [oX6 h0 r0, oX1 ty (r0 1) a1 z1]) (oc := []) (oc' := []) (or_ := [oX6 h0 r0, oX1 ty (r0 1) a1 z1]) (os' := [oX6 h0 r0, oX1 ty (r0 1) a1 z1]) (va_runS (As := [.int p1, .int p3]) (rest := []) F (c_X6_isTables l D ty _ _ _ hv _) (va_cwS 2 F.2.2.2.2 gX6_tables_X6_isTables rfl rfl rfl hd_X6_isTables ⟨Nat.le_of_ble_eq_true rfl, Nat.le_of_ble_eq_true rfl⟩) (pre_s hK hP hD hp1) rfl rfl hl.1 rfl (lv_room (Nat.le_of_ble_eq_true rfl)) dX6_tables_2 ⟨Nat.zero_le _, Nat.zero_le _⟩) hp1 (List.Perm.refl _) hP hD hS hA (fun H locs hP hD hS => ?_)
  clear hp1 hv
  refine lv_if_ne (tgt := 11) hx hb dX6_tables_5 (by decide) (fun hc => ?_) (fun hc => ?_)
  · replace hf := ite_f hf hc
    refine lv_aload_n hx hb dX6_tables_11 rfl (lv_at hl 0 rfl) ?_
    refine lv_iload_n hx hb dX6_tables_12 rfl (lv_at hl 1 rfl) ?_
    refine lv_iload_n hx hb dX6_tables_13 rfl (lv_at hl 2 rfl) ?_
    refine lv_iload_n hx hb dX6_tables_14 rfl (lv_at hl 3 rfl) ?_
    obtain ⟨v2, hv, hf⟩ := obd hf
    have hp1 : List.Perm [oX6 h0 r0, oX1 ty (r0 1) a1 z1] ([oX6 h0 r0, oX1 ty (r0 1) a1 z1] ++ []) := (List.Perm.refl _)
    refine ci_call (out := v2) (os := [oX6 h0 r0, oX1 ty (r0 1) a1 z1]) (oc := [oX6 h0 r0, oX1 ty (r0 1) a1 z1]) (oc' := [oX6 h0 r0, oX1 ty (r0 1) a1 z1]) (or_ := []) (os' := [oX6 h0 r0, oX1 ty (r0 1) a1 z1]) (va_runV (As := [.int p1, .int p2, .int p3]) (rest := []) F (c_X6_bestTables l D ty h0 r0 a1 _ _ _ _ _ hv _) (cwV 3 F.2.2.2.2 gX6_tables_X6_bestTables rfl rfl rfl ⟨rfl, hd_X6_bestTables⟩ ⟨Nat.le_of_ble_eq_true rfl, Nat.le_of_ble_eq_true rfl⟩) (pre_v hK hP hD hp1 rfl rfl rfl) rfl rfl hl.1 rfl (lv_room (Nat.le_of_ble_eq_true rfl)) dX6_tables_15 ⟨Nat.zero_le _, Nat.zero_le _⟩) hp1 (List.Perm.refl _) hP hD hS hA (fun H locs hP hD hS => ?_)
    clear hp1 hv
    refine lv_istore (lv' := [(4, .int v2), (0, .ref h0), (1, .int p1), (2, .int p2), (3, .int p3)]) hx hb dX6_tables_18 hl (by decide) rfl (fun ls hl => ?_)
    refine lv_iload hx hb dX6_tables_20 (lv_at hl 0 rfl) ?_
    refine lv_if_ne (tgt := 30) hx hb dX6_tables_22 (by decide) (fun hc => ?_) (fun hc => ?_)
    · replace hf := ite_f hf hc
      refine lv_aload_n hx hb dX6_tables_30 rfl (lv_at hl 1 rfl) ?_
      refine lv_iload hx hb dX6_tables_31 (lv_at hl 0 rfl) ?_
      refine lv_iload_n hx hb dX6_tables_33 rfl (lv_at hl 3 rfl) ?_
      refine lv_iload_n hx hb dX6_tables_34 rfl (lv_at hl 4 rfl) ?_
      obtain ⟨v3, hv, hf⟩ := obd hf
      have hp1 : List.Perm [oX6 h0 r0, oX1 ty (r0 1) a1 z1] ([oX6 h0 r0, oX1 ty (r0 1) a1 z1] ++ []) := (List.Perm.refl _)
      refine ci_call (out := v3) (os := [oX6 h0 r0, oX1 ty (r0 1) a1 z1]) (oc := [oX6 h0 r0, oX1 ty (r0 1) a1 z1]) (oc' := [oX6 h0 r0, oX1 ty (r0 1) a1 z1]) (or_ := []) (os' := [oX6 h0 r0, oX1 ty (r0 1) a1 z1]) (va_runV (As := [.int v2, .int p2, .int p3]) (rest := []) F (c_X6_leastSquare l D ty h0 r0 a1 _ _ _ _ _ hv _) (cwV 3 F.2.2.2.2 gX6_tables_X6_leastSquare rfl rfl rfl ⟨rfl, hd_X6_leastSquare⟩ ⟨Nat.le_of_ble_eq_true rfl, Nat.le_of_ble_eq_true rfl⟩) (pre_v hK hP hD hp1 rfl rfl rfl) rfl rfl hl.1 rfl (lv_room (Nat.le_of_ble_eq_true rfl)) dX6_tables_35 ⟨Nat.zero_le _, Nat.zero_le _⟩) hp1 (List.Perm.refl _) hP hD hS hA (fun H locs hP hD hS => ?_)
      clear hp1 hv
      obtain hf := hf
      have e0 := Option.some.inj hf
      exact CX_i F hr hlk hP hD hS e0 dX6_tables_38
    · replace hf := ite_t hf hc
      refine lv_bipush (v := (-9 : Int32)) hx hb dX6_tables_25 (by decide) ?_
      refine lv_goto (tgt := 38) hx hb dX6_tables_27 (by decide) ?_
      obtain hf := hf
      have e0 := Option.some.inj hf
      exact CX_i F hr hlk hP hD hS e0 dX6_tables_38
  · replace hf := ite_t hf hc
    refine lv_bipush (v := (-2 : Int32)) hx hb dX6_tables_8 (by decide) ?_
    obtain hf := hf
    have e0 := Option.some.inj hf
    exact CX_i F hr hlk hP hD hS e0 dX6_tables_10
def j_X6_tableAt_61 (z1 : Ob) (p1 : Int32) (p2 : Int32) (p3 : Int32) (p4 : Int32) (r_26 : Int32 → Int32 → Option (Int32)) (y5 : Int32) (y6 : Int32) (y7 : Int32) : Option (Int32) := bnd (y7 + (1 : Int32)) (fun x3 => r_26 y6 x3)
def b_X6_tableAt_26 (z1 : Ob) (p1 : Int32) (p2 : Int32) (p3 : Int32) (p4 : Int32) (y5 : Int32) (r_26 : Int32 → Int32 → Option (Int32)) (y6 : Int32) (y7 : Int32) : Option (Int32) := (if (10 : Int32) ≤ y7 then some (-9 : Int32) else (f_X6_isIn y5 y7).bind (fun v4 => (if v4 = 0 then j_X6_tableAt_61 z1 p1 p2 p3 p4 r_26 y5 y6 y7 else (if y6 = p4 then (f_X6_cellInLine p2 p3 y7).bind (fun v6 => some v6) else bnd (y6 + (1 : Int32)) (fun x5 => j_X6_tableAt_61 z1 p1 p2 p3 p4 r_26 y5 x5 y7)))))
def f_X6_tableAt (z1 : Ob) (p1 : Int32) (p2 : Int32) (p3 : Int32) (p4 : Int32) : Option (Int32) := (f_X6_isTables p1 p3).bind (fun v1 => (if v1 = 0 then some (-2 : Int32) else (f_X6_bestTables z1 p1 p2 p3).bind (fun v2 => fuel2 (b_X6_tableAt_26 z1 p1 p2 p3 p4 v2) FU (0 : Int32) (0 : Int32))))
abbrev rm_X6_tableAt : Room := { frames := 4, cells := 0, slots := 0, locals := 99 }
theorem hd_X6_tableAt : yX6_tableAt.cls ≠ "java/lang/invoke/MethodHandle" ∧ yX6_tableAt.cls ≠ "java/lang/invoke/VarHandle" ∧ (parseMethodDescriptor yX6_tableAt.desc).map (fun d => d.parameters.length) = some 4 := by decide +kernel
set_option maxHeartbeats 4000000 in
set_option maxRecDepth 100000 in
theorem c_X6_tableAt (l : Launch) (D : va_G) (ty : TY) (h0 : Nat) (r0 : Nat → Nat) (a1 : Nat → Nat) (z1 : Ob) (p1 : Int32) (p2 : Int32) (p3 : Int32) (p4 : Int32) (o0 : Int32) (hf : f_X6_tableAt z1 p1 p2 p3 p4 = some o0) (sz : Nat) : CX l yX6_tableAt wsX6_tableAt rm_X6_tableAt ([.ref h0, .int p1, .int p2, .int p3, .int p4] : List Value) D ty (fl [oX6 h0 r0, oX1 ty (r0 1) a1 z1]) sz (qI D o0 (fl [oX6 h0 r0, oX1 ty (r0 1) a1 z1])) 0 0 := by
  refine CX_of (cc := cX6_tableAt) (maxL := 8) (ret := (some .int)) (C := RX6) (by decide) rfl rfl (Nat.le_of_ble_eq_true rfl) ?_
  intro p e s m below meth c A ls F hr hlk _ hK hP hD hS hA hl
  have hx := F.1
  have hb := F.2.1
  replace hl : lv_has ls 8 [(0, .ref h0), (1, .int p1), (2, .int p2), (3, .int p3), (4, .int p4)] := hl
  unfold f_X6_tableAt at hf
  refine lv_iload_n hx hb dX6_tableAt_0 rfl (lv_at hl 1 rfl) ?_
  refine lv_iload_n hx hb dX6_tableAt_1 rfl (lv_at hl 3 rfl) ?_
  obtain ⟨v1, hv, hf⟩ := obd hf
  have hp1 : List.Perm [oX6 h0 r0, oX1 ty (r0 1) a1 z1] ([] ++ [oX6 h0 r0, oX1 ty (r0 1) a1 z1]) := (List.Perm.refl _)
  refine ci_call (out := v1) (os := [oX6 h0 r0, oX1 ty (r0 1) a1 z1]) (oc := []) (oc' := []) (or_ := [oX6 h0 r0, oX1 ty (r0 1) a1 z1]) (os' := [oX6 h0 r0, oX1 ty (r0 1) a1 z1]) (va_runS (As := [.int p1, .int p3]) (rest := []) F (c_X6_isTables l D ty _ _ _ hv _) (va_cwS 2 F.2.2.2.2 gX6_tableAt_X6_isTables rfl rfl rfl hd_X6_isTables ⟨Nat.le_of_ble_eq_true rfl, Nat.le_of_ble_eq_true rfl⟩) (pre_s hK hP hD hp1) rfl rfl hl.1 rfl (lv_room (Nat.le_of_ble_eq_true rfl)) dX6_tableAt_2 ⟨Nat.zero_le _, Nat.zero_le _⟩) hp1 (List.Perm.refl _) hP hD hS hA (fun H locs hP hD hS => ?_)
  clear hp1 hv
  refine lv_if_ne (tgt := 11) hx hb dX6_tableAt_5 (by decide) (fun hc => ?_) (fun hc => ?_)
  · replace hf := ite_f hf hc
    refine lv_aload_n hx hb dX6_tableAt_11 rfl (lv_at hl 0 rfl) ?_
    refine lv_iload_n hx hb dX6_tableAt_12 rfl (lv_at hl 1 rfl) ?_
    refine lv_iload_n hx hb dX6_tableAt_13 rfl (lv_at hl 2 rfl) ?_
    refine lv_iload_n hx hb dX6_tableAt_14 rfl (lv_at hl 3 rfl) ?_
    obtain ⟨v2, hv, hf⟩ := obd hf
    have hp1 : List.Perm [oX6 h0 r0, oX1 ty (r0 1) a1 z1] ([oX6 h0 r0, oX1 ty (r0 1) a1 z1] ++ []) := (List.Perm.refl _)
    refine ci_call (out := v2) (os := [oX6 h0 r0, oX1 ty (r0 1) a1 z1]) (oc := [oX6 h0 r0, oX1 ty (r0 1) a1 z1]) (oc' := [oX6 h0 r0, oX1 ty (r0 1) a1 z1]) (or_ := []) (os' := [oX6 h0 r0, oX1 ty (r0 1) a1 z1]) (va_runV (As := [.int p1, .int p2, .int p3]) (rest := []) F (c_X6_bestTables l D ty h0 r0 a1 _ _ _ _ _ hv _) (cwV 3 F.2.2.2.2 gX6_tableAt_X6_bestTables rfl rfl rfl ⟨rfl, hd_X6_bestTables⟩ ⟨Nat.le_of_ble_eq_true rfl, Nat.le_of_ble_eq_true rfl⟩) (pre_v hK hP hD hp1 rfl rfl rfl) rfl rfl hl.1 rfl (lv_room (Nat.le_of_ble_eq_true rfl)) dX6_tableAt_15 ⟨Nat.zero_le _, Nat.zero_le _⟩) hp1 (List.Perm.refl _) hP hD hS hA (fun H locs hP hD hS => ?_)
    clear hp1 hv
    refine lv_istore (lv' := [(5, .int v2), (0, .ref h0), (1, .int p1), (2, .int p2), (3, .int p3), (4, .int p4)]) hx hb dX6_tableAt_18 hl (by decide) rfl (fun ls hl => ?_)
    refine lv_iconst (v := (0 : Int32)) hx hb dX6_tableAt_20 (by decide) ?_
    refine lv_istore (lv' := [(6, .int (0 : Int32)), (5, .int v2), (0, .ref h0), (1, .int p1), (2, .int p2), (3, .int p3), (4, .int p4)]) hx hb dX6_tableAt_21 hl (by decide) rfl (fun ls hl => ?_)
    refine lv_iconst (v := (0 : Int32)) hx hb dX6_tableAt_23 (by decide) ?_
    refine lv_istore (lv' := [(7, .int (0 : Int32)), (6, .int (0 : Int32)), (5, .int v2), (0, .ref h0), (1, .int p1), (2, .int p2), (3, .int p3), (4, .int p4)]) hx hb dX6_tableAt_24 hl (by decide) rfl (fun ls hl => ?_)
    have L_26 : ∀ (y5 : Int32) (n : Nat) (y6 : Int32) (y7 : Int32) (H : Heap) (locs : List Loc) (ls : Array Slot), va_P D vwC (fl [oX6 h0 r0, oX1 ty (r0 1) a1 z1]) H → va_D A (fl [oX6 h0 r0, oX1 ty (r0 1) a1 z1]) → va_S A s.heap H locs → lv_has ls 8 [(2, .int p2), (3, .int p3), (4, .int p4), (5, .int y5), (6, .int y6), (7, .int y7)] → fuel2 (b_X6_tableAt_26 z1 p1 p2 p3 p4 y5) n y6 y7 = some o0 → W p l e rm_X6_tableAt s m ([.ref h0, .int p1, .int p2, .int p3, .int p4] : List Value).toArray below meth c H locs 0 0 (MQ below (qI D o0 (fl [oX6 h0 r0, oX1 ty (r0 1) a1 z1]) A) ([.ref h0, .int p1, .int p2, .int p3, .int p4] : List Value).toArray s 0 0 A) (F0 m 26 ls []) := by
      intro y5 n
      induction n with
      | zero => intro y6 y7 H locs ls hP hD hS hl hf; cases hf
      | succ n ih_26 =>
        intro y6 y7 H locs ls hP hD hS hl hf
        replace hf : b_X6_tableAt_26 z1 p1 p2 p3 p4 y5 (fuel2 (b_X6_tableAt_26 z1 p1 p2 p3 p4 y5) n) y6 y7 = some o0 := hf
        generalize fuel2 (b_X6_tableAt_26 z1 p1 p2 p3 p4 y5) n = r_26 at ih_26 hf
        unfold b_X6_tableAt_26 at hf
        have J_61 : ∀ (y6 : Int32) (y7 : Int32) (H : Heap) (locs : List Loc) (ls : Array Slot), va_P D vwC (fl [oX6 h0 r0, oX1 ty (r0 1) a1 z1]) H → va_D A (fl [oX6 h0 r0, oX1 ty (r0 1) a1 z1]) → va_S A s.heap H locs → lv_has ls 8 [(2, .int p2), (3, .int p3), (4, .int p4), (5, .int y5), (6, .int y6), (7, .int y7)] → j_X6_tableAt_61 z1 p1 p2 p3 p4 r_26 y5 y6 y7 = some o0 → W p l e rm_X6_tableAt s m ([.ref h0, .int p1, .int p2, .int p3, .int p4] : List Value).toArray below meth c H locs 0 0 (MQ below (qI D o0 (fl [oX6 h0 r0, oX1 ty (r0 1) a1 z1]) A) ([.ref h0, .int p1, .int p2, .int p3, .int p4] : List Value).toArray s 0 0 A) (F0 m 61 ls []) := by
          intro y6 y7 H locs ls hP hD hS hl hf
          unfold j_X6_tableAt_61 at hf
          obtain ⟨x3, ex⟩ : ∃ y : Int32, y = (y7 + (1 : Int32)) := ⟨_, rfl⟩
          replace hf := bnd_at hf ex
          refine lv_iinc (v := x3) (lv' := [(7, .int x3), (2, .int p2), (3, .int p3), (4, .int p4), (5, .int y5), (6, .int y6)]) hx hb dX6_tableAt_61 hl (k := 5) rfl (by rw [ex]; rfl) (by decide) rfl (fun ls hl => ?_)
          clear ex
          refine lv_goto (tgt := 26) hx hb dX6_tableAt_64 (by decide) ?_
          exact ih_26 y6 x3 _ _ _ hP hD hS (lv_sub hl [1, 2, 3, 4, 5, 0] rfl) hf
        refine lv_iload hx hb dX6_tableAt_26 (lv_at hl 5 rfl) ?_
        refine lv_bipush (v := (10 : Int32)) hx hb dX6_tableAt_28 (by decide) ?_
        refine lv_icmp_ge (tgt := 67) hx hb dX6_tableAt_30 (by decide) (fun hc => ?_) (fun hc => ?_)
        · replace hf := ite_t hf hc
          refine lv_bipush (v := (-9 : Int32)) hx hb dX6_tableAt_67 (by decide) ?_
          obtain hf := hf
          have e0 := Option.some.inj hf
          exact CX_i F hr hlk hP hD hS e0 dX6_tableAt_69
        · replace hf := ite_f hf hc
          refine lv_iload hx hb dX6_tableAt_33 (lv_at hl 3 rfl) ?_
          refine lv_iload hx hb dX6_tableAt_35 (lv_at hl 5 rfl) ?_
          obtain ⟨v4, hv, hf⟩ := obd hf
          have hp1 : List.Perm [oX6 h0 r0, oX1 ty (r0 1) a1 z1] ([] ++ [oX6 h0 r0, oX1 ty (r0 1) a1 z1]) := (List.Perm.refl _)
          refine ci_call (out := v4) (os := [oX6 h0 r0, oX1 ty (r0 1) a1 z1]) (oc := []) (oc' := []) (or_ := [oX6 h0 r0, oX1 ty (r0 1) a1 z1]) (os' := [oX6 h0 r0, oX1 ty (r0 1) a1 z1]) (va_runS (As := [.int y5, .int y7]) (rest := []) F (c_X6_isIn l D ty _ _ _ hv _) (va_cwS 2 F.2.2.2.2 gX6_tableAt_X6_isIn rfl rfl rfl hd_X6_isIn ⟨Nat.le_of_ble_eq_true rfl, Nat.le_of_ble_eq_true rfl⟩) (pre_s hK hP hD hp1) rfl rfl hl.1 rfl (lv_room (Nat.le_of_ble_eq_true rfl)) dX6_tableAt_37 ⟨Nat.zero_le _, Nat.zero_le _⟩) hp1 (List.Perm.refl _) hP hD hS hA (fun H locs hP hD hS => ?_)
          clear hp1 hv
          refine lv_if_eq (tgt := 61) hx hb dX6_tableAt_40 (by decide) (fun hc => ?_) (fun hc => ?_)
          · replace hf := ite_t hf hc
            exact J_61 y6 y7 _ _ _ hP hD hS (lv_sub hl [0, 1, 2, 3, 4, 5] rfl) hf
          · replace hf := ite_f hf hc
            refine lv_iload hx hb dX6_tableAt_43 (lv_at hl 4 rfl) ?_
            refine lv_iload hx hb dX6_tableAt_45 (lv_at hl 2 rfl) ?_
            refine lv_icmp_ne (tgt := 58) hx hb dX6_tableAt_47 (by decide) (fun hc => ?_) (fun hc => ?_)
            · replace hf := ite_f hf hc
              obtain ⟨x5, ex⟩ : ∃ y : Int32, y = (y6 + (1 : Int32)) := ⟨_, rfl⟩
              replace hf := bnd_at hf ex
              refine lv_iinc (v := x5) (lv' := [(6, .int x5), (2, .int p2), (3, .int p3), (4, .int p4), (5, .int y5), (7, .int y7)]) hx hb dX6_tableAt_58 hl (k := 4) rfl (by rw [ex]; rfl) (by decide) rfl (fun ls hl => ?_)
              clear ex
              exact J_61 x5 y7 _ _ _ hP hD hS (lv_sub hl [1, 2, 3, 4, 0, 5] rfl) hf
            · replace hf := ite_t hf hc
              refine lv_iload_n hx hb dX6_tableAt_50 rfl (lv_at hl 0 rfl) ?_
              refine lv_iload_n hx hb dX6_tableAt_51 rfl (lv_at hl 1 rfl) ?_
              refine lv_iload hx hb dX6_tableAt_52 (lv_at hl 5 rfl) ?_
              obtain ⟨v6, hv, hf⟩ := obd hf
              have hp1 : List.Perm [oX6 h0 r0, oX1 ty (r0 1) a1 z1] ([] ++ [oX6 h0 r0, oX1 ty (r0 1) a1 z1]) := (List.Perm.refl _)
              refine ci_call (out := v6) (os := [oX6 h0 r0, oX1 ty (r0 1) a1 z1]) (oc := []) (oc' := []) (or_ := [oX6 h0 r0, oX1 ty (r0 1) a1 z1]) (os' := [oX6 h0 r0, oX1 ty (r0 1) a1 z1]) (va_runS (As := [.int p2, .int p3, .int y7]) (rest := []) F (c_X6_cellInLine l D ty _ _ _ _ hv _) (va_cwS 3 F.2.2.2.2 gX6_tableAt_X6_cellInLine rfl rfl rfl hd_X6_cellInLine ⟨Nat.le_of_ble_eq_true rfl, Nat.le_of_ble_eq_true rfl⟩) (pre_s hK hP hD hp1) rfl rfl hl.1 rfl (lv_room (Nat.le_of_ble_eq_true rfl)) dX6_tableAt_54 ⟨Nat.zero_le _, Nat.zero_le _⟩) hp1 (List.Perm.refl _) hP hD hS hA (fun H locs hP hD hS => ?_)
              clear hp1 hv
              obtain hf := hf
              have e0 := Option.some.inj hf
              exact CX_i F hr hlk hP hD hS e0 dX6_tableAt_57
    exact L_26 v2 FU (0 : Int32) (0 : Int32) _ _ _ hP hD hS (lv_sub hl [5, 6, 7, 2, 1, 0] rfl) hf
  · replace hf := ite_t hf hc
    refine lv_bipush (v := (-2 : Int32)) hx hb dX6_tableAt_8 (by decide) ?_
    obtain hf := hf
    have e0 := Option.some.inj hf
    exact CX_i F hr hlk hP hD hS e0 dX6_tableAt_10
def j_X6_weightOf_49 (z1 : Ob) (p1 : Int32) (p2 : Int32) (p3 : Int32) (r_6 : Int64 → Int32 → Option (Int64)) (y4 : Int64) (y6 : Int32) : Option (Int64) := bnd (y6 + (1 : Int32)) (fun x1 => r_6 y4 x1)
def j_X6_weightOf_46 (z1 : Ob) (p1 : Int32) (p2 : Int32) (p3 : Int32) (r_6 : Int64 → Int32 → Option (Int64)) (y6 : Int32) (t0 : Int64) (t1 : Int64) : Option (Int64) := bnd (t1 * t0) (fun x2 => j_X6_weightOf_49 z1 p1 p2 p3 r_6 x2 y6)
def b_X6_weightOf_6 (z1 : Ob) (p1 : Int32) (p2 : Int32) (p3 : Int32) (r_6 : Int64 → Int32 → Option (Int64)) (y4 : Int64) (y6 : Int32) : Option (Int64) := (if (z1.1 6) ≤ y6 then some y4 else (if y6 = p2 then j_X6_weightOf_49 z1 p1 p2 p3 r_6 y4 y6 else (if ((p1 >>> (y6 &&& 31)) &&& (1 : Int32)) = (1 : Int32) then j_X6_weightOf_46 z1 p1 p2 p3 r_6 y6 ((10 : Int32) - p3).toInt64 y4 else j_X6_weightOf_46 z1 p1 p2 p3 r_6 y6 p3.toInt64 y4)))
def f_X6_weightOf (z1 : Ob) (p1 : Int32) (p2 : Int32) (p3 : Int32) : Option (Int64) := fuel2 (b_X6_weightOf_6 z1 p1 p2 p3) FU (1 : Int64) (0 : Int32)
abbrev rm_X6_weightOf : Room := { frames := 0, cells := 0, slots := 0, locals := 0 }
theorem hd_X6_weightOf : yX6_weightOf.cls ≠ "java/lang/invoke/MethodHandle" ∧ yX6_weightOf.cls ≠ "java/lang/invoke/VarHandle" ∧ (parseMethodDescriptor yX6_weightOf.desc).map (fun d => d.parameters.length) = some 3 := by decide +kernel
theorem in_X6_weightOf_X6 : ∀ w ∈ wsX60, w ∈ wsX6_weightOf := fun w h => List.mem_cons_of_mem _ (List.mem_append_left _ (List.mem_append_right _ h))
theorem in_X6_weightOf_X1 : ∀ w ∈ wsX10, w ∈ wsX6_weightOf := fun w h => List.mem_cons_of_mem _ (List.mem_append_right _ h)
set_option maxHeartbeats 4000000 in
set_option maxRecDepth 100000 in
theorem c_X6_weightOf (l : Launch) (D : va_G) (ty : TY) (h0 : Nat) (r0 : Nat → Nat) (a1 : Nat → Nat) (z1 : Ob) (p1 : Int32) (p2 : Int32) (p3 : Int32) (o0 : Int64) (hf : f_X6_weightOf z1 p1 p2 p3 = some o0) (sz : Nat) : CX l yX6_weightOf wsX6_weightOf rm_X6_weightOf ([.ref h0, .int p1, .int p2, .int p3] : List Value) D ty (fl [oX6 h0 r0, oX1 ty (r0 1) a1 z1]) sz (qL D o0 (fl [oX6 h0 r0, oX1 ty (r0 1) a1 z1])) 0 0 := by
  refine CX_of (cc := cX6_weightOf) (maxL := 7) (ret := (some .long)) (C := RX6) (by decide) rfl rfl (Nat.le_of_ble_eq_true rfl) ?_
  intro p e s m below meth c A ls F hr hlk _ hK hP hD hS hA hl
  have hx := F.1
  have hb := F.2.1
  replace hl : lv_has ls 7 [(0, .ref h0), (1, .int p1), (2, .int p2), (3, .int p3)] := hl
  unfold f_X6_weightOf at hf
  refine lv_lconst (v := (1 : Int64)) hx hb dX6_weightOf_0 (by decide) ?_
  refine lv_lstore (lv' := [(4, .long (1 : Int64)), (0, .ref h0), (1, .int p1), (2, .int p2), (3, .int p3)]) hx hb dX6_weightOf_1 hl (by decide) rfl (fun ls hl => ?_)
  refine lv_iconst (v := (0 : Int32)) hx hb dX6_weightOf_3 (by decide) ?_
  refine lv_istore (lv' := [(6, .int (0 : Int32)), (4, .long (1 : Int64)), (0, .ref h0), (1, .int p1), (2, .int p2), (3, .int p3)]) hx hb dX6_weightOf_4 hl (by decide) rfl (fun ls hl => ?_)
  have L_6 : ∀ (n : Nat) (y4 : Int64) (y6 : Int32) (H : Heap) (locs : List Loc) (ls : Array Slot), va_P D vwC (fl [oX6 h0 r0, oX1 ty (r0 1) a1 z1]) H → va_D A (fl [oX6 h0 r0, oX1 ty (r0 1) a1 z1]) → va_S A s.heap H locs → lv_has ls 7 [(0, .ref h0), (1, .int p1), (2, .int p2), (3, .int p3), (4, .long y4), (6, .int y6)] → fuel2 (b_X6_weightOf_6 z1 p1 p2 p3) n y4 y6 = some o0 → W p l e rm_X6_weightOf s m ([.ref h0, .int p1, .int p2, .int p3] : List Value).toArray below meth c H locs 0 0 (MQ below (qL D o0 (fl [oX6 h0 r0, oX1 ty (r0 1) a1 z1]) A) ([.ref h0, .int p1, .int p2, .int p3] : List Value).toArray s 0 0 A) (F0 m 6 ls []) := by
    intro n
    induction n with
    | zero => intro y4 y6 H locs ls hP hD hS hl hf; cases hf
    | succ n ih_6 =>
      intro y4 y6 H locs ls hP hD hS hl hf
      replace hf : b_X6_weightOf_6 z1 p1 p2 p3 (fuel2 (b_X6_weightOf_6 z1 p1 p2 p3) n) y4 y6 = some o0 := hf
      generalize fuel2 (b_X6_weightOf_6 z1 p1 p2 p3) n = r_6 at ih_6 hf
      unfold b_X6_weightOf_6 at hf
      have J_49 : ∀ (y4 : Int64) (y6 : Int32) (H : Heap) (locs : List Loc) (ls : Array Slot), va_P D vwC (fl [oX6 h0 r0, oX1 ty (r0 1) a1 z1]) H → va_D A (fl [oX6 h0 r0, oX1 ty (r0 1) a1 z1]) → va_S A s.heap H locs → lv_has ls 7 [(0, .ref h0), (1, .int p1), (2, .int p2), (3, .int p3), (4, .long y4), (6, .int y6)] → j_X6_weightOf_49 z1 p1 p2 p3 r_6 y4 y6 = some o0 → W p l e rm_X6_weightOf s m ([.ref h0, .int p1, .int p2, .int p3] : List Value).toArray below meth c H locs 0 0 (MQ below (qL D o0 (fl [oX6 h0 r0, oX1 ty (r0 1) a1 z1]) A) ([.ref h0, .int p1, .int p2, .int p3] : List Value).toArray s 0 0 A) (F0 m 49 ls []) := by
        intro y4 y6 H locs ls hP hD hS hl hf
        unfold j_X6_weightOf_49 at hf
        obtain ⟨x1, ex⟩ : ∃ y : Int32, y = (y6 + (1 : Int32)) := ⟨_, rfl⟩
        replace hf := bnd_at hf ex
        refine lv_iinc (v := x1) (lv' := [(6, .int x1), (0, .ref h0), (1, .int p1), (2, .int p2), (3, .int p3), (4, .long y4)]) hx hb dX6_weightOf_49 hl (k := 5) rfl (by rw [ex]; rfl) (by decide) rfl (fun ls hl => ?_)
        clear ex
        refine lv_goto (tgt := 6) hx hb dX6_weightOf_52 (by decide) ?_
        exact ih_6 y4 x1 _ _ _ hP hD hS (lv_sub hl [1, 2, 3, 4, 5, 0] rfl) hf
      have J_46 : ∀ (y6 : Int32) (t0 : Int64) (t1 : Int64) (H : Heap) (locs : List Loc) (ls : Array Slot), va_P D vwC (fl [oX6 h0 r0, oX1 ty (r0 1) a1 z1]) H → va_D A (fl [oX6 h0 r0, oX1 ty (r0 1) a1 z1]) → va_S A s.heap H locs → lv_has ls 7 [(0, .ref h0), (1, .int p1), (2, .int p2), (3, .int p3), (6, .int y6)] → j_X6_weightOf_46 z1 p1 p2 p3 r_6 y6 t0 t1 = some o0 → W p l e rm_X6_weightOf s m ([.ref h0, .int p1, .int p2, .int p3] : List Value).toArray below meth c H locs 0 0 (MQ below (qL D o0 (fl [oX6 h0 r0, oX1 ty (r0 1) a1 z1]) A) ([.ref h0, .int p1, .int p2, .int p3] : List Value).toArray s 0 0 A) (F0 m 46 ls [.long t0, .long t1]) := by
        intro y6 t0 t1 H locs ls hP hD hS hl hf
        unfold j_X6_weightOf_46 at hf
        refine lv_lmul hx hb dX6_weightOf_46 ?_
        refine lv_topl (fun x2 ex => ?_)
        replace hf := bnd_at hf ex; clear ex
        refine lv_lstore (lv' := [(4, .long x2), (0, .ref h0), (1, .int p1), (2, .int p2), (3, .int p3), (6, .int y6)]) hx hb dX6_weightOf_47 hl (by decide) rfl (fun ls hl => ?_)
        exact J_49 x2 y6 _ _ _ hP hD hS (lv_sub hl [1, 2, 3, 4, 0, 5] rfl) hf
      refine lv_iload hx hb dX6_weightOf_6 (lv_at hl 5 rfl) ?_
      refine lv_aload_n hx hb dX6_weightOf_8 rfl (lv_at hl 0 rfl) ?_
      refine va_get (D := D) (ci := 6) (C := RX6) (T := TX6) (N := 8) hx hb F.2.2.2.2 in_X6_weightOf_X6 F.2.2.2.1 hK.1 hP 0 rfl rfl 1 (Nat.le_of_ble_eq_true rfl) (F.2.2.2.2 (.fieldLink RX6 19 "LouderRoom" "now" "LLouderRoom$Crowd;") (List.mem_of_getElem? (i := 1) rfl)) (fun _ h9 => h9) rfl dX6_weightOf_9 ?_
      refine va_getN (D := D) (ci := 1) (C := RX1) (T := TX1) (N := 12) hx hb F.2.2.2.2 in_X6_weightOf_X1 F.2.2.2.1 hK.1 hP 1 rfl rfl 6 (Nat.le_of_ble_eq_true rfl) (KN.use hK 9 (w := .fieldLinkNest RX6 79 "LouderRoom$Crowd" "rings" "I" "LouderRoom") rfl _) (fun _ h9 => h9) rfl dX6_weightOf_12 ?_
      refine lv_icmp_ge (tgt := 55) hx hb dX6_weightOf_15 (by decide) (fun hc => ?_) (fun hc => ?_)
      · replace hf := ite_t hf hc
        refine lv_lload hx hb dX6_weightOf_55 (lv_at hl 4 rfl) ?_
        obtain hf := hf
        have e0 := Option.some.inj hf
        exact CX_l F hr hlk hP hD hS e0 dX6_weightOf_57
      · replace hf := ite_f hf hc
        refine lv_iload hx hb dX6_weightOf_18 (lv_at hl 5 rfl) ?_
        refine lv_iload_n hx hb dX6_weightOf_20 rfl (lv_at hl 2 rfl) ?_
        refine lv_icmp_eq (tgt := 49) hx hb dX6_weightOf_21 (by decide) (fun hc => ?_) (fun hc => ?_)
        · replace hf := ite_t hf hc
          exact J_49 y4 y6 _ _ _ hP hD hS (lv_sub hl [0, 1, 2, 3, 4, 5] rfl) hf
        · replace hf := ite_f hf hc
          refine lv_lload hx hb dX6_weightOf_24 (lv_at hl 4 rfl) ?_
          refine lv_iload_n hx hb dX6_weightOf_26 rfl (lv_at hl 1 rfl) ?_
          refine lv_iload hx hb dX6_weightOf_27 (lv_at hl 5 rfl) ?_
          refine lv_ishr hx hb dX6_weightOf_29 ?_
          refine lv_iconst (v := (1 : Int32)) hx hb dX6_weightOf_30 (by decide) ?_
          refine lv_iand hx hb dX6_weightOf_31 ?_
          refine lv_iconst (v := (1 : Int32)) hx hb dX6_weightOf_32 (by decide) ?_
          refine lv_icmp_ne (tgt := 44) hx hb dX6_weightOf_33 (by decide) (fun hc => ?_) (fun hc => ?_)
          · replace hf := ite_f hf hc
            refine lv_iload_n hx hb dX6_weightOf_44 rfl (lv_at hl 3 rfl) ?_
            refine lv_i2l hx hb dX6_weightOf_45 rfl ?_
            exact J_46 y6 p3.toInt64 y4 _ _ _ hP hD hS (lv_sub hl [0, 1, 2, 3, 5] rfl) hf
          · replace hf := ite_t hf hc
            refine lv_bipush (v := (10 : Int32)) hx hb dX6_weightOf_36 (by decide) ?_
            refine lv_iload_n hx hb dX6_weightOf_38 rfl (lv_at hl 3 rfl) ?_
            refine lv_isub hx hb dX6_weightOf_39 ?_
            refine lv_i2l hx hb dX6_weightOf_40 rfl ?_
            refine lv_goto (tgt := 46) hx hb dX6_weightOf_41 (by decide) ?_
            exact J_46 y6 ((10 : Int32) - p3).toInt64 y4 _ _ _ hP hD hS (lv_sub hl [0, 1, 2, 3, 5] rfl) hf
  exact L_6 FU (1 : Int64) (0 : Int32) _ _ _ hP hD hS (lv_sub hl [2, 3, 4, 5, 1, 0] rfl) hf
def b_X6_commonDivisor_9 (p0 : Int64) (p2 : Int64) (r_9 : Int64 → Int64 → Int32 → Option (Int64)) (y4 : Int64) (y6 : Int64) (y8 : Int32) : Option (Int64) := (if (100 : Int32) ≤ y8 then some y4 else (if (lg_cmp y6 (0 : Int64)) = 0 then some y4 else (if y6 = 0 then none else bnd (y4 - y4 / y6 * y6) (fun x1 => bnd (y8 + (1 : Int32)) (fun x2 => r_9 y6 x1 x2)))))
def f_X6_commonDivisor (p0 : Int64) (p2 : Int64) : Option (Int64) := fuel3 (b_X6_commonDivisor_9 p0 p2) FU p0 p2 (0 : Int32)
abbrev rm_X6_commonDivisor : Room := { frames := 0, cells := 0, slots := 0, locals := 0 }
theorem hd_X6_commonDivisor : yX6_commonDivisor.cls ≠ "java/lang/invoke/MethodHandle" ∧ yX6_commonDivisor.cls ≠ "java/lang/invoke/VarHandle" ∧ (parseMethodDescriptor yX6_commonDivisor.desc).map (fun d => d.parameters.length) = some 2 := by decide +kernel
set_option maxHeartbeats 4000000 in
set_option maxRecDepth 100000 in
theorem c_X6_commonDivisor (l : Launch) (D : va_G) (ty : TY) (p0 : Int64) (p2 : Int64) (o0 : Int64) (hf : f_X6_commonDivisor p0 p2 = some o0) (sz : Nat) : CX l yX6_commonDivisor wsX6_commonDivisor rm_X6_commonDivisor ([.long p0, .long p2] : List Value) D ty (fl []) sz (qL D o0 (fl [])) 0 0 := by
  refine CX_of (cc := cX6_commonDivisor) (maxL := 11) (ret := (some .long)) (C := RX6) (by decide) rfl rfl (Nat.le_of_ble_eq_true rfl) ?_
  intro p e s m below meth c A ls F hr hlk _ hK hP hD hS hA hl
  have hx := F.1
  have hb := F.2.1
  replace hl : lv_has ls 11 [(0, .long p0), (2, .long p2)] := hl
  unfold f_X6_commonDivisor at hf
  refine lv_lload_n hx hb dX6_commonDivisor_0 rfl (lv_at hl 0 rfl) ?_
  refine lv_lstore (lv' := [(4, .long p0), (0, .long p0), (2, .long p2)]) hx hb dX6_commonDivisor_1 hl (by decide) rfl (fun ls hl => ?_)
  refine lv_lload_n hx hb dX6_commonDivisor_3 rfl (lv_at hl 2 rfl) ?_
  refine lv_lstore (lv' := [(6, .long p2), (4, .long p0), (0, .long p0), (2, .long p2)]) hx hb dX6_commonDivisor_4 hl (by decide) rfl (fun ls hl => ?_)
  refine lv_iconst (v := (0 : Int32)) hx hb dX6_commonDivisor_6 (by decide) ?_
  refine lv_istore (lv' := [(8, .int (0 : Int32)), (6, .long p2), (4, .long p0), (0, .long p0), (2, .long p2)]) hx hb dX6_commonDivisor_7 hl (by decide) rfl (fun ls hl => ?_)
  have L_9 : ∀ (n : Nat) (y4 : Int64) (y6 : Int64) (y8 : Int32) (H : Heap) (locs : List Loc) (ls : Array Slot), va_P D vwC (fl []) H → va_D A (fl []) → va_S A s.heap H locs → lv_has ls 11 [(4, .long y4), (6, .long y6), (8, .int y8)] → fuel3 (b_X6_commonDivisor_9 p0 p2) n y4 y6 y8 = some o0 → W p l e rm_X6_commonDivisor s m ([.long p0, .long p2] : List Value).toArray below meth c H locs 0 0 (MQ below (qL D o0 (fl []) A) ([.long p0, .long p2] : List Value).toArray s 0 0 A) (F0 m 9 ls []) := by
    intro n
    induction n with
    | zero => intro y4 y6 y8 H locs ls hP hD hS hl hf; cases hf
    | succ n ih_9 =>
      intro y4 y6 y8 H locs ls hP hD hS hl hf
      replace hf : b_X6_commonDivisor_9 p0 p2 (fuel3 (b_X6_commonDivisor_9 p0 p2) n) y4 y6 y8 = some o0 := hf
      generalize fuel3 (b_X6_commonDivisor_9 p0 p2) n = r_9 at ih_9 hf
      unfold b_X6_commonDivisor_9 at hf
      refine lv_iload hx hb dX6_commonDivisor_9 (lv_at hl 2 rfl) ?_
      refine lv_bipush (v := (100 : Int32)) hx hb dX6_commonDivisor_11 (by decide) ?_
      refine lv_icmp_ge (tgt := 44) hx hb dX6_commonDivisor_13 (by decide) (fun hc => ?_) (fun hc => ?_)
      · replace hf := ite_t hf hc
        refine lv_lload hx hb dX6_commonDivisor_44 (lv_at hl 0 rfl) ?_
        obtain hf := hf
        have e0 := Option.some.inj hf
        exact CX_l F hr hlk hP hD hS e0 dX6_commonDivisor_46
      · replace hf := ite_f hf hc
        refine lv_lload hx hb dX6_commonDivisor_16 (lv_at hl 1 rfl) ?_
        refine lv_lconst (v := (0 : Int64)) hx hb dX6_commonDivisor_18 (by decide) ?_
        refine W.lcmp hx hb dX6_commonDivisor_19 ?_
        refine lv_if_eq (tgt := 44) hx hb dX6_commonDivisor_20 (by decide) (fun hc => ?_) (fun hc => ?_)
        · replace hf := ite_t hf hc
          refine lv_lload hx hb dX6_commonDivisor_44 (lv_at hl 0 rfl) ?_
          obtain hf := hf
          have e0 := Option.some.inj hf
          exact CX_l F hr hlk hP hD hS e0 dX6_commonDivisor_46
        · replace hf := ite_f hf hc
          refine lv_lload hx hb dX6_commonDivisor_23 (lv_at hl 0 rfl) ?_
          refine lv_lload hx hb dX6_commonDivisor_25 (lv_at hl 1 rfl) ?_
          obtain ⟨hne, hf⟩ := grz hf
          refine lv_lrem hx hb dX6_commonDivisor_27 hne ?_
          refine lv_topl (fun x1 ex => ?_)
          replace hf := bnd_at hf ex; clear ex
          refine lv_lstore (lv' := [(9, .long x1), (4, .long y4), (6, .long y6), (8, .int y8)]) hx hb dX6_commonDivisor_28 hl (by decide) rfl (fun ls hl => ?_)
          refine lv_lload hx hb dX6_commonDivisor_30 (lv_at hl 2 rfl) ?_
          refine lv_lstore (lv' := [(4, .long y6), (9, .long x1), (6, .long y6), (8, .int y8)]) hx hb dX6_commonDivisor_32 hl (by decide) rfl (fun ls hl => ?_)
          refine lv_lload hx hb dX6_commonDivisor_34 (lv_at hl 1 rfl) ?_
          refine lv_lstore (lv' := [(6, .long x1), (4, .long y6), (9, .long x1), (8, .int y8)]) hx hb dX6_commonDivisor_36 hl (by decide) rfl (fun ls hl => ?_)
          obtain ⟨x2, ex⟩ : ∃ y : Int32, y = (y8 + (1 : Int32)) := ⟨_, rfl⟩
          replace hf := bnd_at hf ex
          refine lv_iinc (v := x2) (lv' := [(8, .int x2), (6, .long x1), (4, .long y6), (9, .long x1)]) hx hb dX6_commonDivisor_38 hl (k := 3) rfl (by rw [ex]; rfl) (by decide) rfl (fun ls hl => ?_)
          clear ex
          refine lv_goto (tgt := 9) hx hb dX6_commonDivisor_41 (by decide) ?_
          exact ih_9 y6 x1 x2 _ _ _ hP hD hS (lv_sub hl [2, 1, 0] rfl) hf
  exact L_9 FU p0 p2 (0 : Int32) _ _ _ hP hD hS (lv_sub hl [2, 1, 0] rfl) hf
def j_X6_chance_120 (z1 : Ob) (p1 : Int32) (p2 : Int32) (p3 : Int32) (r_49 : Int64 → Int64 → Int32 → Ob → Option (Int64 × Ob)) (y4 : Int64) (y6 : Int64) (y8 : Int32) (w2 : Ob) : Option (Int64 × Ob) := bnd (y8 + (1 : Int32)) (fun x3 => r_49 y4 y6 x3 w2)
def j_X6_chance_117 (z1 : Ob) (p1 : Int32) (p2 : Int32) (p3 : Int32) (r_49 : Int64 → Int64 → Int32 → Ob → Option (Int64 × Ob)) (y6 : Int64) (y8 : Int32) (t0 : Int64) (t1 : Int64) (w2 : Ob) : Option (Int64 × Ob) := bnd (t1 + t0) (fun x4 => j_X6_chance_120 z1 p1 p2 p3 r_49 x4 y6 y8 w2)
def b_X6_chance_49 (z1 : Ob) (p1 : Int32) (p2 : Int32) (p3 : Int32) (r_49 : Int64 → Int64 → Int32 → Ob → Option (Int64 × Ob)) (y4 : Int64) (y6 : Int64) (y8 : Int32) (w2 : Ob) : Option (Int64 × Ob) := (if ((1 : Int32) <<< ((z1.1 6) &&& 31)) ≤ y8 then (f_X6_commonDivisor y6 y4).bind (fun v5 => bnd (if v5 < (1 : Int64) then (1 : Int64) else v5) (fun x6 => (if p3 = 0 then (if x6 = 0 then none else some ((y6 / x6), w2)) else (if x6 = 0 then none else some ((y4 / x6), w2))))) else (if ((y8 >>> (p1 &&& 31)) &&& (1 : Int32)) = 0 then bnd (sI w2 11 y8) (fun g7 => (f_X6_weightOf z1 y8 p1 p2).bind (fun v8 => bnd (y6 + v8) (fun x9 => (f_X1_hears g7 p1).bind (fun v10 => (if v10 = 0 then j_X6_chance_117 z1 p1 p2 p3 r_49 x9 y8 (0 : Int64) y4 g7 else j_X6_chance_117 z1 p1 p2 p3 r_49 x9 y8 v8 y4 g7))))) else j_X6_chance_120 z1 p1 p2 p3 r_49 y4 y6 y8 w2))
def f_X6_chance (z1 : Ob) (z2 : Ob) (p1 : Int32) (p2 : Int32) (p3 : Int32) : Option (Int64 × Ob) := (f_X1_has z1 p1).bind (fun v1 => (if v1 = 0 then some ((-1 : Int64), z2) else (if p2 < 0 then some ((-2 : Int64), z2) else (if p2 ≤ (10 : Int32) then (f_X1_copyFrom z2 z1).bind (fun g2 => fuel4 (b_X6_chance_49 z1 p1 p2 p3) FU (0 : Int64) (0 : Int64) (0 : Int32) g2) else some ((-2 : Int64), z2)))))
abbrev rm_X6_chance : Room := { frames := 5, cells := 0, slots := 0, locals := 111 }
theorem hd_X6_chance : yX6_chance.cls ≠ "java/lang/invoke/MethodHandle" ∧ yX6_chance.cls ≠ "java/lang/invoke/VarHandle" ∧ (parseMethodDescriptor yX6_chance.desc).map (fun d => d.parameters.length) = some 3 := by decide +kernel
theorem in_X6_chance_X6 : ∀ w ∈ wsX60, w ∈ wsX6_chance := fun w h => List.mem_cons_of_mem _ (List.mem_append_left _ (List.mem_append_right _ h))
theorem in_X6_chance_X1 : ∀ w ∈ wsX10, w ∈ wsX6_chance := fun w h => List.mem_cons_of_mem _ (List.mem_append_right _ h)
set_option maxHeartbeats 4000000 in
set_option maxRecDepth 100000 in
theorem c_X6_chance (l : Launch) (D : va_G) (ty : TY) (h0 : Nat) (r0 : Nat → Nat) (a1 : Nat → Nat) (a2 : Nat → Nat) (z1 : Ob) (z2 : Ob) (p1 : Int32) (p2 : Int32) (p3 : Int32) (o0 : Int64) (o1 : Ob) (hf : f_X6_chance z1 z2 p1 p2 p3 = some (o0, o1)) (sz : Nat) : CX l yX6_chance wsX6_chance rm_X6_chance ([.ref h0, .int p1, .int p2, .int p3] : List Value) D ty (fl [oX6 h0 r0, oX1 ty (r0 1) a1 z1, oX1 ty (r0 2) a2 z2]) sz (qL D o0 (fl [oX6 h0 r0, oX1 ty (r0 1) a1 z1, oX1 ty (r0 2) a2 o1])) 0 0 := by
  refine CX_of (cc := cX6_chance) (maxL := 11) (ret := (some .long)) (C := RX6) (by decide) rfl rfl (Nat.le_of_ble_eq_true rfl) ?_
  intro p e s m below meth c A ls F hr hlk _ hK hP hD hS hA hl
  have hx := F.1
  have hb := F.2.1
  replace hl : lv_has ls 11 [(0, .ref h0), (1, .int p1), (2, .int p2), (3, .int p3)] := hl
  unfold f_X6_chance at hf
  refine lv_aload_n hx hb dX6_chance_0 rfl (lv_at hl 0 rfl) ?_
  refine va_get (D := D) (ci := 6) (C := RX6) (T := TX6) (N := 8) hx hb F.2.2.2.2 in_X6_chance_X6 F.2.2.2.1 hK.1 hP 0 rfl rfl 1 (Nat.le_of_ble_eq_true rfl) (F.2.2.2.2 (.fieldLink RX6 19 "LouderRoom" "now" "LLouderRoom$Crowd;") (List.mem_of_getElem? (i := 1) rfl)) (fun _ h9 => h9) rfl dX6_chance_1 ?_
  refine lv_iload_n hx hb dX6_chance_4 rfl (lv_at hl 1 rfl) ?_
  obtain ⟨v1, hv, hf⟩ := obd hf
  have hp1 : List.Perm [oX6 h0 r0, oX1 ty (r0 1) a1 z1, oX1 ty (r0 2) a2 z2] ([oX1 ty (r0 1) a1 z1] ++ [oX6 h0 r0, oX1 ty (r0 2) a2 z2]) := ((List.perm_middle (a := (oX1 ty (r0 1) a1 z1 : va_W)) (l₁ := ([oX6 h0 r0] : List va_W)) (l₂ := ([oX1 ty (r0 2) a2 z2] : List va_W))) : List.Perm ([oX6 h0 r0, oX1 ty (r0 1) a1 z1, oX1 ty (r0 2) a2 z2] : List va_W) ([oX1 ty (r0 1) a1 z1, oX6 h0 r0, oX1 ty (r0 2) a2 z2] : List va_W))
  refine ci_call (out := v1) (os := [oX6 h0 r0, oX1 ty (r0 1) a1 z1, oX1 ty (r0 2) a2 z2]) (oc := [oX1 ty (r0 1) a1 z1]) (oc' := [oX1 ty (r0 1) a1 z1]) (or_ := [oX6 h0 r0, oX1 ty (r0 2) a2 z2]) (os' := [oX6 h0 r0, oX1 ty (r0 1) a1 z1, oX1 ty (r0 2) a2 z2]) (va_runV (As := [.int p1]) (rest := []) F (c_X1_has l D ty (r0 1) a1 _ _ _ hv _) (cwV 1 F.2.2.2.2 gX6_chance_X1_has rfl rfl rfl ⟨rfl, hd_X1_has⟩ ⟨Nat.le_of_ble_eq_true rfl, Nat.le_of_ble_eq_true rfl⟩) (pre_v hK hP hD hp1 rfl rfl rfl) rfl rfl hl.1 rfl (lv_room (Nat.le_of_ble_eq_true rfl)) dX6_chance_5 ⟨Nat.zero_le _, Nat.zero_le _⟩) hp1 ((List.perm_middle (a := (oX6 h0 r0 : va_W)) (l₁ := ([oX1 ty (r0 1) a1 z1] : List va_W)) (l₂ := ([oX1 ty (r0 2) a2 z2] : List va_W))) : List.Perm ([oX1 ty (r0 1) a1 z1, oX6 h0 r0, oX1 ty (r0 2) a2 z2] : List va_W) ([oX6 h0 r0, oX1 ty (r0 1) a1 z1, oX1 ty (r0 2) a2 z2] : List va_W)) hP hD hS hA (fun H locs hP hD hS => ?_)
  clear hp1 hv
  refine lv_if_ne (tgt := 15) hx hb dX6_chance_8 (by decide) (fun hc => ?_) (fun hc => ?_)
  · replace hf := ite_f hf hc
    refine lv_iload_n hx hb dX6_chance_15 rfl (lv_at hl 2 rfl) ?_
    refine lv_if_lt (tgt := 25) hx hb dX6_chance_16 (by decide) (fun hc => ?_) (fun hc => ?_)
    · replace hf := ite_t hf hc
      refine lv_ldc2 hx hb F.2.2.2.1 (F.2.2.2.2 (.constantLong RX6 234 (-2)) (List.mem_of_getElem? (i := 3) rfl)) dX6_chance_25 ?_
      obtain hf := hf
      obtain ⟨e0, e1⟩ := tup2 hf
      rw [e1] at hP hD
      exact CX_l F hr hlk hP hD hS e0 dX6_chance_28
    · replace hf := ite_f hf hc
      refine lv_iload_n hx hb dX6_chance_19 rfl (lv_at hl 2 rfl) ?_
      refine lv_bipush (v := (10 : Int32)) hx hb dX6_chance_20 (by decide) ?_
      refine lv_icmp_le (tgt := 29) hx hb dX6_chance_22 (by decide) (fun hc => ?_) (fun hc => ?_)
      · replace hf := ite_t hf hc
        refine lv_lconst (v := (0 : Int64)) hx hb dX6_chance_29 (by decide) ?_
        refine lv_lstore (lv' := [(4, .long (0 : Int64)), (0, .ref h0), (1, .int p1), (2, .int p2), (3, .int p3)]) hx hb dX6_chance_30 hl (by decide) rfl (fun ls hl => ?_)
        refine lv_lconst (v := (0 : Int64)) hx hb dX6_chance_32 (by decide) ?_
        refine lv_lstore (lv' := [(6, .long (0 : Int64)), (4, .long (0 : Int64)), (0, .ref h0), (1, .int p1), (2, .int p2), (3, .int p3)]) hx hb dX6_chance_33 hl (by decide) rfl (fun ls hl => ?_)
        refine lv_aload_n hx hb dX6_chance_35 rfl (lv_at hl 2 rfl) ?_
        refine va_get (D := D) (ci := 6) (C := RX6) (T := TX6) (N := 8) hx hb F.2.2.2.2 in_X6_chance_X6 F.2.2.2.1 hK.1 hP 0 rfl rfl 2 (Nat.le_of_ble_eq_true rfl) (F.2.2.2.2 (.fieldLink RX6 23 "LouderRoom" "trial" "LLouderRoom$Crowd;") (List.mem_of_getElem? (i := 4) rfl)) (fun _ h9 => h9) rfl dX6_chance_36 ?_
        refine lv_aload_n hx hb dX6_chance_39 rfl (lv_at hl 2 rfl) ?_
        refine va_get (D := D) (ci := 6) (C := RX6) (T := TX6) (N := 8) hx hb F.2.2.2.2 in_X6_chance_X6 F.2.2.2.1 hK.1 hP 0 rfl rfl 1 (Nat.le_of_ble_eq_true rfl) (F.2.2.2.2 (.fieldLink RX6 19 "LouderRoom" "now" "LLouderRoom$Crowd;") (List.mem_of_getElem? (i := 1) rfl)) (fun _ h9 => h9) rfl dX6_chance_40 ?_
        obtain ⟨g2, hv, hf⟩ := obd hf
        have hp1 : List.Perm [oX6 h0 r0, oX1 ty (r0 1) a1 z1, oX1 ty (r0 2) a2 z2] ([oX1 ty (r0 2) a2 z2, oX1 ty (r0 1) a1 z1] ++ [oX6 h0 r0]) := (((List.perm_middle (a := (oX1 ty (r0 2) a2 z2 : va_W)) (l₁ := ([oX6 h0 r0, oX1 ty (r0 1) a1 z1] : List va_W)) (l₂ := ([] : List va_W))).trans (List.Perm.cons _ (List.perm_middle (a := (oX1 ty (r0 1) a1 z1 : va_W)) (l₁ := ([oX6 h0 r0] : List va_W)) (l₂ := ([] : List va_W))))) : List.Perm ([oX6 h0 r0, oX1 ty (r0 1) a1 z1, oX1 ty (r0 2) a2 z2] : List va_W) ([oX1 ty (r0 2) a2 z2, oX1 ty (r0 1) a1 z1, oX6 h0 r0] : List va_W))
        refine cv_call (os := [oX6 h0 r0, oX1 ty (r0 1) a1 z1, oX1 ty (r0 2) a2 z2]) (oc := [oX1 ty (r0 2) a2 z2, oX1 ty (r0 1) a1 z1]) (oc' := [oX1 ty (r0 2) a2 g2, oX1 ty (r0 1) a1 z1]) (or_ := [oX6 h0 r0]) (os' := [oX6 h0 r0, oX1 ty (r0 1) a1 z1, oX1 ty (r0 2) a2 g2]) (va_runV (As := [.ref (r0 1)]) (rest := []) F (c_X1_copyFrom l D ty (r0 2) a2 (r0 1) a1 _ _ _ hv _) (cwV 1 F.2.2.2.2 gX6_chance_X1_copyFrom rfl rfl rfl ⟨rfl, hd_X1_copyFrom⟩ ⟨Nat.le_of_ble_eq_true rfl, Nat.le_of_ble_eq_true rfl⟩) (pre_v hK hP hD hp1 rfl rfl rfl) rfl rfl hl.1 rfl (lv_room (Nat.le_of_ble_eq_true rfl)) dX6_chance_43 ⟨Nat.zero_le _, Nat.zero_le _⟩) hp1 (((List.perm_middle (a := (oX6 h0 r0 : va_W)) (l₁ := ([oX1 ty (r0 2) a2 g2, oX1 ty (r0 1) a1 z1] : List va_W)) (l₂ := ([] : List va_W))).trans (List.Perm.cons _ (List.perm_middle (a := (oX1 ty (r0 1) a1 z1 : va_W)) (l₁ := ([oX1 ty (r0 2) a2 g2] : List va_W)) (l₂ := ([] : List va_W))))) : List.Perm ([oX1 ty (r0 2) a2 g2, oX1 ty (r0 1) a1 z1, oX6 h0 r0] : List va_W) ([oX6 h0 r0, oX1 ty (r0 1) a1 z1, oX1 ty (r0 2) a2 g2] : List va_W)) hP hD hS hA (fun H locs hP hD hS => ?_)
        clear hp1 hv
        refine lv_iconst (v := (0 : Int32)) hx hb dX6_chance_46 (by decide) ?_
        refine lv_istore (lv' := [(8, .int (0 : Int32)), (6, .long (0 : Int64)), (4, .long (0 : Int64)), (0, .ref h0), (1, .int p1), (2, .int p2), (3, .int p3)]) hx hb dX6_chance_47 hl (by decide) rfl (fun ls hl => ?_)
        have L_49 : ∀ (n : Nat) (y4 : Int64) (y6 : Int64) (y8 : Int32) (w2 : Ob) (H : Heap) (locs : List Loc) (ls : Array Slot), va_P D vwC (fl [oX6 h0 r0, oX1 ty (r0 1) a1 z1, oX1 ty (r0 2) a2 w2]) H → va_D A (fl [oX6 h0 r0, oX1 ty (r0 1) a1 z1, oX1 ty (r0 2) a2 w2]) → va_S A s.heap H locs → lv_has ls 11 [(0, .ref h0), (1, .int p1), (2, .int p2), (3, .int p3), (4, .long y4), (6, .long y6), (8, .int y8)] → fuel4 (b_X6_chance_49 z1 p1 p2 p3) n y4 y6 y8 w2 = some (o0, o1) → W p l e rm_X6_chance s m ([.ref h0, .int p1, .int p2, .int p3] : List Value).toArray below meth c H locs 0 0 (MQ below (qL D o0 (fl [oX6 h0 r0, oX1 ty (r0 1) a1 z1, oX1 ty (r0 2) a2 o1]) A) ([.ref h0, .int p1, .int p2, .int p3] : List Value).toArray s 0 0 A) (F0 m 49 ls []) := by
          intro n
          induction n with
          | zero => intro y4 y6 y8 w2 H locs ls hP hD hS hl hf; cases hf
          | succ n ih_49 =>
            intro y4 y6 y8 w2 H locs ls hP hD hS hl hf
            replace hf : b_X6_chance_49 z1 p1 p2 p3 (fuel4 (b_X6_chance_49 z1 p1 p2 p3) n) y4 y6 y8 w2 = some (o0, o1) := hf
            generalize fuel4 (b_X6_chance_49 z1 p1 p2 p3) n = r_49 at ih_49 hf
            unfold b_X6_chance_49 at hf
            have J_120 : ∀ (y4 : Int64) (y6 : Int64) (y8 : Int32) (w2 : Ob) (H : Heap) (locs : List Loc) (ls : Array Slot), va_P D vwC (fl [oX6 h0 r0, oX1 ty (r0 1) a1 z1, oX1 ty (r0 2) a2 w2]) H → va_D A (fl [oX6 h0 r0, oX1 ty (r0 1) a1 z1, oX1 ty (r0 2) a2 w2]) → va_S A s.heap H locs → lv_has ls 11 [(0, .ref h0), (1, .int p1), (2, .int p2), (3, .int p3), (4, .long y4), (6, .long y6), (8, .int y8)] → j_X6_chance_120 z1 p1 p2 p3 r_49 y4 y6 y8 w2 = some (o0, o1) → W p l e rm_X6_chance s m ([.ref h0, .int p1, .int p2, .int p3] : List Value).toArray below meth c H locs 0 0 (MQ below (qL D o0 (fl [oX6 h0 r0, oX1 ty (r0 1) a1 z1, oX1 ty (r0 2) a2 o1]) A) ([.ref h0, .int p1, .int p2, .int p3] : List Value).toArray s 0 0 A) (F0 m 120 ls []) := by
              intro y4 y6 y8 w2 H locs ls hP hD hS hl hf
              unfold j_X6_chance_120 at hf
              obtain ⟨x3, ex⟩ : ∃ y : Int32, y = (y8 + (1 : Int32)) := ⟨_, rfl⟩
              replace hf := bnd_at hf ex
              refine lv_iinc (v := x3) (lv' := [(8, .int x3), (0, .ref h0), (1, .int p1), (2, .int p2), (3, .int p3), (4, .long y4), (6, .long y6)]) hx hb dX6_chance_120 hl (k := 6) rfl (by rw [ex]; rfl) (by decide) rfl (fun ls hl => ?_)
              clear ex
              refine lv_goto (tgt := 49) hx hb dX6_chance_123 (by decide) ?_
              exact ih_49 y4 y6 x3 w2 _ _ _ hP hD hS (lv_sub hl [1, 2, 3, 4, 5, 6, 0] rfl) hf
            have J_117 : ∀ (y6 : Int64) (y8 : Int32) (t0 : Int64) (t1 : Int64) (w2 : Ob) (H : Heap) (locs : List Loc) (ls : Array Slot), va_P D vwC (fl [oX6 h0 r0, oX1 ty (r0 1) a1 z1, oX1 ty (r0 2) a2 w2]) H → va_D A (fl [oX6 h0 r0, oX1 ty (r0 1) a1 z1, oX1 ty (r0 2) a2 w2]) → va_S A s.heap H locs → lv_has ls 11 [(0, .ref h0), (1, .int p1), (2, .int p2), (3, .int p3), (6, .long y6), (8, .int y8)] → j_X6_chance_117 z1 p1 p2 p3 r_49 y6 y8 t0 t1 w2 = some (o0, o1) → W p l e rm_X6_chance s m ([.ref h0, .int p1, .int p2, .int p3] : List Value).toArray below meth c H locs 0 0 (MQ below (qL D o0 (fl [oX6 h0 r0, oX1 ty (r0 1) a1 z1, oX1 ty (r0 2) a2 o1]) A) ([.ref h0, .int p1, .int p2, .int p3] : List Value).toArray s 0 0 A) (F0 m 117 ls [.long t0, .long t1]) := by
              intro y6 y8 t0 t1 w2 H locs ls hP hD hS hl hf
              unfold j_X6_chance_117 at hf
              refine lv_ladd hx hb dX6_chance_117 ?_
              refine lv_topl (fun x4 ex => ?_)
              replace hf := bnd_at hf ex; clear ex
              refine lv_lstore (lv' := [(4, .long x4), (0, .ref h0), (1, .int p1), (2, .int p2), (3, .int p3), (6, .long y6), (8, .int y8)]) hx hb dX6_chance_118 hl (by decide) rfl (fun ls hl => ?_)
              exact J_120 x4 y6 y8 w2 _ _ _ hP hD hS (lv_sub hl [1, 2, 3, 4, 0, 5, 6] rfl) hf
            refine lv_iload hx hb dX6_chance_49 (lv_at hl 6 rfl) ?_
            refine lv_iconst (v := (1 : Int32)) hx hb dX6_chance_51 (by decide) ?_
            refine lv_aload_n hx hb dX6_chance_52 rfl (lv_at hl 0 rfl) ?_
            refine va_get (D := D) (ci := 6) (C := RX6) (T := TX6) (N := 8) hx hb F.2.2.2.2 in_X6_chance_X6 F.2.2.2.1 hK.1 hP 0 rfl rfl 1 (Nat.le_of_ble_eq_true rfl) (F.2.2.2.2 (.fieldLink RX6 19 "LouderRoom" "now" "LLouderRoom$Crowd;") (List.mem_of_getElem? (i := 1) rfl)) (fun _ h9 => h9) rfl dX6_chance_53 ?_
            refine va_getN (D := D) (ci := 1) (C := RX1) (T := TX1) (N := 12) hx hb F.2.2.2.2 in_X6_chance_X1 F.2.2.2.1 hK.1 hP 1 rfl rfl 6 (Nat.le_of_ble_eq_true rfl) (KN.use hK 9 (w := .fieldLinkNest RX6 79 "LouderRoom$Crowd" "rings" "I" "LouderRoom") rfl _) (fun _ h9 => h9) rfl dX6_chance_56 ?_
            refine lv_ishl hx hb dX6_chance_59 ?_
            refine lv_icmp_ge (tgt := 126) hx hb dX6_chance_60 (by decide) (fun hc => ?_) (fun hc => ?_)
            · replace hf := ite_t hf hc
              refine lv_lconst (v := (1 : Int64)) hx hb dX6_chance_126 (by decide) ?_
              refine lv_lload hx hb dX6_chance_127 (lv_at hl 5 rfl) ?_
              refine lv_lload hx hb dX6_chance_129 (lv_at hl 4 rfl) ?_
              obtain ⟨v5, hv, hf⟩ := obd hf
              have hp1 : List.Perm [oX6 h0 r0, oX1 ty (r0 1) a1 z1, oX1 ty (r0 2) a2 w2] ([] ++ [oX6 h0 r0, oX1 ty (r0 1) a1 z1, oX1 ty (r0 2) a2 w2]) := (List.Perm.refl _)
              refine cl_call (out := v5) (os := [oX6 h0 r0, oX1 ty (r0 1) a1 z1, oX1 ty (r0 2) a2 w2]) (oc := []) (oc' := []) (or_ := [oX6 h0 r0, oX1 ty (r0 1) a1 z1, oX1 ty (r0 2) a2 w2]) (os' := [oX6 h0 r0, oX1 ty (r0 1) a1 z1, oX1 ty (r0 2) a2 w2]) (va_runS (As := [.long y6, .long y4]) (rest := [.long (1 : Int64)]) F (c_X6_commonDivisor l D ty _ _ _ hv _) (va_cwS 2 F.2.2.2.2 gX6_chance_X6_commonDivisor rfl rfl rfl hd_X6_commonDivisor ⟨Nat.le_of_ble_eq_true rfl, Nat.le_of_ble_eq_true rfl⟩) (pre_s hK hP hD hp1) rfl rfl hl.1 rfl (lv_room (Nat.le_of_ble_eq_true rfl)) dX6_chance_131 ⟨Nat.zero_le _, Nat.zero_le _⟩) hp1 (List.Perm.refl _) hP hD hS hA (fun H locs hP hD hS => ?_)
              clear hp1 hv
              refine va_mmax_long hx hb (F.2.2.1.trans hl.1.symm) F.2.2.2.1 (F.2.2.2.2 (.methodLink RX6 247 Lib.MathLoose.max_long.x) (List.mem_of_getElem? (i := 5) rfl)) (F.2.2.2.2 (.static Lib.MathLoose.max_long.x) (List.mem_of_getElem? (i := 6) rfl)) (F.2.2.2.2 (.initialized "java/lang/Math") (List.mem_of_getElem? (i := 7) rfl)) (F.2.2.2.2 (.code Lib.MathLoose.max_long.x Lib.MathLoose.max_long.code 4 (some .long)) (List.mem_of_getElem? (i := 8) rfl)) (Nat.le_of_ble_eq_true rfl) (Nat.le_of_ble_eq_true rfl) (Nat.zero_le _) (Nat.zero_le _) dX6_chance_134 ?_
              refine lv_topl (fun x6 ex => ?_)
              replace hf := bnd_at hf ex; clear ex
              refine lv_lstore (lv' := [(8, .long x6), (0, .ref h0), (1, .int p1), (2, .int p2), (3, .int p3), (4, .long y4), (6, .long y6)]) hx hb dX6_chance_137 hl (by decide) rfl (fun ls hl => ?_)
              refine lv_iload_n hx hb dX6_chance_139 rfl (lv_at hl 4 rfl) ?_
              refine lv_if_eq (tgt := 151) hx hb dX6_chance_140 (by decide) (fun hc => ?_) (fun hc => ?_)
              · replace hf := ite_t hf hc
                refine lv_lload hx hb dX6_chance_151 (lv_at hl 6 rfl) ?_
                refine lv_lload hx hb dX6_chance_153 (lv_at hl 0 rfl) ?_
                obtain ⟨hne, hf⟩ := grz hf
                refine lv_ldiv hx hb dX6_chance_155 hne ?_
                obtain hf := hf
                obtain ⟨e0, e1⟩ := tup2 hf
                rw [e1] at hP hD
                exact CX_l F hr hlk hP hD hS e0 dX6_chance_156
              · replace hf := ite_f hf hc
                refine lv_lload hx hb dX6_chance_143 (lv_at hl 5 rfl) ?_
                refine lv_lload hx hb dX6_chance_145 (lv_at hl 0 rfl) ?_
                obtain ⟨hne, hf⟩ := grz hf
                refine lv_ldiv hx hb dX6_chance_147 hne ?_
                refine lv_goto (tgt := 156) hx hb dX6_chance_148 (by decide) ?_
                obtain hf := hf
                obtain ⟨e0, e1⟩ := tup2 hf
                rw [e1] at hP hD
                exact CX_l F hr hlk hP hD hS e0 dX6_chance_156
            · replace hf := ite_f hf hc
              refine lv_iload hx hb dX6_chance_63 (lv_at hl 6 rfl) ?_
              refine lv_iload_n hx hb dX6_chance_65 rfl (lv_at hl 1 rfl) ?_
              refine lv_ishr hx hb dX6_chance_66 ?_
              refine lv_iconst (v := (1 : Int32)) hx hb dX6_chance_67 (by decide) ?_
              refine lv_iand hx hb dX6_chance_68 ?_
              refine lv_if_ne (tgt := 120) hx hb dX6_chance_69 (by decide) (fun hc => ?_) (fun hc => ?_)
              · replace hf := ite_f hf hc
                exact J_120 y4 y6 y8 w2 _ _ _ hP hD hS (lv_sub hl [0, 1, 2, 3, 4, 5, 6] rfl) hf
              · replace hf := ite_t hf hc
                refine lv_aload_n hx hb dX6_chance_72 rfl (lv_at hl 0 rfl) ?_
                refine va_get (D := D) (ci := 6) (C := RX6) (T := TX6) (N := 8) hx hb F.2.2.2.2 in_X6_chance_X6 F.2.2.2.1 hK.1 hP 0 rfl rfl 2 (Nat.le_of_ble_eq_true rfl) (F.2.2.2.2 (.fieldLink RX6 23 "LouderRoom" "trial" "LLouderRoom$Crowd;") (List.mem_of_getElem? (i := 4) rfl)) (fun _ h9 => h9) rfl dX6_chance_73 ?_
                refine lv_iload hx hb dX6_chance_76 (lv_at hl 6 rfl) ?_
                refine pt_putN (D := D) (ci := 1) (fty := .int) (C := RX1) (T := TX1) (N := 12) (w1 := fl [oX6 h0 r0, oX1 ty (r0 1) a1 z1, oX1 ty (r0 2) a2 (sI w2 11 y8)]) F in_X6_chance_X1 tyX1 tyX1_ok nmX1 hK.1 hP hD hS 8 rfl rfl 11 (Nat.le_of_ble_eq_true rfl) (KN.use hK 15 (w := .fieldLinkNest RX6 236 "LouderRoom$Crowd" "silent" "I" "LouderRoom") rfl _) (fun _ h9 => h9) rfl (by decide +kernel) rfl rfl (Nat.le_of_ble_eq_true rfl) rfl dX6_chance_78 (fun H locs hP hD hS => ?_)
                obtain ⟨g7, ex⟩ : ∃ y : Ob, y = (sI w2 11 y8) := ⟨_, rfl⟩
                replace hf := bnd_at hf ex; rw [← ex] at hP hD; clear ex
                refine lv_aload_n hx hb dX6_chance_81 rfl (lv_at hl 0 rfl) ?_
                refine lv_iload hx hb dX6_chance_82 (lv_at hl 6 rfl) ?_
                refine lv_iload_n hx hb dX6_chance_84 rfl (lv_at hl 1 rfl) ?_
                refine lv_iload_n hx hb dX6_chance_85 rfl (lv_at hl 2 rfl) ?_
                obtain ⟨v8, hv, hf⟩ := obd hf
                have hp1 : List.Perm [oX6 h0 r0, oX1 ty (r0 1) a1 z1, oX1 ty (r0 2) a2 g7] ([oX6 h0 r0, oX1 ty (r0 1) a1 z1] ++ [oX1 ty (r0 2) a2 g7]) := (List.Perm.refl _)
                refine cl_call (out := v8) (os := [oX6 h0 r0, oX1 ty (r0 1) a1 z1, oX1 ty (r0 2) a2 g7]) (oc := [oX6 h0 r0, oX1 ty (r0 1) a1 z1]) (oc' := [oX6 h0 r0, oX1 ty (r0 1) a1 z1]) (or_ := [oX1 ty (r0 2) a2 g7]) (os' := [oX6 h0 r0, oX1 ty (r0 1) a1 z1, oX1 ty (r0 2) a2 g7]) (va_runV (As := [.int y8, .int p1, .int p2]) (rest := []) F (c_X6_weightOf l D ty h0 r0 a1 _ _ _ _ _ hv _) (cwV 3 F.2.2.2.2 gX6_chance_X6_weightOf rfl rfl rfl ⟨rfl, hd_X6_weightOf⟩ ⟨Nat.le_of_ble_eq_true rfl, Nat.le_of_ble_eq_true rfl⟩) (pre_v hK hP hD hp1 rfl rfl rfl) rfl rfl hl.1 rfl (lv_room (Nat.le_of_ble_eq_true rfl)) dX6_chance_86 ⟨Nat.zero_le _, Nat.zero_le _⟩) hp1 (List.Perm.refl _) hP hD hS hA (fun H locs hP hD hS => ?_)
                clear hp1 hv
                refine lv_lstore (lv' := [(9, .long v8), (0, .ref h0), (1, .int p1), (2, .int p2), (3, .int p3), (4, .long y4), (6, .long y6), (8, .int y8)]) hx hb dX6_chance_89 hl (by decide) rfl (fun ls hl => ?_)
                refine lv_lload hx hb dX6_chance_91 (lv_at hl 6 rfl) ?_
                refine lv_lload hx hb dX6_chance_93 (lv_at hl 0 rfl) ?_
                refine lv_ladd hx hb dX6_chance_95 ?_
                refine lv_topl (fun x9 ex => ?_)
                replace hf := bnd_at hf ex; clear ex
                refine lv_lstore (lv' := [(6, .long x9), (9, .long v8), (0, .ref h0), (1, .int p1), (2, .int p2), (3, .int p3), (4, .long y4), (8, .int y8)]) hx hb dX6_chance_96 hl (by decide) rfl (fun ls hl => ?_)
                refine lv_lload hx hb dX6_chance_98 (lv_at hl 6 rfl) ?_
                refine lv_aload_n hx hb dX6_chance_100 rfl (lv_at hl 2 rfl) ?_
                refine va_get (D := D) (ci := 6) (C := RX6) (T := TX6) (N := 8) hx hb F.2.2.2.2 in_X6_chance_X6 F.2.2.2.1 hK.1 hP 0 rfl rfl 2 (Nat.le_of_ble_eq_true rfl) (F.2.2.2.2 (.fieldLink RX6 23 "LouderRoom" "trial" "LLouderRoom$Crowd;") (List.mem_of_getElem? (i := 4) rfl)) (fun _ h9 => h9) rfl dX6_chance_101 ?_
                refine lv_iload_n hx hb dX6_chance_104 rfl (lv_at hl 3 rfl) ?_
                obtain ⟨v10, hv, hf⟩ := obd hf
                have hp1 : List.Perm [oX6 h0 r0, oX1 ty (r0 1) a1 z1, oX1 ty (r0 2) a2 g7] ([oX1 ty (r0 2) a2 g7] ++ [oX6 h0 r0, oX1 ty (r0 1) a1 z1]) := ((List.perm_middle (a := (oX1 ty (r0 2) a2 g7 : va_W)) (l₁ := ([oX6 h0 r0, oX1 ty (r0 1) a1 z1] : List va_W)) (l₂ := ([] : List va_W))) : List.Perm ([oX6 h0 r0, oX1 ty (r0 1) a1 z1, oX1 ty (r0 2) a2 g7] : List va_W) ([oX1 ty (r0 2) a2 g7, oX6 h0 r0, oX1 ty (r0 1) a1 z1] : List va_W))
                refine ci_call (out := v10) (os := [oX6 h0 r0, oX1 ty (r0 1) a1 z1, oX1 ty (r0 2) a2 g7]) (oc := [oX1 ty (r0 2) a2 g7]) (oc' := [oX1 ty (r0 2) a2 g7]) (or_ := [oX6 h0 r0, oX1 ty (r0 1) a1 z1]) (os' := [oX6 h0 r0, oX1 ty (r0 1) a1 z1, oX1 ty (r0 2) a2 g7]) (va_runV (As := [.int p1]) (rest := [.long y4]) F (c_X1_hears l D ty (r0 2) a2 _ _ _ hv _) (cwV 1 F.2.2.2.2 gX6_chance_X1_hears rfl rfl rfl ⟨rfl, hd_X1_hears⟩ ⟨Nat.le_of_ble_eq_true rfl, Nat.le_of_ble_eq_true rfl⟩) (pre_v hK hP hD hp1 rfl rfl rfl) rfl rfl hl.1 rfl (lv_room (Nat.le_of_ble_eq_true rfl)) dX6_chance_105 ⟨Nat.zero_le _, Nat.zero_le _⟩) hp1 (((List.perm_middle (a := (oX6 h0 r0 : va_W)) (l₁ := ([oX1 ty (r0 2) a2 g7] : List va_W)) (l₂ := ([oX1 ty (r0 1) a1 z1] : List va_W))).trans (List.Perm.cons _ (List.perm_middle (a := (oX1 ty (r0 1) a1 z1 : va_W)) (l₁ := ([oX1 ty (r0 2) a2 g7] : List va_W)) (l₂ := ([] : List va_W))))) : List.Perm ([oX1 ty (r0 2) a2 g7, oX6 h0 r0, oX1 ty (r0 1) a1 z1] : List va_W) ([oX6 h0 r0, oX1 ty (r0 1) a1 z1, oX1 ty (r0 2) a2 g7] : List va_W)) hP hD hS hA (fun H locs hP hD hS => ?_)
                clear hp1 hv
                refine lv_if_eq (tgt := 116) hx hb dX6_chance_108 (by decide) (fun hc => ?_) (fun hc => ?_)
                · replace hf := ite_t hf hc
                  refine lv_lconst (v := (0 : Int64)) hx hb dX6_chance_116 (by decide) ?_
                  exact J_117 x9 y8 (0 : Int64) y4 g7 _ _ _ hP hD hS (lv_sub hl [2, 3, 4, 5, 0, 7] rfl) hf
                · replace hf := ite_f hf hc
                  refine lv_lload hx hb dX6_chance_111 (lv_at hl 1 rfl) ?_
                  refine lv_goto (tgt := 117) hx hb dX6_chance_113 (by decide) ?_
                  exact J_117 x9 y8 v8 y4 g7 _ _ _ hP hD hS (lv_sub hl [2, 3, 4, 5, 0, 7] rfl) hf
        exact L_49 FU (0 : Int64) (0 : Int64) (0 : Int32) g2 _ _ _ hP hD hS (lv_sub hl [3, 4, 5, 6, 2, 1, 0] rfl) hf
      · replace hf := ite_f hf hc
        refine lv_ldc2 hx hb F.2.2.2.1 (F.2.2.2.2 (.constantLong RX6 234 (-2)) (List.mem_of_getElem? (i := 3) rfl)) dX6_chance_25 ?_
        obtain hf := hf
        obtain ⟨e0, e1⟩ := tup2 hf
        rw [e1] at hP hD
        exact CX_l F hr hlk hP hD hS e0 dX6_chance_28
  · replace hf := ite_t hf hc
    refine lv_ldc2 hx hb F.2.2.2.1 (F.2.2.2.2 (.constantLong RX6 232 (-1)) (List.mem_of_getElem? (i := 2) rfl)) dX6_chance_11 ?_
    obtain hf := hf
    obtain ⟨e0, e1⟩ := tup2 hf
    rw [e1] at hP hD
    exact CX_l F hr hlk hP hD hS e0 dX6_chance_14
def f_X6_meter (z6 : Ob) (p1 : Int32) (p2 : Int32) : Option (Int32 × Ob) := (if p1 < 0 then some ((-2 : Int32), z6) else (if (40 : Int32) < p1 then some ((-2 : Int32), z6) else (if p2 < 0 then some ((-2 : Int32), z6) else (if p2 ≤ (9999 : Int32) then bd2 (f_X2_add z6 p1 p2) (fun v1 g2 => some (v1, g2)) else some ((-2 : Int32), z6)))))
abbrev rm_X6_meter : Room := { frames := 1, cells := 0, slots := 0, locals := 22 }
theorem hd_X6_meter : yX6_meter.cls ≠ "java/lang/invoke/MethodHandle" ∧ yX6_meter.cls ≠ "java/lang/invoke/VarHandle" ∧ (parseMethodDescriptor yX6_meter.desc).map (fun d => d.parameters.length) = some 2 := by decide +kernel
theorem in_X6_meter_X6 : ∀ w ∈ wsX60, w ∈ wsX6_meter := fun w h => List.mem_cons_of_mem _ (List.mem_append_left _ (List.mem_append_right _ h))
set_option maxHeartbeats 4000000 in
set_option maxRecDepth 100000 in
theorem c_X6_meter (l : Launch) (D : va_G) (ty : TY) (h0 : Nat) (r0 : Nat → Nat) (a6 : Nat → Nat) (z6 : Ob) (p1 : Int32) (p2 : Int32) (o0 : Int32) (o1 : Ob) (hf : f_X6_meter z6 p1 p2 = some (o0, o1)) (sz : Nat) : CX l yX6_meter wsX6_meter rm_X6_meter ([.ref h0, .int p1, .int p2] : List Value) D ty (fl [oX6 h0 r0, oX2 ty (r0 6) a6 z6]) sz (qI D o0 (fl [oX6 h0 r0, oX2 ty (r0 6) a6 o1])) 0 0 := by
  refine CX_of (cc := cX6_meter) (maxL := 3) (ret := (some .int)) (C := RX6) (by decide) rfl rfl (Nat.le_of_ble_eq_true rfl) ?_
  intro p e s m below meth c A ls F hr hlk _ hK hP hD hS hA hl
  have hx := F.1
  have hb := F.2.1
  replace hl : lv_has ls 3 [(0, .ref h0), (1, .int p1), (2, .int p2)] := hl
  unfold f_X6_meter at hf
  refine lv_iload_n hx hb dX6_meter_0 rfl (lv_at hl 1 rfl) ?_
  refine lv_if_lt (tgt := 21) hx hb dX6_meter_1 (by decide) (fun hc => ?_) (fun hc => ?_)
  · replace hf := ite_t hf hc
    refine lv_bipush (v := (-2 : Int32)) hx hb dX6_meter_21 (by decide) ?_
    obtain hf := hf
    obtain ⟨e0, e1⟩ := tup2 hf
    rw [e1] at hP hD
    exact CX_i F hr hlk hP hD hS e0 dX6_meter_23
  · replace hf := ite_f hf hc
    refine lv_iload_n hx hb dX6_meter_4 rfl (lv_at hl 1 rfl) ?_
    refine lv_bipush (v := (40 : Int32)) hx hb dX6_meter_5 (by decide) ?_
    refine lv_icmp_gt (tgt := 21) hx hb dX6_meter_7 (by decide) (fun hc => ?_) (fun hc => ?_)
    · replace hf := ite_t hf hc
      refine lv_bipush (v := (-2 : Int32)) hx hb dX6_meter_21 (by decide) ?_
      obtain hf := hf
      obtain ⟨e0, e1⟩ := tup2 hf
      rw [e1] at hP hD
      exact CX_i F hr hlk hP hD hS e0 dX6_meter_23
    · replace hf := ite_f hf hc
      refine lv_iload_n hx hb dX6_meter_10 rfl (lv_at hl 2 rfl) ?_
      refine lv_if_lt (tgt := 21) hx hb dX6_meter_11 (by decide) (fun hc => ?_) (fun hc => ?_)
      · replace hf := ite_t hf hc
        refine lv_bipush (v := (-2 : Int32)) hx hb dX6_meter_21 (by decide) ?_
        obtain hf := hf
        obtain ⟨e0, e1⟩ := tup2 hf
        rw [e1] at hP hD
        exact CX_i F hr hlk hP hD hS e0 dX6_meter_23
      · replace hf := ite_f hf hc
        refine lv_iload_n hx hb dX6_meter_14 rfl (lv_at hl 2 rfl) ?_
        refine lv_sipush (v := (9999 : Int32)) hx hb dX6_meter_15 (by decide) ?_
        refine lv_icmp_le (tgt := 24) hx hb dX6_meter_18 (by decide) (fun hc => ?_) (fun hc => ?_)
        · replace hf := ite_t hf hc
          refine lv_aload_n hx hb dX6_meter_24 rfl (lv_at hl 0 rfl) ?_
          refine va_get (D := D) (ci := 6) (C := RX6) (T := TX6) (N := 8) hx hb F.2.2.2.2 in_X6_meter_X6 F.2.2.2.1 hK.1 hP 0 rfl rfl 6 (Nat.le_of_ble_eq_true rfl) (F.2.2.2.2 (.fieldLink RX6 46 "LouderRoom" "meters" "LLouderRoom$Meters;") (List.mem_of_getElem? (i := 1) rfl)) (fun _ h9 => h9) rfl dX6_meter_25 ?_
          refine lv_iload_n hx hb dX6_meter_28 rfl (lv_at hl 1 rfl) ?_
          refine lv_iload_n hx hb dX6_meter_29 rfl (lv_at hl 2 rfl) ?_
          obtain ⟨v1, g2, hv, hf⟩ := obd2 hf
          have hp1 : List.Perm [oX6 h0 r0, oX2 ty (r0 6) a6 z6] ([oX2 ty (r0 6) a6 z6] ++ [oX6 h0 r0]) := ((List.perm_middle (a := (oX2 ty (r0 6) a6 z6 : va_W)) (l₁ := ([oX6 h0 r0] : List va_W)) (l₂ := ([] : List va_W))) : List.Perm ([oX6 h0 r0, oX2 ty (r0 6) a6 z6] : List va_W) ([oX2 ty (r0 6) a6 z6, oX6 h0 r0] : List va_W))
          refine ci_call (out := v1) (os := [oX6 h0 r0, oX2 ty (r0 6) a6 z6]) (oc := [oX2 ty (r0 6) a6 z6]) (oc' := [oX2 ty (r0 6) a6 g2]) (or_ := [oX6 h0 r0]) (os' := [oX6 h0 r0, oX2 ty (r0 6) a6 g2]) (va_runV (As := [.int p1, .int p2]) (rest := []) F (c_X2_add l D ty (r0 6) a6 _ _ _ _ _ hv _) (cwV 2 F.2.2.2.2 gX6_meter_X2_add rfl rfl rfl ⟨rfl, hd_X2_add⟩ ⟨Nat.le_of_ble_eq_true rfl, Nat.le_of_ble_eq_true rfl⟩) (pre_v hK hP hD hp1 rfl rfl rfl) rfl rfl hl.1 rfl (lv_room (Nat.le_of_ble_eq_true rfl)) dX6_meter_30 ⟨Nat.zero_le _, Nat.zero_le _⟩) hp1 ((List.perm_middle (a := (oX6 h0 r0 : va_W)) (l₁ := ([oX2 ty (r0 6) a6 g2] : List va_W)) (l₂ := ([] : List va_W))) : List.Perm ([oX2 ty (r0 6) a6 g2, oX6 h0 r0] : List va_W) ([oX6 h0 r0, oX2 ty (r0 6) a6 g2] : List va_W)) hP hD hS hA (fun H locs hP hD hS => ?_)
          clear hp1 hv
          obtain hf := hf
          obtain ⟨e0, e1⟩ := tup2 hf
          rw [e1] at hP hD
          exact CX_i F hr hlk hP hD hS e0 dX6_meter_33
        · replace hf := ite_f hf hc
          refine lv_bipush (v := (-2 : Int32)) hx hb dX6_meter_21 (by decide) ?_
          obtain hf := hf
          obtain ⟨e0, e1⟩ := tup2 hf
          rw [e1] at hP hD
          exact CX_i F hr hlk hP hD hS e0 dX6_meter_23
def f_X6_unmeter (z6 : Ob) : Option (Int32 × Ob) := bd2 (f_X2_clear z6) (fun v1 g2 => some (v1, g2))
abbrev rm_X6_unmeter : Room := { frames := 1, cells := 0, slots := 0, locals := 21 }
theorem hd_X6_unmeter : yX6_unmeter.cls ≠ "java/lang/invoke/MethodHandle" ∧ yX6_unmeter.cls ≠ "java/lang/invoke/VarHandle" ∧ (parseMethodDescriptor yX6_unmeter.desc).map (fun d => d.parameters.length) = some 0 := by decide +kernel
theorem in_X6_unmeter_X6 : ∀ w ∈ wsX60, w ∈ wsX6_unmeter := fun w h => List.mem_cons_of_mem _ (List.mem_append_left _ (List.mem_append_right _ h))
set_option maxHeartbeats 4000000 in
set_option maxRecDepth 100000 in
theorem c_X6_unmeter (l : Launch) (D : va_G) (ty : TY) (h0 : Nat) (r0 : Nat → Nat) (a6 : Nat → Nat) (z6 : Ob) (o0 : Int32) (o1 : Ob) (hf : f_X6_unmeter z6 = some (o0, o1)) (sz : Nat) : CX l yX6_unmeter wsX6_unmeter rm_X6_unmeter ([.ref h0] : List Value) D ty (fl [oX6 h0 r0, oX2 ty (r0 6) a6 z6]) sz (qI D o0 (fl [oX6 h0 r0, oX2 ty (r0 6) a6 o1])) 0 0 := by
  refine CX_of (cc := cX6_unmeter) (maxL := 1) (ret := (some .int)) (C := RX6) (by decide) rfl rfl (Nat.le_of_ble_eq_true rfl) ?_
  intro p e s m below meth c A ls F hr hlk _ hK hP hD hS hA hl
  have hx := F.1
  have hb := F.2.1
  replace hl : lv_has ls 1 [(0, .ref h0)] := hl
  unfold f_X6_unmeter at hf
  refine lv_aload_n hx hb dX6_unmeter_0 rfl (lv_at hl 0 rfl) ?_
  refine va_get (D := D) (ci := 6) (C := RX6) (T := TX6) (N := 8) hx hb F.2.2.2.2 in_X6_unmeter_X6 F.2.2.2.1 hK.1 hP 0 rfl rfl 6 (Nat.le_of_ble_eq_true rfl) (F.2.2.2.2 (.fieldLink RX6 46 "LouderRoom" "meters" "LLouderRoom$Meters;") (List.mem_of_getElem? (i := 1) rfl)) (fun _ h9 => h9) rfl dX6_unmeter_1 ?_
  obtain ⟨v1, g2, hv, hf⟩ := obd2 hf
  have hp1 : List.Perm [oX6 h0 r0, oX2 ty (r0 6) a6 z6] ([oX2 ty (r0 6) a6 z6] ++ [oX6 h0 r0]) := ((List.perm_middle (a := (oX2 ty (r0 6) a6 z6 : va_W)) (l₁ := ([oX6 h0 r0] : List va_W)) (l₂ := ([] : List va_W))) : List.Perm ([oX6 h0 r0, oX2 ty (r0 6) a6 z6] : List va_W) ([oX2 ty (r0 6) a6 z6, oX6 h0 r0] : List va_W))
  refine ci_call (out := v1) (os := [oX6 h0 r0, oX2 ty (r0 6) a6 z6]) (oc := [oX2 ty (r0 6) a6 z6]) (oc' := [oX2 ty (r0 6) a6 g2]) (or_ := [oX6 h0 r0]) (os' := [oX6 h0 r0, oX2 ty (r0 6) a6 g2]) (va_runV (As := []) (rest := []) F (c_X2_clear l D ty (r0 6) a6 _ _ _ hv _) (cwV 0 F.2.2.2.2 gX6_unmeter_X2_clear rfl rfl rfl ⟨rfl, hd_X2_clear⟩ ⟨Nat.le_of_ble_eq_true rfl, Nat.le_of_ble_eq_true rfl⟩) (pre_v hK hP hD hp1 rfl rfl rfl) rfl rfl hl.1 rfl (lv_room (Nat.le_of_ble_eq_true rfl)) dX6_unmeter_4 ⟨Nat.zero_le _, Nat.zero_le _⟩) hp1 ((List.perm_middle (a := (oX6 h0 r0 : va_W)) (l₁ := ([oX2 ty (r0 6) a6 g2] : List va_W)) (l₂ := ([] : List va_W))) : List.Perm ([oX2 ty (r0 6) a6 g2, oX6 h0 r0] : List va_W) ([oX6 h0 r0, oX2 ty (r0 6) a6 g2] : List va_W)) hP hD hS hA (fun H locs hP hD hS => ?_)
  clear hp1 hv
  obtain hf := hf
  obtain ⟨e0, e1⟩ := tup2 hf
  rw [e1] at hP hD
  exact CX_i F hr hlk hP hD hS e0 dX6_unmeter_7
def b_X6_trialFitsMeters_2 (z6 : Ob) (r_2 : Int32 → Ob → Option (Int32 × Ob)) (y1 : Int32) (w1 : Ob) : Option (Int32 × Ob) := (if (40 : Int32) < y1 then some ((1 : Int32), w1) else (f_X1_echoing w1).bind (fun v1 => (f_X2_fit z6 y1 v1).bind (fun v2 => (if v2 = 0 then some ((0 : Int32), w1) else (f_X1_look w1).bind (fun g3 => (f_X1_take g3).bind (fun g4 => bnd (y1 + (1 : Int32)) (fun x5 => r_2 x5 g4)))))))
def f_X6_trialFitsMeters (z2 : Ob) (z6 : Ob) : Option (Int32 × Ob) := fuel2 (b_X6_trialFitsMeters_2 z6) FU (0 : Int32) z2
abbrev rm_X6_trialFitsMeters : Room := { frames := 4, cells := 0, slots := 0, locals := 91 }
theorem hd_X6_trialFitsMeters : yX6_trialFitsMeters.cls ≠ "java/lang/invoke/MethodHandle" ∧ yX6_trialFitsMeters.cls ≠ "java/lang/invoke/VarHandle" ∧ (parseMethodDescriptor yX6_trialFitsMeters.desc).map (fun d => d.parameters.length) = some 0 := by decide +kernel
theorem in_X6_trialFitsMeters_X6 : ∀ w ∈ wsX60, w ∈ wsX6_trialFitsMeters := fun w h => List.mem_cons_of_mem _ (List.mem_append_left _ (List.mem_append_left _ (List.mem_append_right _ h)))
set_option maxHeartbeats 4000000 in
set_option maxRecDepth 100000 in
theorem c_X6_trialFitsMeters (l : Launch) (D : va_G) (ty : TY) (h0 : Nat) (r0 : Nat → Nat) (a2 : Nat → Nat) (a6 : Nat → Nat) (z2 : Ob) (z6 : Ob) (o0 : Int32) (o1 : Ob) (hf : f_X6_trialFitsMeters z2 z6 = some (o0, o1)) (sz : Nat) : CX l yX6_trialFitsMeters wsX6_trialFitsMeters rm_X6_trialFitsMeters ([.ref h0] : List Value) D ty (fl [oX6 h0 r0, oX1 ty (r0 2) a2 z2, oX2 ty (r0 6) a6 z6]) sz (qI D o0 (fl [oX6 h0 r0, oX1 ty (r0 2) a2 o1, oX2 ty (r0 6) a6 z6])) 0 0 := by
  refine CX_of (cc := cX6_trialFitsMeters) (maxL := 2) (ret := (some .boolean)) (C := RX6) (by decide) rfl rfl (Nat.le_of_ble_eq_true rfl) ?_
  intro p e s m below meth c A ls F hr hlk _ hK hP hD hS hA hl
  have hx := F.1
  have hb := F.2.1
  replace hl : lv_has ls 2 [(0, .ref h0)] := hl
  unfold f_X6_trialFitsMeters at hf
  refine lv_iconst (v := (0 : Int32)) hx hb dX6_trialFitsMeters_0 (by decide) ?_
  refine lv_istore_n (lv' := [(1, .int (0 : Int32)), (0, .ref h0)]) hx hb dX6_trialFitsMeters_1 rfl hl (by decide) rfl (fun ls hl => ?_)
  have L_2 : ∀ (n : Nat) (y1 : Int32) (w1 : Ob) (H : Heap) (locs : List Loc) (ls : Array Slot), va_P D vwC (fl [oX6 h0 r0, oX1 ty (r0 2) a2 w1, oX2 ty (r0 6) a6 z6]) H → va_D A (fl [oX6 h0 r0, oX1 ty (r0 2) a2 w1, oX2 ty (r0 6) a6 z6]) → va_S A s.heap H locs → lv_has ls 2 [(0, .ref h0), (1, .int y1)] → fuel2 (b_X6_trialFitsMeters_2 z6) n y1 w1 = some (o0, o1) → W p l e rm_X6_trialFitsMeters s m ([.ref h0] : List Value).toArray below meth c H locs 0 0 (MQ below (qI D o0 (fl [oX6 h0 r0, oX1 ty (r0 2) a2 o1, oX2 ty (r0 6) a6 z6]) A) ([.ref h0] : List Value).toArray s 0 0 A) (F0 m 2 ls []) := by
    intro n
    induction n with
    | zero => intro y1 w1 H locs ls hP hD hS hl hf; cases hf
    | succ n ih_2 =>
      intro y1 w1 H locs ls hP hD hS hl hf
      replace hf : b_X6_trialFitsMeters_2 z6 (fuel2 (b_X6_trialFitsMeters_2 z6) n) y1 w1 = some (o0, o1) := hf
      generalize fuel2 (b_X6_trialFitsMeters_2 z6) n = r_2 at ih_2 hf
      unfold b_X6_trialFitsMeters_2 at hf
      refine lv_iload_n hx hb dX6_trialFitsMeters_2 rfl (lv_at hl 1 rfl) ?_
      refine lv_bipush (v := (40 : Int32)) hx hb dX6_trialFitsMeters_3 (by decide) ?_
      refine lv_icmp_gt (tgt := 48) hx hb dX6_trialFitsMeters_5 (by decide) (fun hc => ?_) (fun hc => ?_)
      · replace hf := ite_t hf hc
        refine lv_iconst (v := (1 : Int32)) hx hb dX6_trialFitsMeters_48 (by decide) ?_
        obtain hf := hf
        obtain ⟨e0, e1⟩ := tup2 hf
        rw [e1] at hP hD
        exact CX_z F hr hlk hP hD hS narrow_b1 e0 dX6_trialFitsMeters_49
      · replace hf := ite_f hf hc
        refine lv_aload_n hx hb dX6_trialFitsMeters_8 rfl (lv_at hl 0 rfl) ?_
        refine va_get (D := D) (ci := 6) (C := RX6) (T := TX6) (N := 8) hx hb F.2.2.2.2 in_X6_trialFitsMeters_X6 F.2.2.2.1 hK.1 hP 0 rfl rfl 6 (Nat.le_of_ble_eq_true rfl) (F.2.2.2.2 (.fieldLink RX6 46 "LouderRoom" "meters" "LLouderRoom$Meters;") (List.mem_of_getElem? (i := 1) rfl)) (fun _ h9 => h9) rfl dX6_trialFitsMeters_9 ?_
        refine lv_iload_n hx hb dX6_trialFitsMeters_12 rfl (lv_at hl 1 rfl) ?_
        refine lv_aload_n hx hb dX6_trialFitsMeters_13 rfl (lv_at hl 0 rfl) ?_
        refine va_get (D := D) (ci := 6) (C := RX6) (T := TX6) (N := 8) hx hb F.2.2.2.2 in_X6_trialFitsMeters_X6 F.2.2.2.1 hK.1 hP 0 rfl rfl 2 (Nat.le_of_ble_eq_true rfl) (F.2.2.2.2 (.fieldLink RX6 23 "LouderRoom" "trial" "LLouderRoom$Crowd;") (List.mem_of_getElem? (i := 2) rfl)) (fun _ h9 => h9) rfl dX6_trialFitsMeters_14 ?_
        obtain ⟨v1, hv, hf⟩ := obd hf
        have hp1 : List.Perm [oX6 h0 r0, oX1 ty (r0 2) a2 w1, oX2 ty (r0 6) a6 z6] ([oX1 ty (r0 2) a2 w1] ++ [oX6 h0 r0, oX2 ty (r0 6) a6 z6]) := ((List.perm_middle (a := (oX1 ty (r0 2) a2 w1 : va_W)) (l₁ := ([oX6 h0 r0] : List va_W)) (l₂ := ([oX2 ty (r0 6) a6 z6] : List va_W))) : List.Perm ([oX6 h0 r0, oX1 ty (r0 2) a2 w1, oX2 ty (r0 6) a6 z6] : List va_W) ([oX1 ty (r0 2) a2 w1, oX6 h0 r0, oX2 ty (r0 6) a6 z6] : List va_W))
        refine ci_call (out := v1) (os := [oX6 h0 r0, oX1 ty (r0 2) a2 w1, oX2 ty (r0 6) a6 z6]) (oc := [oX1 ty (r0 2) a2 w1]) (oc' := [oX1 ty (r0 2) a2 w1]) (or_ := [oX6 h0 r0, oX2 ty (r0 6) a6 z6]) (os' := [oX6 h0 r0, oX1 ty (r0 2) a2 w1, oX2 ty (r0 6) a6 z6]) (va_runV (As := []) (rest := [.int y1, .ref (r0 6)]) F (c_X1_echoing l D ty (r0 2) a2 _ _ hv _) (cwV 0 F.2.2.2.2 gX6_trialFitsMeters_X1_echoing rfl rfl rfl ⟨rfl, hd_X1_echoing⟩ ⟨Nat.le_of_ble_eq_true rfl, Nat.le_of_ble_eq_true rfl⟩) (pre_v hK hP hD hp1 rfl rfl rfl) rfl rfl hl.1 rfl (lv_room (Nat.le_of_ble_eq_true rfl)) dX6_trialFitsMeters_17 ⟨Nat.zero_le _, Nat.zero_le _⟩) hp1 ((List.perm_middle (a := (oX6 h0 r0 : va_W)) (l₁ := ([oX1 ty (r0 2) a2 w1] : List va_W)) (l₂ := ([oX2 ty (r0 6) a6 z6] : List va_W))) : List.Perm ([oX1 ty (r0 2) a2 w1, oX6 h0 r0, oX2 ty (r0 6) a6 z6] : List va_W) ([oX6 h0 r0, oX1 ty (r0 2) a2 w1, oX2 ty (r0 6) a6 z6] : List va_W)) hP hD hS hA (fun H locs hP hD hS => ?_)
        clear hp1 hv
        obtain ⟨v2, hv, hf⟩ := obd hf
        have hp1 : List.Perm [oX6 h0 r0, oX1 ty (r0 2) a2 w1, oX2 ty (r0 6) a6 z6] ([oX2 ty (r0 6) a6 z6] ++ [oX6 h0 r0, oX1 ty (r0 2) a2 w1]) := ((List.perm_middle (a := (oX2 ty (r0 6) a6 z6 : va_W)) (l₁ := ([oX6 h0 r0, oX1 ty (r0 2) a2 w1] : List va_W)) (l₂ := ([] : List va_W))) : List.Perm ([oX6 h0 r0, oX1 ty (r0 2) a2 w1, oX2 ty (r0 6) a6 z6] : List va_W) ([oX2 ty (r0 6) a6 z6, oX6 h0 r0, oX1 ty (r0 2) a2 w1] : List va_W))
        refine ci_call (out := v2) (os := [oX6 h0 r0, oX1 ty (r0 2) a2 w1, oX2 ty (r0 6) a6 z6]) (oc := [oX2 ty (r0 6) a6 z6]) (oc' := [oX2 ty (r0 6) a6 z6]) (or_ := [oX6 h0 r0, oX1 ty (r0 2) a2 w1]) (os' := [oX6 h0 r0, oX1 ty (r0 2) a2 w1, oX2 ty (r0 6) a6 z6]) (va_runV (As := [.int y1, .int v1]) (rest := []) F (c_X2_fit l D ty (r0 6) a6 _ _ _ _ hv _) (cwV 2 F.2.2.2.2 gX6_trialFitsMeters_X2_fit rfl rfl rfl ⟨rfl, hd_X2_fit⟩ ⟨Nat.le_of_ble_eq_true rfl, Nat.le_of_ble_eq_true rfl⟩) (pre_v hK hP hD hp1 rfl rfl rfl) rfl rfl hl.1 rfl (lv_room (Nat.le_of_ble_eq_true rfl)) dX6_trialFitsMeters_20 ⟨Nat.zero_le _, Nat.zero_le _⟩) hp1 (((List.perm_middle (a := (oX6 h0 r0 : va_W)) (l₁ := ([oX2 ty (r0 6) a6 z6] : List va_W)) (l₂ := ([oX1 ty (r0 2) a2 w1] : List va_W))).trans (List.Perm.cons _ (List.perm_middle (a := (oX1 ty (r0 2) a2 w1 : va_W)) (l₁ := ([oX2 ty (r0 6) a6 z6] : List va_W)) (l₂ := ([] : List va_W))))) : List.Perm ([oX2 ty (r0 6) a6 z6, oX6 h0 r0, oX1 ty (r0 2) a2 w1] : List va_W) ([oX6 h0 r0, oX1 ty (r0 2) a2 w1, oX2 ty (r0 6) a6 z6] : List va_W)) hP hD hS hA (fun H locs hP hD hS => ?_)
        clear hp1 hv
        refine lv_if_ne (tgt := 28) hx hb dX6_trialFitsMeters_23 (by decide) (fun hc => ?_) (fun hc => ?_)
        · replace hf := ite_f hf hc
          refine lv_aload_n hx hb dX6_trialFitsMeters_28 rfl (lv_at hl 0 rfl) ?_
          refine va_get (D := D) (ci := 6) (C := RX6) (T := TX6) (N := 8) hx hb F.2.2.2.2 in_X6_trialFitsMeters_X6 F.2.2.2.1 hK.1 hP 0 rfl rfl 2 (Nat.le_of_ble_eq_true rfl) (F.2.2.2.2 (.fieldLink RX6 23 "LouderRoom" "trial" "LLouderRoom$Crowd;") (List.mem_of_getElem? (i := 2) rfl)) (fun _ h9 => h9) rfl dX6_trialFitsMeters_29 ?_
          obtain ⟨g3, hv, hf⟩ := obd hf
          have hp1 : List.Perm [oX6 h0 r0, oX1 ty (r0 2) a2 w1, oX2 ty (r0 6) a6 z6] ([oX1 ty (r0 2) a2 w1] ++ [oX6 h0 r0, oX2 ty (r0 6) a6 z6]) := ((List.perm_middle (a := (oX1 ty (r0 2) a2 w1 : va_W)) (l₁ := ([oX6 h0 r0] : List va_W)) (l₂ := ([oX2 ty (r0 6) a6 z6] : List va_W))) : List.Perm ([oX6 h0 r0, oX1 ty (r0 2) a2 w1, oX2 ty (r0 6) a6 z6] : List va_W) ([oX1 ty (r0 2) a2 w1, oX6 h0 r0, oX2 ty (r0 6) a6 z6] : List va_W))
          refine cv_call (os := [oX6 h0 r0, oX1 ty (r0 2) a2 w1, oX2 ty (r0 6) a6 z6]) (oc := [oX1 ty (r0 2) a2 w1]) (oc' := [oX1 ty (r0 2) a2 g3]) (or_ := [oX6 h0 r0, oX2 ty (r0 6) a6 z6]) (os' := [oX6 h0 r0, oX1 ty (r0 2) a2 g3, oX2 ty (r0 6) a6 z6]) (va_runV (As := []) (rest := []) F (c_X1_look l D ty (r0 2) a2 _ _ hv _) (cwV 0 F.2.2.2.2 gX6_trialFitsMeters_X1_look rfl rfl rfl ⟨rfl, hd_X1_look⟩ ⟨Nat.le_of_ble_eq_true rfl, Nat.le_of_ble_eq_true rfl⟩) (pre_v hK hP hD hp1 rfl rfl rfl) rfl rfl hl.1 rfl (lv_room (Nat.le_of_ble_eq_true rfl)) dX6_trialFitsMeters_32 ⟨Nat.zero_le _, Nat.zero_le _⟩) hp1 ((List.perm_middle (a := (oX6 h0 r0 : va_W)) (l₁ := ([oX1 ty (r0 2) a2 g3] : List va_W)) (l₂ := ([oX2 ty (r0 6) a6 z6] : List va_W))) : List.Perm ([oX1 ty (r0 2) a2 g3, oX6 h0 r0, oX2 ty (r0 6) a6 z6] : List va_W) ([oX6 h0 r0, oX1 ty (r0 2) a2 g3, oX2 ty (r0 6) a6 z6] : List va_W)) hP hD hS hA (fun H locs hP hD hS => ?_)
          clear hp1 hv
          refine lv_aload_n hx hb dX6_trialFitsMeters_35 rfl (lv_at hl 0 rfl) ?_
          refine va_get (D := D) (ci := 6) (C := RX6) (T := TX6) (N := 8) hx hb F.2.2.2.2 in_X6_trialFitsMeters_X6 F.2.2.2.1 hK.1 hP 0 rfl rfl 2 (Nat.le_of_ble_eq_true rfl) (F.2.2.2.2 (.fieldLink RX6 23 "LouderRoom" "trial" "LLouderRoom$Crowd;") (List.mem_of_getElem? (i := 2) rfl)) (fun _ h9 => h9) rfl dX6_trialFitsMeters_36 ?_
          obtain ⟨g4, hv, hf⟩ := obd hf
          have hp1 : List.Perm [oX6 h0 r0, oX1 ty (r0 2) a2 g3, oX2 ty (r0 6) a6 z6] ([oX1 ty (r0 2) a2 g3] ++ [oX6 h0 r0, oX2 ty (r0 6) a6 z6]) := ((List.perm_middle (a := (oX1 ty (r0 2) a2 g3 : va_W)) (l₁ := ([oX6 h0 r0] : List va_W)) (l₂ := ([oX2 ty (r0 6) a6 z6] : List va_W))) : List.Perm ([oX6 h0 r0, oX1 ty (r0 2) a2 g3, oX2 ty (r0 6) a6 z6] : List va_W) ([oX1 ty (r0 2) a2 g3, oX6 h0 r0, oX2 ty (r0 6) a6 z6] : List va_W))
          refine cv_call (os := [oX6 h0 r0, oX1 ty (r0 2) a2 g3, oX2 ty (r0 6) a6 z6]) (oc := [oX1 ty (r0 2) a2 g3]) (oc' := [oX1 ty (r0 2) a2 g4]) (or_ := [oX6 h0 r0, oX2 ty (r0 6) a6 z6]) (os' := [oX6 h0 r0, oX1 ty (r0 2) a2 g4, oX2 ty (r0 6) a6 z6]) (va_runV (As := []) (rest := []) F (c_X1_take l D ty (r0 2) a2 _ _ hv _) (cwV 0 F.2.2.2.2 gX6_trialFitsMeters_X1_take rfl rfl rfl ⟨rfl, hd_X1_take⟩ ⟨Nat.le_of_ble_eq_true rfl, Nat.le_of_ble_eq_true rfl⟩) (pre_v hK hP hD hp1 rfl rfl rfl) rfl rfl hl.1 rfl (lv_room (Nat.le_of_ble_eq_true rfl)) dX6_trialFitsMeters_39 ⟨Nat.zero_le _, Nat.zero_le _⟩) hp1 ((List.perm_middle (a := (oX6 h0 r0 : va_W)) (l₁ := ([oX1 ty (r0 2) a2 g4] : List va_W)) (l₂ := ([oX2 ty (r0 6) a6 z6] : List va_W))) : List.Perm ([oX1 ty (r0 2) a2 g4, oX6 h0 r0, oX2 ty (r0 6) a6 z6] : List va_W) ([oX6 h0 r0, oX1 ty (r0 2) a2 g4, oX2 ty (r0 6) a6 z6] : List va_W)) hP hD hS hA (fun H locs hP hD hS => ?_)
          clear hp1 hv
          obtain ⟨x5, ex⟩ : ∃ y : Int32, y = (y1 + (1 : Int32)) := ⟨_, rfl⟩
          replace hf := bnd_at hf ex
          refine lv_iinc (v := x5) (lv' := [(1, .int x5), (0, .ref h0)]) hx hb dX6_trialFitsMeters_42 hl (k := 1) rfl (by rw [ex]; rfl) (by decide) rfl (fun ls hl => ?_)
          clear ex
          refine lv_goto (tgt := 2) hx hb dX6_trialFitsMeters_45 (by decide) ?_
          exact ih_2 x5 g4 _ _ _ hP hD hS (lv_sub hl [1, 0] rfl) hf
        · replace hf := ite_t hf hc
          refine lv_iconst (v := (0 : Int32)) hx hb dX6_trialFitsMeters_26 (by decide) ?_
          obtain hf := hf
          obtain ⟨e0, e1⟩ := tup2 hf
          rw [e1] at hP hD
          exact CX_z F hr hlk hP hD hS narrow_b0 e0 dX6_trialFitsMeters_27
  exact L_2 FU (0 : Int32) z2 _ _ _ hP hD hS (lv_sub hl [1, 0] rfl) hf
def j_X6_came_33 (z1 : Ob) (z6 : Ob) (r_4 : Int32 → Int32 → Ob → Option (Int32 × Ob)) (y1 : Int32) (y2 : Int32) (w2 : Ob) : Option (Int32 × Ob) := bnd (y2 + (1 : Int32)) (fun x1 => r_4 y1 x1 w2)
def b_X6_came_4 (z1 : Ob) (z6 : Ob) (r_4 : Int32 → Int32 → Ob → Option (Int32 × Ob)) (y1 : Int32) (y2 : Int32) (w2 : Ob) : Option (Int32 × Ob) := (if (z1.1 6) < y2 then some (y1, w2) else (f_X6_tryFirst z1 w2 y2).bind (fun g2 => bd2 (f_X6_trialFitsMeters g2 z6) (fun v3 g4 => (if v3 = 0 then j_X6_came_33 z1 z6 r_4 y1 y2 g4 else bnd (y1 ||| ((1 : Int32) <<< (y2 &&& 31))) (fun x5 => j_X6_came_33 z1 z6 r_4 x5 y2 g4)))))
def f_X6_came (z1 : Ob) (z2 : Ob) (z6 : Ob) : Option (Int32 × Ob) := fuel3 (b_X6_came_4 z1 z6) FU (0 : Int32) (0 : Int32) z2
abbrev rm_X6_came : Room := { frames := 5, cells := 0, slots := 0, locals := 112 }
theorem hd_X6_came : yX6_came.cls ≠ "java/lang/invoke/MethodHandle" ∧ yX6_came.cls ≠ "java/lang/invoke/VarHandle" ∧ (parseMethodDescriptor yX6_came.desc).map (fun d => d.parameters.length) = some 0 := by decide +kernel
theorem in_X6_came_X6 : ∀ w ∈ wsX60, w ∈ wsX6_came := fun w h => List.mem_cons_of_mem _ (List.mem_append_left _ (List.mem_append_left _ (List.mem_append_right _ h)))
theorem in_X6_came_X1 : ∀ w ∈ wsX10, w ∈ wsX6_came := fun w h => List.mem_cons_of_mem _ (List.mem_append_left _ (List.mem_append_right _ h))
set_option maxHeartbeats 4000000 in
set_option maxRecDepth 100000 in
theorem c_X6_came (l : Launch) (D : va_G) (ty : TY) (h0 : Nat) (r0 : Nat → Nat) (a1 : Nat → Nat) (a2 : Nat → Nat) (a6 : Nat → Nat) (z1 : Ob) (z2 : Ob) (z6 : Ob) (o0 : Int32) (o1 : Ob) (hf : f_X6_came z1 z2 z6 = some (o0, o1)) (sz : Nat) : CX l yX6_came wsX6_came rm_X6_came ([.ref h0] : List Value) D ty (fl [oX6 h0 r0, oX1 ty (r0 1) a1 z1, oX1 ty (r0 2) a2 z2, oX2 ty (r0 6) a6 z6]) sz (qI D o0 (fl [oX6 h0 r0, oX1 ty (r0 1) a1 z1, oX1 ty (r0 2) a2 o1, oX2 ty (r0 6) a6 z6])) 0 0 := by
  refine CX_of (cc := cX6_came) (maxL := 3) (ret := (some .int)) (C := RX6) (by decide) rfl rfl (Nat.le_of_ble_eq_true rfl) ?_
  intro p e s m below meth c A ls F hr hlk _ hK hP hD hS hA hl
  have hx := F.1
  have hb := F.2.1
  replace hl : lv_has ls 3 [(0, .ref h0)] := hl
  unfold f_X6_came at hf
  refine lv_iconst (v := (0 : Int32)) hx hb dX6_came_0 (by decide) ?_
  refine lv_istore_n (lv' := [(1, .int (0 : Int32)), (0, .ref h0)]) hx hb dX6_came_1 rfl hl (by decide) rfl (fun ls hl => ?_)
  refine lv_iconst (v := (0 : Int32)) hx hb dX6_came_2 (by decide) ?_
  refine lv_istore_n (lv' := [(2, .int (0 : Int32)), (1, .int (0 : Int32)), (0, .ref h0)]) hx hb dX6_came_3 rfl hl (by decide) rfl (fun ls hl => ?_)
  have L_4 : ∀ (n : Nat) (y1 : Int32) (y2 : Int32) (w2 : Ob) (H : Heap) (locs : List Loc) (ls : Array Slot), va_P D vwC (fl [oX6 h0 r0, oX1 ty (r0 1) a1 z1, oX1 ty (r0 2) a2 w2, oX2 ty (r0 6) a6 z6]) H → va_D A (fl [oX6 h0 r0, oX1 ty (r0 1) a1 z1, oX1 ty (r0 2) a2 w2, oX2 ty (r0 6) a6 z6]) → va_S A s.heap H locs → lv_has ls 3 [(0, .ref h0), (1, .int y1), (2, .int y2)] → fuel3 (b_X6_came_4 z1 z6) n y1 y2 w2 = some (o0, o1) → W p l e rm_X6_came s m ([.ref h0] : List Value).toArray below meth c H locs 0 0 (MQ below (qI D o0 (fl [oX6 h0 r0, oX1 ty (r0 1) a1 z1, oX1 ty (r0 2) a2 o1, oX2 ty (r0 6) a6 z6]) A) ([.ref h0] : List Value).toArray s 0 0 A) (F0 m 4 ls []) := by
    intro n
    induction n with
    | zero => intro y1 y2 w2 H locs ls hP hD hS hl hf; cases hf
    | succ n ih_4 =>
      intro y1 y2 w2 H locs ls hP hD hS hl hf
      replace hf : b_X6_came_4 z1 z6 (fuel3 (b_X6_came_4 z1 z6) n) y1 y2 w2 = some (o0, o1) := hf
      generalize fuel3 (b_X6_came_4 z1 z6) n = r_4 at ih_4 hf
      unfold b_X6_came_4 at hf
      have J_33 : ∀ (y1 : Int32) (y2 : Int32) (w2 : Ob) (H : Heap) (locs : List Loc) (ls : Array Slot), va_P D vwC (fl [oX6 h0 r0, oX1 ty (r0 1) a1 z1, oX1 ty (r0 2) a2 w2, oX2 ty (r0 6) a6 z6]) H → va_D A (fl [oX6 h0 r0, oX1 ty (r0 1) a1 z1, oX1 ty (r0 2) a2 w2, oX2 ty (r0 6) a6 z6]) → va_S A s.heap H locs → lv_has ls 3 [(0, .ref h0), (1, .int y1), (2, .int y2)] → j_X6_came_33 z1 z6 r_4 y1 y2 w2 = some (o0, o1) → W p l e rm_X6_came s m ([.ref h0] : List Value).toArray below meth c H locs 0 0 (MQ below (qI D o0 (fl [oX6 h0 r0, oX1 ty (r0 1) a1 z1, oX1 ty (r0 2) a2 o1, oX2 ty (r0 6) a6 z6]) A) ([.ref h0] : List Value).toArray s 0 0 A) (F0 m 33 ls []) := by
        intro y1 y2 w2 H locs ls hP hD hS hl hf
        unfold j_X6_came_33 at hf
        obtain ⟨x1, ex⟩ : ∃ y : Int32, y = (y2 + (1 : Int32)) := ⟨_, rfl⟩
        replace hf := bnd_at hf ex
        refine lv_iinc (v := x1) (lv' := [(2, .int x1), (0, .ref h0), (1, .int y1)]) hx hb dX6_came_33 hl (k := 2) rfl (by rw [ex]; rfl) (by decide) rfl (fun ls hl => ?_)
        clear ex
        refine lv_goto (tgt := 4) hx hb dX6_came_36 (by decide) ?_
        exact ih_4 y1 x1 w2 _ _ _ hP hD hS (lv_sub hl [1, 2, 0] rfl) hf
      refine lv_iload_n hx hb dX6_came_4 rfl (lv_at hl 2 rfl) ?_
      refine lv_aload_n hx hb dX6_came_5 rfl (lv_at hl 0 rfl) ?_
      refine va_get (D := D) (ci := 6) (C := RX6) (T := TX6) (N := 8) hx hb F.2.2.2.2 in_X6_came_X6 F.2.2.2.1 hK.1 hP 0 rfl rfl 1 (Nat.le_of_ble_eq_true rfl) (F.2.2.2.2 (.fieldLink RX6 19 "LouderRoom" "now" "LLouderRoom$Crowd;") (List.mem_of_getElem? (i := 1) rfl)) (fun _ h9 => h9) rfl dX6_came_6 ?_
      refine va_getN (D := D) (ci := 1) (C := RX1) (T := TX1) (N := 12) hx hb F.2.2.2.2 in_X6_came_X1 F.2.2.2.1 hK.1 hP 1 rfl rfl 6 (Nat.le_of_ble_eq_true rfl) (KN.use hK 9 (w := .fieldLinkNest RX6 79 "LouderRoom$Crowd" "rings" "I" "LouderRoom") rfl _) (fun _ h9 => h9) rfl dX6_came_9 ?_
      refine lv_icmp_gt (tgt := 39) hx hb dX6_came_12 (by decide) (fun hc => ?_) (fun hc => ?_)
      · replace hf := ite_t hf hc
        refine lv_iload_n hx hb dX6_came_39 rfl (lv_at hl 1 rfl) ?_
        obtain hf := hf
        obtain ⟨e0, e1⟩ := tup2 hf
        rw [e1] at hP hD
        exact CX_i F hr hlk hP hD hS e0 dX6_came_40
      · replace hf := ite_f hf hc
        refine lv_aload_n hx hb dX6_came_15 rfl (lv_at hl 0 rfl) ?_
        refine lv_iload_n hx hb dX6_came_16 rfl (lv_at hl 2 rfl) ?_
        obtain ⟨g2, hv, hf⟩ := obd hf
        have hp1 : List.Perm [oX6 h0 r0, oX1 ty (r0 1) a1 z1, oX1 ty (r0 2) a2 w2, oX2 ty (r0 6) a6 z6] ([oX6 h0 r0, oX1 ty (r0 1) a1 z1, oX1 ty (r0 2) a2 w2] ++ [oX2 ty (r0 6) a6 z6]) := (List.Perm.refl _)
        refine cv_call (os := [oX6 h0 r0, oX1 ty (r0 1) a1 z1, oX1 ty (r0 2) a2 w2, oX2 ty (r0 6) a6 z6]) (oc := [oX6 h0 r0, oX1 ty (r0 1) a1 z1, oX1 ty (r0 2) a2 w2]) (oc' := [oX6 h0 r0, oX1 ty (r0 1) a1 z1, oX1 ty (r0 2) a2 g2]) (or_ := [oX2 ty (r0 6) a6 z6]) (os' := [oX6 h0 r0, oX1 ty (r0 1) a1 z1, oX1 ty (r0 2) a2 g2, oX2 ty (r0 6) a6 z6]) (va_runV (As := [.int y2]) (rest := []) F (c_X6_tryFirst l D ty h0 r0 a1 a2 _ _ _ _ hv _) (cwV 1 F.2.2.2.2 gX6_came_X6_tryFirst rfl rfl rfl ⟨rfl, hd_X6_tryFirst⟩ ⟨Nat.le_of_ble_eq_true rfl, Nat.le_of_ble_eq_true rfl⟩) (pre_v hK hP hD hp1 rfl rfl rfl) rfl rfl hl.1 rfl (lv_room (Nat.le_of_ble_eq_true rfl)) dX6_came_17 ⟨Nat.zero_le _, Nat.zero_le _⟩) hp1 (List.Perm.refl _) hP hD hS hA (fun H locs hP hD hS => ?_)
        clear hp1 hv
        refine lv_aload_n hx hb dX6_came_20 rfl (lv_at hl 0 rfl) ?_
        obtain ⟨v3, g4, hv, hf⟩ := obd2 hf
        have hp1 : List.Perm [oX6 h0 r0, oX1 ty (r0 1) a1 z1, oX1 ty (r0 2) a2 g2, oX2 ty (r0 6) a6 z6] ([oX6 h0 r0, oX1 ty (r0 2) a2 g2, oX2 ty (r0 6) a6 z6] ++ [oX1 ty (r0 1) a1 z1]) := ((List.Perm.cons _ ((List.perm_middle (a := (oX1 ty (r0 2) a2 g2 : va_W)) (l₁ := ([oX1 ty (r0 1) a1 z1] : List va_W)) (l₂ := ([oX2 ty (r0 6) a6 z6] : List va_W))).trans (List.Perm.cons _ (List.perm_middle (a := (oX2 ty (r0 6) a6 z6 : va_W)) (l₁ := ([oX1 ty (r0 1) a1 z1] : List va_W)) (l₂ := ([] : List va_W)))))) : List.Perm ([oX6 h0 r0, oX1 ty (r0 1) a1 z1, oX1 ty (r0 2) a2 g2, oX2 ty (r0 6) a6 z6] : List va_W) ([oX6 h0 r0, oX1 ty (r0 2) a2 g2, oX2 ty (r0 6) a6 z6, oX1 ty (r0 1) a1 z1] : List va_W))
        refine ci_call (out := v3) (os := [oX6 h0 r0, oX1 ty (r0 1) a1 z1, oX1 ty (r0 2) a2 g2, oX2 ty (r0 6) a6 z6]) (oc := [oX6 h0 r0, oX1 ty (r0 2) a2 g2, oX2 ty (r0 6) a6 z6]) (oc' := [oX6 h0 r0, oX1 ty (r0 2) a2 g4, oX2 ty (r0 6) a6 z6]) (or_ := [oX1 ty (r0 1) a1 z1]) (os' := [oX6 h0 r0, oX1 ty (r0 1) a1 z1, oX1 ty (r0 2) a2 g4, oX2 ty (r0 6) a6 z6]) (va_runV (As := []) (rest := []) F (c_X6_trialFitsMeters l D ty h0 r0 a2 a6 _ _ _ _ hv _) (cwV 0 F.2.2.2.2 gX6_came_X6_trialFitsMeters rfl rfl rfl ⟨rfl, hd_X6_trialFitsMeters⟩ ⟨Nat.le_of_ble_eq_true rfl, Nat.le_of_ble_eq_true rfl⟩) (pre_v hK hP hD hp1 rfl rfl rfl) rfl rfl hl.1 rfl (lv_room (Nat.le_of_ble_eq_true rfl)) dX6_came_21 ⟨Nat.zero_le _, Nat.zero_le _⟩) hp1 ((List.Perm.cons _ (List.perm_middle (a := (oX1 ty (r0 1) a1 z1 : va_W)) (l₁ := ([oX1 ty (r0 2) a2 g4, oX2 ty (r0 6) a6 z6] : List va_W)) (l₂ := ([] : List va_W)))) : List.Perm ([oX6 h0 r0, oX1 ty (r0 2) a2 g4, oX2 ty (r0 6) a6 z6, oX1 ty (r0 1) a1 z1] : List va_W) ([oX6 h0 r0, oX1 ty (r0 1) a1 z1, oX1 ty (r0 2) a2 g4, oX2 ty (r0 6) a6 z6] : List va_W)) hP hD hS hA (fun H locs hP hD hS => ?_)
        clear hp1 hv
        refine lv_if_eq (tgt := 33) hx hb dX6_came_24 (by decide) (fun hc => ?_) (fun hc => ?_)
        · replace hf := ite_t hf hc
          exact J_33 y1 y2 g4 _ _ _ hP hD hS (lv_sub hl [0, 1, 2] rfl) hf
        · replace hf := ite_f hf hc
          refine lv_iload_n hx hb dX6_came_27 rfl (lv_at hl 1 rfl) ?_
          refine lv_iconst (v := (1 : Int32)) hx hb dX6_came_28 (by decide) ?_
          refine lv_iload_n hx hb dX6_came_29 rfl (lv_at hl 2 rfl) ?_
          refine lv_ishl hx hb dX6_came_30 ?_
          refine lv_ior hx hb dX6_came_31 ?_
          refine lv_topi (fun x5 ex => ?_)
          replace hf := bnd_at hf ex; clear ex
          refine lv_istore_n (lv' := [(1, .int x5), (0, .ref h0), (2, .int y2)]) hx hb dX6_came_32 rfl hl (by decide) rfl (fun ls hl => ?_)
          exact J_33 x5 y2 g4 _ _ _ hP hD hS (lv_sub hl [1, 0, 2] rfl) hf
  exact L_4 FU (0 : Int32) (0 : Int32) z2 _ _ _ hP hD hS (lv_sub hl [2, 1, 0] rfl) hf
def f_X6_keep (z1 : Ob) (z7 : AS) (p1 : Int32) : Option (Int32 × AS) := (if p1 < 0 then some ((-1 : Int32), z7) else (if p1 < (2 : Int32) then (f_X3_put z7 z1 p1).bind (fun g1 => some ((z1.1 6), g1)) else some ((-1 : Int32), z7)))
abbrev rm_X6_keep : Room := { frames := 3, cells := 0, slots := 0, locals := 65 }
theorem hd_X6_keep : yX6_keep.cls ≠ "java/lang/invoke/MethodHandle" ∧ yX6_keep.cls ≠ "java/lang/invoke/VarHandle" ∧ (parseMethodDescriptor yX6_keep.desc).map (fun d => d.parameters.length) = some 1 := by decide +kernel
theorem in_X6_keep_X6 : ∀ w ∈ wsX60, w ∈ wsX6_keep := fun w h => List.mem_cons_of_mem _ (List.mem_append_left _ (List.mem_append_left _ (List.mem_append_right _ h)))
theorem in_X6_keep_X1 : ∀ w ∈ wsX10, w ∈ wsX6_keep := fun w h => List.mem_cons_of_mem _ (List.mem_append_left _ (List.mem_append_right _ h))
set_option maxHeartbeats 4000000 in
set_option maxRecDepth 100000 in
theorem c_X6_keep (l : Launch) (D : va_G) (ty : TY) (h0 : Nat) (r0 : Nat → Nat) (a1 : Nat → Nat) (aa7 : Nat) (z1 : Ob) (z7 : AS) (p1 : Int32) (o0 : Int32) (o1 : AS) (hf : f_X6_keep z1 z7 p1 = some (o0, o1)) (sz : Nat) : CX l yX6_keep wsX6_keep rm_X6_keep ([.ref h0, .int p1] : List Value) D ty (fl [oX6 h0 r0, oX1 ty (r0 1) a1 z1, oX3 ty (r0 7) aa7 z7]) sz (qI D o0 (fl [oX6 h0 r0, oX1 ty (r0 1) a1 z1, oX3 ty (r0 7) aa7 o1])) 0 0 := by
  refine CX_of (cc := cX6_keep) (maxL := 2) (ret := (some .int)) (C := RX6) (by decide) rfl rfl (Nat.le_of_ble_eq_true rfl) ?_
  intro p e s m below meth c A ls F hr hlk _ hK hP hD hS hA hl
  have hx := F.1
  have hb := F.2.1
  replace hl : lv_has ls 2 [(0, .ref h0), (1, .int p1)] := hl
  unfold f_X6_keep at hf
  refine lv_iload_n hx hb dX6_keep_0 rfl (lv_at hl 1 rfl) ?_
  refine lv_if_lt (tgt := 9) hx hb dX6_keep_1 (by decide) (fun hc => ?_) (fun hc => ?_)
  · replace hf := ite_t hf hc
    refine lv_iconst (v := (-1 : Int32)) hx hb dX6_keep_9 (by decide) ?_
    obtain hf := hf
    obtain ⟨e0, e1⟩ := tup2 hf
    rw [e1] at hP hD
    exact CX_i F hr hlk hP hD hS e0 dX6_keep_10
  · replace hf := ite_f hf hc
    refine lv_iload_n hx hb dX6_keep_4 rfl (lv_at hl 1 rfl) ?_
    refine lv_iconst (v := (2 : Int32)) hx hb dX6_keep_5 (by decide) ?_
    refine lv_icmp_lt (tgt := 11) hx hb dX6_keep_6 (by decide) (fun hc => ?_) (fun hc => ?_)
    · replace hf := ite_t hf hc
      refine lv_aload_n hx hb dX6_keep_11 rfl (lv_at hl 0 rfl) ?_
      refine va_get (D := D) (ci := 6) (C := RX6) (T := TX6) (N := 8) hx hb F.2.2.2.2 in_X6_keep_X6 F.2.2.2.1 hK.1 hP 0 rfl rfl 7 (Nat.le_of_ble_eq_true rfl) (F.2.2.2.2 (.fieldLink RX6 53 "LouderRoom" "slots" "LLouderRoom$Slots;") (List.mem_of_getElem? (i := 1) rfl)) (fun _ h9 => h9) rfl dX6_keep_12 ?_
      refine lv_iload_n hx hb dX6_keep_15 rfl (lv_at hl 1 rfl) ?_
      refine lv_aload_n hx hb dX6_keep_16 rfl (lv_at hl 0 rfl) ?_
      refine va_get (D := D) (ci := 6) (C := RX6) (T := TX6) (N := 8) hx hb F.2.2.2.2 in_X6_keep_X6 F.2.2.2.1 hK.1 hP 0 rfl rfl 1 (Nat.le_of_ble_eq_true rfl) (F.2.2.2.2 (.fieldLink RX6 19 "LouderRoom" "now" "LLouderRoom$Crowd;") (List.mem_of_getElem? (i := 2) rfl)) (fun _ h9 => h9) rfl dX6_keep_17 ?_
      obtain ⟨g1, hv, hf⟩ := obd hf
      have hp1 : List.Perm [oX6 h0 r0, oX1 ty (r0 1) a1 z1, oX3 ty (r0 7) aa7 z7] ([oX3 ty (r0 7) aa7 z7, oX1 ty (r0 1) a1 z1] ++ [oX6 h0 r0]) := (((List.perm_middle (a := (oX3 ty (r0 7) aa7 z7 : va_W)) (l₁ := ([oX6 h0 r0, oX1 ty (r0 1) a1 z1] : List va_W)) (l₂ := ([] : List va_W))).trans (List.Perm.cons _ (List.perm_middle (a := (oX1 ty (r0 1) a1 z1 : va_W)) (l₁ := ([oX6 h0 r0] : List va_W)) (l₂ := ([] : List va_W))))) : List.Perm ([oX6 h0 r0, oX1 ty (r0 1) a1 z1, oX3 ty (r0 7) aa7 z7] : List va_W) ([oX3 ty (r0 7) aa7 z7, oX1 ty (r0 1) a1 z1, oX6 h0 r0] : List va_W))
      refine cv_call (os := [oX6 h0 r0, oX1 ty (r0 1) a1 z1, oX3 ty (r0 7) aa7 z7]) (oc := [oX3 ty (r0 7) aa7 z7, oX1 ty (r0 1) a1 z1]) (oc' := [oX3 ty (r0 7) aa7 g1, oX1 ty (r0 1) a1 z1]) (or_ := [oX6 h0 r0]) (os' := [oX6 h0 r0, oX1 ty (r0 1) a1 z1, oX3 ty (r0 7) aa7 g1]) (va_runV (As := [.int p1, .ref (r0 1)]) (rest := []) F (c_X3_put l D ty (r0 7) aa7 (r0 1) a1 _ _ _ _ hv _) (cwV 2 F.2.2.2.2 gX6_keep_X3_put rfl rfl rfl ⟨rfl, hd_X3_put⟩ ⟨Nat.le_of_ble_eq_true rfl, Nat.le_of_ble_eq_true rfl⟩) (pre_v hK hP hD hp1 rfl rfl rfl) rfl rfl hl.1 rfl (lv_room (Nat.le_of_ble_eq_true rfl)) dX6_keep_20 ⟨Nat.zero_le _, Nat.zero_le _⟩) hp1 (((List.perm_middle (a := (oX6 h0 r0 : va_W)) (l₁ := ([oX3 ty (r0 7) aa7 g1, oX1 ty (r0 1) a1 z1] : List va_W)) (l₂ := ([] : List va_W))).trans (List.Perm.cons _ (List.perm_middle (a := (oX1 ty (r0 1) a1 z1 : va_W)) (l₁ := ([oX3 ty (r0 7) aa7 g1] : List va_W)) (l₂ := ([] : List va_W))))) : List.Perm ([oX3 ty (r0 7) aa7 g1, oX1 ty (r0 1) a1 z1, oX6 h0 r0] : List va_W) ([oX6 h0 r0, oX1 ty (r0 1) a1 z1, oX3 ty (r0 7) aa7 g1] : List va_W)) hP hD hS hA (fun H locs hP hD hS => ?_)
      clear hp1 hv
      refine lv_aload_n hx hb dX6_keep_23 rfl (lv_at hl 0 rfl) ?_
      refine va_get (D := D) (ci := 6) (C := RX6) (T := TX6) (N := 8) hx hb F.2.2.2.2 in_X6_keep_X6 F.2.2.2.1 hK.1 hP 0 rfl rfl 1 (Nat.le_of_ble_eq_true rfl) (F.2.2.2.2 (.fieldLink RX6 19 "LouderRoom" "now" "LLouderRoom$Crowd;") (List.mem_of_getElem? (i := 2) rfl)) (fun _ h9 => h9) rfl dX6_keep_24 ?_
      refine va_getN (D := D) (ci := 1) (C := RX1) (T := TX1) (N := 12) hx hb F.2.2.2.2 in_X6_keep_X1 F.2.2.2.1 hK.1 hP 1 rfl rfl 6 (Nat.le_of_ble_eq_true rfl) (KN.use hK 9 (w := .fieldLinkNest RX6 79 "LouderRoom$Crowd" "rings" "I" "LouderRoom") rfl _) (fun _ h9 => h9) rfl dX6_keep_27 ?_
      obtain hf := hf
      obtain ⟨e0, e1⟩ := tup2 hf
      rw [e1] at hP hD
      exact CX_i F hr hlk hP hD hS e0 dX6_keep_30
    · replace hf := ite_f hf hc
      refine lv_iconst (v := (-1 : Int32)) hx hb dX6_keep_9 (by decide) ?_
      obtain hf := hf
      obtain ⟨e0, e1⟩ := tup2 hf
      rw [e1] at hP hD
      exact CX_i F hr hlk hP hD hS e0 dX6_keep_10
def f_X6_again (z1 : Ob) (z5 : AS) (z7 : AS) (p1 : Int32) : Option (Int32 × Ob × AS) := (if p1 < 0 then some ((-1 : Int32), z1, z5) else (if p1 < (2 : Int32) then (f_X3_isKept z7 p1).bind (fun v1 => (if v1 = 0 then some ((-3 : Int32), z1, z5) else (f_X3_at z7 p1).bind (fun v2 => (if v2 = 0 then (f_X1_copyFrom z1 (z7.2 0).2).bind (fun g3 => (f_X0_clear z5).bind (fun g4 => some ((g3.1 6), g3, g4))) else (if v2 = 1 then (f_X1_copyFrom z1 (z7.2 1).2).bind (fun g5 => (f_X0_clear z5).bind (fun g6 => some ((g5.1 6), g5, g6))) else none))))) else some ((-1 : Int32), z1, z5)))
abbrev rm_X6_again : Room := { frames := 2, cells := 0, slots := 0, locals := 43 }
theorem hd_X6_again : yX6_again.cls ≠ "java/lang/invoke/MethodHandle" ∧ yX6_again.cls ≠ "java/lang/invoke/VarHandle" ∧ (parseMethodDescriptor yX6_again.desc).map (fun d => d.parameters.length) = some 1 := by decide +kernel
theorem in_X6_again_X6 : ∀ w ∈ wsX60, w ∈ wsX6_again := fun w h => List.mem_cons_of_mem _ (List.mem_append_left _ (List.mem_append_left _ (List.mem_append_left _ (List.mem_append_right _ h))))
theorem in_X6_again_X1 : ∀ w ∈ wsX10, w ∈ wsX6_again := fun w h => List.mem_cons_of_mem _ (List.mem_append_left _ (List.mem_append_left _ (List.mem_append_right _ h)))
set_option maxHeartbeats 4000000 in
set_option maxRecDepth 100000 in
theorem c_X6_again (l : Launch) (D : va_G) (ty : TY) (h0 : Nat) (r0 : Nat → Nat) (a1 : Nat → Nat) (aa5 : Nat) (aa7 : Nat) (z1 : Ob) (z5 : AS) (z7 : AS) (p1 : Int32) (o0 : Int32) (o1 : Ob) (o2 : AS) (hf : f_X6_again z1 z5 z7 p1 = some (o0, o1, o2)) (sz : Nat) : CX l yX6_again wsX6_again rm_X6_again ([.ref h0, .int p1] : List Value) D ty (fl [oX6 h0 r0, oX1 ty (r0 1) a1 z1, oX0 ty (r0 5) aa5 z5, oX3 ty (r0 7) aa7 z7]) sz (qI D o0 (fl [oX6 h0 r0, oX1 ty (r0 1) a1 o1, oX0 ty (r0 5) aa5 o2, oX3 ty (r0 7) aa7 z7])) 0 0 := by
  refine CX_of (cc := cX6_again) (maxL := 2) (ret := (some .int)) (C := RX6) (by decide) rfl rfl (Nat.le_of_ble_eq_true rfl) ?_
  intro p e s m below meth c A ls F hr hlk _ hK hP hD hS hA hl
  have hx := F.1
  have hb := F.2.1
  replace hl : lv_has ls 2 [(0, .ref h0), (1, .int p1)] := hl
  replace hP : va_P D vwC (fl [oX6 h0 r0, oX1 ty (r0 1) a1 z1, oX0 ty (r0 5) aa5 z5, oXS ty (r0 7) aa7 z7, oCB ty (z7.2 0), oCB ty (z7.2 1)]) s.heap := hP
  replace hD : va_D A (fl [oX6 h0 r0, oX1 ty (r0 1) a1 z1, oX0 ty (r0 5) aa5 z5, oXS ty (r0 7) aa7 z7, oCB ty (z7.2 0), oCB ty (z7.2 1)]) := hD
  unfold f_X6_again at hf
  refine lv_iload_n hx hb dX6_again_0 rfl (lv_at hl 1 rfl) ?_
  refine lv_if_lt (tgt := 9) hx hb dX6_again_1 (by decide) (fun hc => ?_) (fun hc => ?_)
  · replace hf := ite_t hf hc
    refine lv_iconst (v := (-1 : Int32)) hx hb dX6_again_9 (by decide) ?_
    obtain hf := hf
    obtain ⟨e0, e1, e2⟩ := tup3 hf
    rw [e1] at hP hD
    rw [e2] at hP hD
    exact CX_i F hr hlk hP hD hS e0 dX6_again_10
  · replace hf := ite_f hf hc
    refine lv_iload_n hx hb dX6_again_4 rfl (lv_at hl 1 rfl) ?_
    refine lv_iconst (v := (2 : Int32)) hx hb dX6_again_5 (by decide) ?_
    refine lv_icmp_lt (tgt := 11) hx hb dX6_again_6 (by decide) (fun hc => ?_) (fun hc => ?_)
    · replace hf := ite_t hf hc
      refine lv_aload_n hx hb dX6_again_11 rfl (lv_at hl 0 rfl) ?_
      refine va_get (D := D) (ci := 6) (C := RX6) (T := TX6) (N := 8) hx hb F.2.2.2.2 in_X6_again_X6 F.2.2.2.1 hK.1 hP 0 rfl rfl 7 (Nat.le_of_ble_eq_true rfl) (F.2.2.2.2 (.fieldLink RX6 53 "LouderRoom" "slots" "LLouderRoom$Slots;") (List.mem_of_getElem? (i := 1) rfl)) (fun _ h9 => h9) rfl dX6_again_12 ?_
      refine lv_iload_n hx hb dX6_again_15 rfl (lv_at hl 1 rfl) ?_
      obtain ⟨v1, hv, hf⟩ := obd hf
      have hp1 : List.Perm [oX6 h0 r0, oX1 ty (r0 1) a1 z1, oX0 ty (r0 5) aa5 z5, oXS ty (r0 7) aa7 z7, oCB ty (z7.2 0), oCB ty (z7.2 1)] ([oXS ty (r0 7) aa7 z7, oCB ty (z7.2 0), oCB ty (z7.2 1)] ++ [oX6 h0 r0, oX1 ty (r0 1) a1 z1, oX0 ty (r0 5) aa5 z5]) := (((List.perm_middle (a := (oXS ty (r0 7) aa7 z7 : va_W)) (l₁ := ([oX6 h0 r0, oX1 ty (r0 1) a1 z1, oX0 ty (r0 5) aa5 z5] : List va_W)) (l₂ := ([oCB ty (z7.2 0), oCB ty (z7.2 1)] : List va_W))).trans (List.Perm.cons _ ((List.perm_middle (a := (oCB ty (z7.2 0) : va_W)) (l₁ := ([oX6 h0 r0, oX1 ty (r0 1) a1 z1, oX0 ty (r0 5) aa5 z5] : List va_W)) (l₂ := ([oCB ty (z7.2 1)] : List va_W))).trans (List.Perm.cons _ (List.perm_middle (a := (oCB ty (z7.2 1) : va_W)) (l₁ := ([oX6 h0 r0, oX1 ty (r0 1) a1 z1, oX0 ty (r0 5) aa5 z5] : List va_W)) (l₂ := ([] : List va_W))))))) : List.Perm ([oX6 h0 r0, oX1 ty (r0 1) a1 z1, oX0 ty (r0 5) aa5 z5, oXS ty (r0 7) aa7 z7, oCB ty (z7.2 0), oCB ty (z7.2 1)] : List va_W) ([oXS ty (r0 7) aa7 z7, oCB ty (z7.2 0), oCB ty (z7.2 1), oX6 h0 r0, oX1 ty (r0 1) a1 z1, oX0 ty (r0 5) aa5 z5] : List va_W))
      refine ci_call (out := v1) (os := [oX6 h0 r0, oX1 ty (r0 1) a1 z1, oX0 ty (r0 5) aa5 z5, oXS ty (r0 7) aa7 z7, oCB ty (z7.2 0), oCB ty (z7.2 1)]) (oc := [oXS ty (r0 7) aa7 z7, oCB ty (z7.2 0), oCB ty (z7.2 1)]) (oc' := [oXS ty (r0 7) aa7 z7, oCB ty (z7.2 0), oCB ty (z7.2 1)]) (or_ := [oX6 h0 r0, oX1 ty (r0 1) a1 z1, oX0 ty (r0 5) aa5 z5]) (os' := [oX6 h0 r0, oX1 ty (r0 1) a1 z1, oX0 ty (r0 5) aa5 z5, oXS ty (r0 7) aa7 z7, oCB ty (z7.2 0), oCB ty (z7.2 1)]) (va_runV (As := [.int p1]) (rest := []) F (c_X3_isKept l D ty (r0 7) aa7 _ _ _ hv _) (cwV 1 F.2.2.2.2 gX6_again_X3_isKept rfl rfl rfl ⟨rfl, hd_X3_isKept⟩ ⟨Nat.le_of_ble_eq_true rfl, Nat.le_of_ble_eq_true rfl⟩) (pre_v (oc := [oXS ty (r0 7) aa7 z7, oCB ty (z7.2 0), oCB ty (z7.2 1)]) hK hP hD hp1 rfl rfl rfl) rfl rfl hl.1 rfl (lv_room (Nat.le_of_ble_eq_true rfl)) dX6_again_16 ⟨Nat.zero_le _, Nat.zero_le _⟩) hp1 (((List.perm_middle (a := (oX6 h0 r0 : va_W)) (l₁ := ([oXS ty (r0 7) aa7 z7, oCB ty (z7.2 0), oCB ty (z7.2 1)] : List va_W)) (l₂ := ([oX1 ty (r0 1) a1 z1, oX0 ty (r0 5) aa5 z5] : List va_W))).trans (List.Perm.cons _ ((List.perm_middle (a := (oX1 ty (r0 1) a1 z1 : va_W)) (l₁ := ([oXS ty (r0 7) aa7 z7, oCB ty (z7.2 0), oCB ty (z7.2 1)] : List va_W)) (l₂ := ([oX0 ty (r0 5) aa5 z5] : List va_W))).trans (List.Perm.cons _ (List.perm_middle (a := (oX0 ty (r0 5) aa5 z5 : va_W)) (l₁ := ([oXS ty (r0 7) aa7 z7, oCB ty (z7.2 0), oCB ty (z7.2 1)] : List va_W)) (l₂ := ([] : List va_W))))))) : List.Perm ([oXS ty (r0 7) aa7 z7, oCB ty (z7.2 0), oCB ty (z7.2 1), oX6 h0 r0, oX1 ty (r0 1) a1 z1, oX0 ty (r0 5) aa5 z5] : List va_W) ([oX6 h0 r0, oX1 ty (r0 1) a1 z1, oX0 ty (r0 5) aa5 z5, oXS ty (r0 7) aa7 z7, oCB ty (z7.2 0), oCB ty (z7.2 1)] : List va_W)) hP hD hS hA (fun H locs hP hD hS => ?_)
      clear hp1 hv
      refine lv_if_ne (tgt := 25) hx hb dX6_again_19 (by decide) (fun hc => ?_) (fun hc => ?_)
      · replace hf := ite_f hf hc
        refine lv_aload_n hx hb dX6_again_25 rfl (lv_at hl 0 rfl) ?_
        refine va_get (D := D) (ci := 6) (C := RX6) (T := TX6) (N := 8) hx hb F.2.2.2.2 in_X6_again_X6 F.2.2.2.1 hK.1 hP 0 rfl rfl 1 (Nat.le_of_ble_eq_true rfl) (F.2.2.2.2 (.fieldLink RX6 19 "LouderRoom" "now" "LLouderRoom$Crowd;") (List.mem_of_getElem? (i := 2) rfl)) (fun _ h9 => h9) rfl dX6_again_26 ?_
        refine lv_aload_n hx hb dX6_again_29 rfl (lv_at hl 0 rfl) ?_
        refine va_get (D := D) (ci := 6) (C := RX6) (T := TX6) (N := 8) hx hb F.2.2.2.2 in_X6_again_X6 F.2.2.2.1 hK.1 hP 0 rfl rfl 7 (Nat.le_of_ble_eq_true rfl) (F.2.2.2.2 (.fieldLink RX6 53 "LouderRoom" "slots" "LLouderRoom$Slots;") (List.mem_of_getElem? (i := 1) rfl)) (fun _ h9 => h9) rfl dX6_again_30 ?_
        refine lv_iload_n hx hb dX6_again_33 rfl (lv_at hl 1 rfl) ?_
        obtain ⟨v2, hv, hf⟩ := obd hf
        have hp1 : List.Perm [oX6 h0 r0, oX1 ty (r0 1) a1 z1, oX0 ty (r0 5) aa5 z5, oXS ty (r0 7) aa7 z7, oCB ty (z7.2 0), oCB ty (z7.2 1)] ([oXS ty (r0 7) aa7 z7, oCB ty (z7.2 0), oCB ty (z7.2 1)] ++ [oX6 h0 r0, oX1 ty (r0 1) a1 z1, oX0 ty (r0 5) aa5 z5]) := (((List.perm_middle (a := (oXS ty (r0 7) aa7 z7 : va_W)) (l₁ := ([oX6 h0 r0, oX1 ty (r0 1) a1 z1, oX0 ty (r0 5) aa5 z5] : List va_W)) (l₂ := ([oCB ty (z7.2 0), oCB ty (z7.2 1)] : List va_W))).trans (List.Perm.cons _ ((List.perm_middle (a := (oCB ty (z7.2 0) : va_W)) (l₁ := ([oX6 h0 r0, oX1 ty (r0 1) a1 z1, oX0 ty (r0 5) aa5 z5] : List va_W)) (l₂ := ([oCB ty (z7.2 1)] : List va_W))).trans (List.Perm.cons _ (List.perm_middle (a := (oCB ty (z7.2 1) : va_W)) (l₁ := ([oX6 h0 r0, oX1 ty (r0 1) a1 z1, oX0 ty (r0 5) aa5 z5] : List va_W)) (l₂ := ([] : List va_W))))))) : List.Perm ([oX6 h0 r0, oX1 ty (r0 1) a1 z1, oX0 ty (r0 5) aa5 z5, oXS ty (r0 7) aa7 z7, oCB ty (z7.2 0), oCB ty (z7.2 1)] : List va_W) ([oXS ty (r0 7) aa7 z7, oCB ty (z7.2 0), oCB ty (z7.2 1), oX6 h0 r0, oX1 ty (r0 1) a1 z1, oX0 ty (r0 5) aa5 z5] : List va_W))
        refine cr_call (out := (z7.2 v2).1.1) (os := [oX6 h0 r0, oX1 ty (r0 1) a1 z1, oX0 ty (r0 5) aa5 z5, oXS ty (r0 7) aa7 z7, oCB ty (z7.2 0), oCB ty (z7.2 1)]) (oc := [oXS ty (r0 7) aa7 z7, oCB ty (z7.2 0), oCB ty (z7.2 1)]) (oc' := [oXS ty (r0 7) aa7 z7, oCB ty (z7.2 0), oCB ty (z7.2 1)]) (or_ := [oX6 h0 r0, oX1 ty (r0 1) a1 z1, oX0 ty (r0 5) aa5 z5]) (os' := [oX6 h0 r0, oX1 ty (r0 1) a1 z1, oX0 ty (r0 5) aa5 z5, oXS ty (r0 7) aa7 z7, oCB ty (z7.2 0), oCB ty (z7.2 1)]) (va_runV (As := [.int p1]) (rest := [.ref (r0 1)]) F (c_X3_at l D ty (r0 7) aa7 _ _ _ hv _) (cwV 1 F.2.2.2.2 gX6_again_X3_at rfl rfl rfl ⟨rfl, hd_X3_at⟩ ⟨Nat.le_of_ble_eq_true rfl, Nat.le_of_ble_eq_true rfl⟩) (pre_v (oc := [oXS ty (r0 7) aa7 z7, oCB ty (z7.2 0), oCB ty (z7.2 1)]) hK hP hD hp1 rfl rfl rfl) rfl rfl hl.1 rfl (lv_room (Nat.le_of_ble_eq_true rfl)) dX6_again_34 ⟨Nat.zero_le _, Nat.zero_le _⟩) hp1 (((List.perm_middle (a := (oX6 h0 r0 : va_W)) (l₁ := ([oXS ty (r0 7) aa7 z7, oCB ty (z7.2 0), oCB ty (z7.2 1)] : List va_W)) (l₂ := ([oX1 ty (r0 1) a1 z1, oX0 ty (r0 5) aa5 z5] : List va_W))).trans (List.Perm.cons _ ((List.perm_middle (a := (oX1 ty (r0 1) a1 z1 : va_W)) (l₁ := ([oXS ty (r0 7) aa7 z7, oCB ty (z7.2 0), oCB ty (z7.2 1)] : List va_W)) (l₂ := ([oX0 ty (r0 5) aa5 z5] : List va_W))).trans (List.Perm.cons _ (List.perm_middle (a := (oX0 ty (r0 5) aa5 z5 : va_W)) (l₁ := ([oXS ty (r0 7) aa7 z7, oCB ty (z7.2 0), oCB ty (z7.2 1)] : List va_W)) (l₂ := ([] : List va_W))))))) : List.Perm ([oXS ty (r0 7) aa7 z7, oCB ty (z7.2 0), oCB ty (z7.2 1), oX6 h0 r0, oX1 ty (r0 1) a1 z1, oX0 ty (r0 5) aa5 z5] : List va_W) ([oX6 h0 r0, oX1 ty (r0 1) a1 z1, oX0 ty (r0 5) aa5 z5, oXS ty (r0 7) aa7 z7, oCB ty (z7.2 0), oCB ty (z7.2 1)] : List va_W)) hP hD hS hA (fun H locs hP hD hS => ?_)
        clear hp1 hv
        by_cases hc0 : v2 = 0
        · replace hf := ite_t hf hc0; subst hc0
          obtain ⟨g3, hv, hf⟩ := obd hf
          have hp1 : List.Perm [oX6 h0 r0, oX1 ty (r0 1) a1 z1, oX0 ty (r0 5) aa5 z5, oXS ty (r0 7) aa7 z7, oX1 ty (z7.2 0).1.1 (z7.2 0).1.2 (z7.2 0).2, oCB ty (z7.2 1)] ([oX1 ty (r0 1) a1 z1, oX1 ty (z7.2 0).1.1 (z7.2 0).1.2 (z7.2 0).2] ++ [oX6 h0 r0, oX0 ty (r0 5) aa5 z5, oXS ty (r0 7) aa7 z7, oCB ty (z7.2 1)]) := (((List.perm_middle (a := (oX1 ty (r0 1) a1 z1 : va_W)) (l₁ := ([oX6 h0 r0] : List va_W)) (l₂ := ([oX0 ty (r0 5) aa5 z5, oXS ty (r0 7) aa7 z7, oX1 ty (z7.2 0).1.1 (z7.2 0).1.2 (z7.2 0).2, oCB ty (z7.2 1)] : List va_W))).trans (List.Perm.cons _ (List.perm_middle (a := (oX1 ty (z7.2 0).1.1 (z7.2 0).1.2 (z7.2 0).2 : va_W)) (l₁ := ([oX6 h0 r0, oX0 ty (r0 5) aa5 z5, oXS ty (r0 7) aa7 z7] : List va_W)) (l₂ := ([oCB ty (z7.2 1)] : List va_W))))) : List.Perm ([oX6 h0 r0, oX1 ty (r0 1) a1 z1, oX0 ty (r0 5) aa5 z5, oXS ty (r0 7) aa7 z7, oX1 ty (z7.2 0).1.1 (z7.2 0).1.2 (z7.2 0).2, oCB ty (z7.2 1)] : List va_W) ([oX1 ty (r0 1) a1 z1, oX1 ty (z7.2 0).1.1 (z7.2 0).1.2 (z7.2 0).2, oX6 h0 r0, oX0 ty (r0 5) aa5 z5, oXS ty (r0 7) aa7 z7, oCB ty (z7.2 1)] : List va_W))
          refine cv_call (os := [oX6 h0 r0, oX1 ty (r0 1) a1 z1, oX0 ty (r0 5) aa5 z5, oXS ty (r0 7) aa7 z7, oX1 ty (z7.2 0).1.1 (z7.2 0).1.2 (z7.2 0).2, oCB ty (z7.2 1)]) (oc := [oX1 ty (r0 1) a1 z1, oX1 ty (z7.2 0).1.1 (z7.2 0).1.2 (z7.2 0).2]) (oc' := [oX1 ty (r0 1) a1 g3, oX1 ty (z7.2 0).1.1 (z7.2 0).1.2 (z7.2 0).2]) (or_ := [oX6 h0 r0, oX0 ty (r0 5) aa5 z5, oXS ty (r0 7) aa7 z7, oCB ty (z7.2 1)]) (os' := [oX6 h0 r0, oX1 ty (r0 1) a1 g3, oX0 ty (r0 5) aa5 z5, oXS ty (r0 7) aa7 z7, oX1 ty (z7.2 0).1.1 (z7.2 0).1.2 (z7.2 0).2, oCB ty (z7.2 1)]) (va_runV (As := [.ref (z7.2 0).1.1]) (rest := []) F (c_X1_copyFrom l D ty (r0 1) a1 (z7.2 0).1.1 (z7.2 0).1.2 _ _ _ hv _) (cwV 1 F.2.2.2.2 gX6_again_X1_copyFrom rfl rfl rfl ⟨rfl, hd_X1_copyFrom⟩ ⟨Nat.le_of_ble_eq_true rfl, Nat.le_of_ble_eq_true rfl⟩) (pre_v hK hP hD hp1 rfl rfl rfl) rfl rfl hl.1 rfl (lv_room (Nat.le_of_ble_eq_true rfl)) dX6_again_37 ⟨Nat.zero_le _, Nat.zero_le _⟩) hp1 (((List.perm_middle (a := (oX6 h0 r0 : va_W)) (l₁ := ([oX1 ty (r0 1) a1 g3, oX1 ty (z7.2 0).1.1 (z7.2 0).1.2 (z7.2 0).2] : List va_W)) (l₂ := ([oX0 ty (r0 5) aa5 z5, oXS ty (r0 7) aa7 z7, oCB ty (z7.2 1)] : List va_W))).trans (List.Perm.cons _ (List.Perm.cons _ ((List.perm_middle (a := (oX0 ty (r0 5) aa5 z5 : va_W)) (l₁ := ([oX1 ty (z7.2 0).1.1 (z7.2 0).1.2 (z7.2 0).2] : List va_W)) (l₂ := ([oXS ty (r0 7) aa7 z7, oCB ty (z7.2 1)] : List va_W))).trans (List.Perm.cons _ (List.perm_middle (a := (oXS ty (r0 7) aa7 z7 : va_W)) (l₁ := ([oX1 ty (z7.2 0).1.1 (z7.2 0).1.2 (z7.2 0).2] : List va_W)) (l₂ := ([oCB ty (z7.2 1)] : List va_W)))))))) : List.Perm ([oX1 ty (r0 1) a1 g3, oX1 ty (z7.2 0).1.1 (z7.2 0).1.2 (z7.2 0).2, oX6 h0 r0, oX0 ty (r0 5) aa5 z5, oXS ty (r0 7) aa7 z7, oCB ty (z7.2 1)] : List va_W) ([oX6 h0 r0, oX1 ty (r0 1) a1 g3, oX0 ty (r0 5) aa5 z5, oXS ty (r0 7) aa7 z7, oX1 ty (z7.2 0).1.1 (z7.2 0).1.2 (z7.2 0).2, oCB ty (z7.2 1)] : List va_W)) hP hD hS hA (fun H locs hP hD hS => ?_)
          clear hp1 hv
          refine lv_aload_n hx hb dX6_again_40 rfl (lv_at hl 0 rfl) ?_
          refine va_get (D := D) (ci := 6) (C := RX6) (T := TX6) (N := 8) hx hb F.2.2.2.2 in_X6_again_X6 F.2.2.2.1 hK.1 hP 0 rfl rfl 5 (Nat.le_of_ble_eq_true rfl) (F.2.2.2.2 (.fieldLink RX6 39 "LouderRoom" "acts" "LLouderRoom$Acts;") (List.mem_of_getElem? (i := 3) rfl)) (fun _ h9 => h9) rfl dX6_again_41 ?_
          obtain ⟨g4, hv, hf⟩ := obd hf
          have hp1 : List.Perm [oX6 h0 r0, oX1 ty (r0 1) a1 g3, oX0 ty (r0 5) aa5 z5, oXS ty (r0 7) aa7 z7, oCB ty (z7.2 0), oCB ty (z7.2 1)] ([oX0 ty (r0 5) aa5 z5] ++ [oX6 h0 r0, oX1 ty (r0 1) a1 g3, oXS ty (r0 7) aa7 z7, oCB ty (z7.2 0), oCB ty (z7.2 1)]) := ((List.perm_middle (a := (oX0 ty (r0 5) aa5 z5 : va_W)) (l₁ := ([oX6 h0 r0, oX1 ty (r0 1) a1 g3] : List va_W)) (l₂ := ([oXS ty (r0 7) aa7 z7, oCB ty (z7.2 0), oCB ty (z7.2 1)] : List va_W))) : List.Perm ([oX6 h0 r0, oX1 ty (r0 1) a1 g3, oX0 ty (r0 5) aa5 z5, oXS ty (r0 7) aa7 z7, oCB ty (z7.2 0), oCB ty (z7.2 1)] : List va_W) ([oX0 ty (r0 5) aa5 z5, oX6 h0 r0, oX1 ty (r0 1) a1 g3, oXS ty (r0 7) aa7 z7, oCB ty (z7.2 0), oCB ty (z7.2 1)] : List va_W))
          refine cv_call (os := [oX6 h0 r0, oX1 ty (r0 1) a1 g3, oX0 ty (r0 5) aa5 z5, oXS ty (r0 7) aa7 z7, oCB ty (z7.2 0), oCB ty (z7.2 1)]) (oc := [oX0 ty (r0 5) aa5 z5]) (oc' := [oX0 ty (r0 5) aa5 g4]) (or_ := [oX6 h0 r0, oX1 ty (r0 1) a1 g3, oXS ty (r0 7) aa7 z7, oCB ty (z7.2 0), oCB ty (z7.2 1)]) (os' := [oX6 h0 r0, oX1 ty (r0 1) a1 g3, oX0 ty (r0 5) aa5 g4, oXS ty (r0 7) aa7 z7, oCB ty (z7.2 0), oCB ty (z7.2 1)]) (va_runV (As := []) (rest := []) F (c_X0_clear l D ty (r0 5) aa5 _ _ hv _) (cwV 0 F.2.2.2.2 gX6_again_X0_clear rfl rfl rfl ⟨rfl, hd_X0_clear⟩ ⟨Nat.le_of_ble_eq_true rfl, Nat.le_of_ble_eq_true rfl⟩) (pre_v hK hP hD hp1 rfl rfl rfl) rfl rfl hl.1 rfl (lv_room (Nat.le_of_ble_eq_true rfl)) dX6_again_44 ⟨Nat.zero_le _, Nat.zero_le _⟩) hp1 (((List.perm_middle (a := (oX6 h0 r0 : va_W)) (l₁ := ([oX0 ty (r0 5) aa5 g4] : List va_W)) (l₂ := ([oX1 ty (r0 1) a1 g3, oXS ty (r0 7) aa7 z7, oCB ty (z7.2 0), oCB ty (z7.2 1)] : List va_W))).trans (List.Perm.cons _ (List.perm_middle (a := (oX1 ty (r0 1) a1 g3 : va_W)) (l₁ := ([oX0 ty (r0 5) aa5 g4] : List va_W)) (l₂ := ([oXS ty (r0 7) aa7 z7, oCB ty (z7.2 0), oCB ty (z7.2 1)] : List va_W))))) : List.Perm ([oX0 ty (r0 5) aa5 g4, oX6 h0 r0, oX1 ty (r0 1) a1 g3, oXS ty (r0 7) aa7 z7, oCB ty (z7.2 0), oCB ty (z7.2 1)] : List va_W) ([oX6 h0 r0, oX1 ty (r0 1) a1 g3, oX0 ty (r0 5) aa5 g4, oXS ty (r0 7) aa7 z7, oCB ty (z7.2 0), oCB ty (z7.2 1)] : List va_W)) hP hD hS hA (fun H locs hP hD hS => ?_)
          clear hp1 hv
          refine lv_aload_n hx hb dX6_again_47 rfl (lv_at hl 0 rfl) ?_
          refine va_get (D := D) (ci := 6) (C := RX6) (T := TX6) (N := 8) hx hb F.2.2.2.2 in_X6_again_X6 F.2.2.2.1 hK.1 hP 0 rfl rfl 1 (Nat.le_of_ble_eq_true rfl) (F.2.2.2.2 (.fieldLink RX6 19 "LouderRoom" "now" "LLouderRoom$Crowd;") (List.mem_of_getElem? (i := 2) rfl)) (fun _ h9 => h9) rfl dX6_again_48 ?_
          refine va_getN (D := D) (ci := 1) (C := RX1) (T := TX1) (N := 12) hx hb F.2.2.2.2 in_X6_again_X1 F.2.2.2.1 hK.1 hP 1 rfl rfl 6 (Nat.le_of_ble_eq_true rfl) (KN.use hK 9 (w := .fieldLinkNest RX6 79 "LouderRoom$Crowd" "rings" "I" "LouderRoom") rfl _) (fun _ h9 => h9) rfl dX6_again_51 ?_
          obtain hf := hf
          obtain ⟨e0, e1, e2⟩ := tup3 hf
          rw [e1] at hP hD
          rw [e2] at hP hD
          exact CX_i F hr hlk hP hD hS e0 dX6_again_54
        replace hf := ite_f hf hc0
        by_cases hc1 : v2 = 1
        · replace hf := ite_t hf hc1; subst hc1
          obtain ⟨g5, hv, hf⟩ := obd hf
          have hp1 : List.Perm [oX6 h0 r0, oX1 ty (r0 1) a1 z1, oX0 ty (r0 5) aa5 z5, oXS ty (r0 7) aa7 z7, oCB ty (z7.2 0), oX1 ty (z7.2 1).1.1 (z7.2 1).1.2 (z7.2 1).2] ([oX1 ty (r0 1) a1 z1, oX1 ty (z7.2 1).1.1 (z7.2 1).1.2 (z7.2 1).2] ++ [oX6 h0 r0, oX0 ty (r0 5) aa5 z5, oXS ty (r0 7) aa7 z7, oCB ty (z7.2 0)]) := (((List.perm_middle (a := (oX1 ty (r0 1) a1 z1 : va_W)) (l₁ := ([oX6 h0 r0] : List va_W)) (l₂ := ([oX0 ty (r0 5) aa5 z5, oXS ty (r0 7) aa7 z7, oCB ty (z7.2 0), oX1 ty (z7.2 1).1.1 (z7.2 1).1.2 (z7.2 1).2] : List va_W))).trans (List.Perm.cons _ (List.perm_middle (a := (oX1 ty (z7.2 1).1.1 (z7.2 1).1.2 (z7.2 1).2 : va_W)) (l₁ := ([oX6 h0 r0, oX0 ty (r0 5) aa5 z5, oXS ty (r0 7) aa7 z7, oCB ty (z7.2 0)] : List va_W)) (l₂ := ([] : List va_W))))) : List.Perm ([oX6 h0 r0, oX1 ty (r0 1) a1 z1, oX0 ty (r0 5) aa5 z5, oXS ty (r0 7) aa7 z7, oCB ty (z7.2 0), oX1 ty (z7.2 1).1.1 (z7.2 1).1.2 (z7.2 1).2] : List va_W) ([oX1 ty (r0 1) a1 z1, oX1 ty (z7.2 1).1.1 (z7.2 1).1.2 (z7.2 1).2, oX6 h0 r0, oX0 ty (r0 5) aa5 z5, oXS ty (r0 7) aa7 z7, oCB ty (z7.2 0)] : List va_W))
          refine cv_call (os := [oX6 h0 r0, oX1 ty (r0 1) a1 z1, oX0 ty (r0 5) aa5 z5, oXS ty (r0 7) aa7 z7, oCB ty (z7.2 0), oX1 ty (z7.2 1).1.1 (z7.2 1).1.2 (z7.2 1).2]) (oc := [oX1 ty (r0 1) a1 z1, oX1 ty (z7.2 1).1.1 (z7.2 1).1.2 (z7.2 1).2]) (oc' := [oX1 ty (r0 1) a1 g5, oX1 ty (z7.2 1).1.1 (z7.2 1).1.2 (z7.2 1).2]) (or_ := [oX6 h0 r0, oX0 ty (r0 5) aa5 z5, oXS ty (r0 7) aa7 z7, oCB ty (z7.2 0)]) (os' := [oX6 h0 r0, oX1 ty (r0 1) a1 g5, oX0 ty (r0 5) aa5 z5, oXS ty (r0 7) aa7 z7, oCB ty (z7.2 0), oX1 ty (z7.2 1).1.1 (z7.2 1).1.2 (z7.2 1).2]) (va_runV (As := [.ref (z7.2 1).1.1]) (rest := []) F (c_X1_copyFrom l D ty (r0 1) a1 (z7.2 1).1.1 (z7.2 1).1.2 _ _ _ hv _) (cwV 1 F.2.2.2.2 gX6_again_X1_copyFrom rfl rfl rfl ⟨rfl, hd_X1_copyFrom⟩ ⟨Nat.le_of_ble_eq_true rfl, Nat.le_of_ble_eq_true rfl⟩) (pre_v hK hP hD hp1 rfl rfl rfl) rfl rfl hl.1 rfl (lv_room (Nat.le_of_ble_eq_true rfl)) dX6_again_37 ⟨Nat.zero_le _, Nat.zero_le _⟩) hp1 (((List.perm_middle (a := (oX6 h0 r0 : va_W)) (l₁ := ([oX1 ty (r0 1) a1 g5, oX1 ty (z7.2 1).1.1 (z7.2 1).1.2 (z7.2 1).2] : List va_W)) (l₂ := ([oX0 ty (r0 5) aa5 z5, oXS ty (r0 7) aa7 z7, oCB ty (z7.2 0)] : List va_W))).trans (List.Perm.cons _ (List.Perm.cons _ ((List.perm_middle (a := (oX0 ty (r0 5) aa5 z5 : va_W)) (l₁ := ([oX1 ty (z7.2 1).1.1 (z7.2 1).1.2 (z7.2 1).2] : List va_W)) (l₂ := ([oXS ty (r0 7) aa7 z7, oCB ty (z7.2 0)] : List va_W))).trans (List.Perm.cons _ ((List.perm_middle (a := (oXS ty (r0 7) aa7 z7 : va_W)) (l₁ := ([oX1 ty (z7.2 1).1.1 (z7.2 1).1.2 (z7.2 1).2] : List va_W)) (l₂ := ([oCB ty (z7.2 0)] : List va_W))).trans (List.Perm.cons _ (List.perm_middle (a := (oCB ty (z7.2 0) : va_W)) (l₁ := ([oX1 ty (z7.2 1).1.1 (z7.2 1).1.2 (z7.2 1).2] : List va_W)) (l₂ := ([] : List va_W)))))))))) : List.Perm ([oX1 ty (r0 1) a1 g5, oX1 ty (z7.2 1).1.1 (z7.2 1).1.2 (z7.2 1).2, oX6 h0 r0, oX0 ty (r0 5) aa5 z5, oXS ty (r0 7) aa7 z7, oCB ty (z7.2 0)] : List va_W) ([oX6 h0 r0, oX1 ty (r0 1) a1 g5, oX0 ty (r0 5) aa5 z5, oXS ty (r0 7) aa7 z7, oCB ty (z7.2 0), oX1 ty (z7.2 1).1.1 (z7.2 1).1.2 (z7.2 1).2] : List va_W)) hP hD hS hA (fun H locs hP hD hS => ?_)
          clear hp1 hv
          refine lv_aload_n hx hb dX6_again_40 rfl (lv_at hl 0 rfl) ?_
          refine va_get (D := D) (ci := 6) (C := RX6) (T := TX6) (N := 8) hx hb F.2.2.2.2 in_X6_again_X6 F.2.2.2.1 hK.1 hP 0 rfl rfl 5 (Nat.le_of_ble_eq_true rfl) (F.2.2.2.2 (.fieldLink RX6 39 "LouderRoom" "acts" "LLouderRoom$Acts;") (List.mem_of_getElem? (i := 3) rfl)) (fun _ h9 => h9) rfl dX6_again_41 ?_
          obtain ⟨g6, hv, hf⟩ := obd hf
          have hp1 : List.Perm [oX6 h0 r0, oX1 ty (r0 1) a1 g5, oX0 ty (r0 5) aa5 z5, oXS ty (r0 7) aa7 z7, oCB ty (z7.2 0), oCB ty (z7.2 1)] ([oX0 ty (r0 5) aa5 z5] ++ [oX6 h0 r0, oX1 ty (r0 1) a1 g5, oXS ty (r0 7) aa7 z7, oCB ty (z7.2 0), oCB ty (z7.2 1)]) := ((List.perm_middle (a := (oX0 ty (r0 5) aa5 z5 : va_W)) (l₁ := ([oX6 h0 r0, oX1 ty (r0 1) a1 g5] : List va_W)) (l₂ := ([oXS ty (r0 7) aa7 z7, oCB ty (z7.2 0), oCB ty (z7.2 1)] : List va_W))) : List.Perm ([oX6 h0 r0, oX1 ty (r0 1) a1 g5, oX0 ty (r0 5) aa5 z5, oXS ty (r0 7) aa7 z7, oCB ty (z7.2 0), oCB ty (z7.2 1)] : List va_W) ([oX0 ty (r0 5) aa5 z5, oX6 h0 r0, oX1 ty (r0 1) a1 g5, oXS ty (r0 7) aa7 z7, oCB ty (z7.2 0), oCB ty (z7.2 1)] : List va_W))
          refine cv_call (os := [oX6 h0 r0, oX1 ty (r0 1) a1 g5, oX0 ty (r0 5) aa5 z5, oXS ty (r0 7) aa7 z7, oCB ty (z7.2 0), oCB ty (z7.2 1)]) (oc := [oX0 ty (r0 5) aa5 z5]) (oc' := [oX0 ty (r0 5) aa5 g6]) (or_ := [oX6 h0 r0, oX1 ty (r0 1) a1 g5, oXS ty (r0 7) aa7 z7, oCB ty (z7.2 0), oCB ty (z7.2 1)]) (os' := [oX6 h0 r0, oX1 ty (r0 1) a1 g5, oX0 ty (r0 5) aa5 g6, oXS ty (r0 7) aa7 z7, oCB ty (z7.2 0), oCB ty (z7.2 1)]) (va_runV (As := []) (rest := []) F (c_X0_clear l D ty (r0 5) aa5 _ _ hv _) (cwV 0 F.2.2.2.2 gX6_again_X0_clear rfl rfl rfl ⟨rfl, hd_X0_clear⟩ ⟨Nat.le_of_ble_eq_true rfl, Nat.le_of_ble_eq_true rfl⟩) (pre_v hK hP hD hp1 rfl rfl rfl) rfl rfl hl.1 rfl (lv_room (Nat.le_of_ble_eq_true rfl)) dX6_again_44 ⟨Nat.zero_le _, Nat.zero_le _⟩) hp1 (((List.perm_middle (a := (oX6 h0 r0 : va_W)) (l₁ := ([oX0 ty (r0 5) aa5 g6] : List va_W)) (l₂ := ([oX1 ty (r0 1) a1 g5, oXS ty (r0 7) aa7 z7, oCB ty (z7.2 0), oCB ty (z7.2 1)] : List va_W))).trans (List.Perm.cons _ (List.perm_middle (a := (oX1 ty (r0 1) a1 g5 : va_W)) (l₁ := ([oX0 ty (r0 5) aa5 g6] : List va_W)) (l₂ := ([oXS ty (r0 7) aa7 z7, oCB ty (z7.2 0), oCB ty (z7.2 1)] : List va_W))))) : List.Perm ([oX0 ty (r0 5) aa5 g6, oX6 h0 r0, oX1 ty (r0 1) a1 g5, oXS ty (r0 7) aa7 z7, oCB ty (z7.2 0), oCB ty (z7.2 1)] : List va_W) ([oX6 h0 r0, oX1 ty (r0 1) a1 g5, oX0 ty (r0 5) aa5 g6, oXS ty (r0 7) aa7 z7, oCB ty (z7.2 0), oCB ty (z7.2 1)] : List va_W)) hP hD hS hA (fun H locs hP hD hS => ?_)
          clear hp1 hv
          refine lv_aload_n hx hb dX6_again_47 rfl (lv_at hl 0 rfl) ?_
          refine va_get (D := D) (ci := 6) (C := RX6) (T := TX6) (N := 8) hx hb F.2.2.2.2 in_X6_again_X6 F.2.2.2.1 hK.1 hP 0 rfl rfl 1 (Nat.le_of_ble_eq_true rfl) (F.2.2.2.2 (.fieldLink RX6 19 "LouderRoom" "now" "LLouderRoom$Crowd;") (List.mem_of_getElem? (i := 2) rfl)) (fun _ h9 => h9) rfl dX6_again_48 ?_
          refine va_getN (D := D) (ci := 1) (C := RX1) (T := TX1) (N := 12) hx hb F.2.2.2.2 in_X6_again_X1 F.2.2.2.1 hK.1 hP 1 rfl rfl 6 (Nat.le_of_ble_eq_true rfl) (KN.use hK 9 (w := .fieldLinkNest RX6 79 "LouderRoom$Crowd" "rings" "I" "LouderRoom") rfl _) (fun _ h9 => h9) rfl dX6_again_51 ?_
          obtain hf := hf
          obtain ⟨e0, e1, e2⟩ := tup3 hf
          rw [e1] at hP hD
          rw [e2] at hP hD
          exact CX_i F hr hlk hP hD hS e0 dX6_again_54
        replace hf := ite_f hf hc1
        cases hf
      · replace hf := ite_t hf hc
        refine lv_bipush (v := (-3 : Int32)) hx hb dX6_again_22 (by decide) ?_
        obtain hf := hf
        obtain ⟨e0, e1, e2⟩ := tup3 hf
        rw [e1] at hP hD
        rw [e2] at hP hD
        exact CX_i F hr hlk hP hD hS e0 dX6_again_24
    · replace hf := ite_f hf hc
      refine lv_iconst (v := (-1 : Int32)) hx hb dX6_again_9 (by decide) ?_
      obtain hf := hf
      obtain ⟨e0, e1, e2⟩ := tup3 hf
      rw [e1] at hP hD
      rw [e2] at hP hD
      exact CX_i F hr hlk hP hD hS e0 dX6_again_10
