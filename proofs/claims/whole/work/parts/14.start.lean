set_option maxRecDepth 20000 in
theorem NWL_at : NWL = [68, 74, 89, 94, 96, 98, 100, 102, 105, 106, 108, 109, 111, 112, 115, 117, 146, 151, 153, 155, 156, 172, 175, 183, 190, 205, 387].filterMap (fun i => lw_tbl[i]?) := by decide +kernel
theorem NWL_tbl : ∀ w ∈ NWL, w ∈ lw_tbl ∧ w.onTables = true := by
  intro w hw
  refine ⟨?_, NWL_on w hw⟩
  rw [NWL_at] at hw
  obtain ⟨i, -, hi⟩ := List.mem_filterMap.mp hw
  exact List.mem_of_getElem? hi
theorem arr_of {s : State} {args : Array Value} {ty : FieldType} (h : (Cond.arrayClass ty).before args s = true) : ∃ c : ClassId, ArrOfT s c ty ∧ s.vm.findClass ("[" ++ ty.toString) = some c := by
  obtain ⟨c, k, comp, h1, h2, h3⟩ := Cond.arrayClass_spec h
  exact ⟨c, fun n z => ⟨fun k h => (by cases h), k, h2, comp, h3⟩, h1⟩
set_option maxHeartbeats 4000000 in
set_option maxRecDepth 20000 in
theorem kn_start {s : State} {args : Array Value} (hts : ∀ w ∈ lw_tbl, w.before args s = true) : ∃ (D : va_G) (ty : TY), KN D ty s := by
  obtain ⟨c0, iS0, hKn0⟩ := u_known (C := RX0) (T := TX0) (N := 2) (n := 2) hts in_wsX00_tbl (hts (.instantiable RX0 2) (List.mem_of_getElem? (i := 165) (by decide +kernel)))
  obtain ⟨c1, iS1, hKn1⟩ := u_known (C := RX1) (T := TX1) (N := 12) (n := 12) hts in_wsX10_tbl (hts (.instantiable RX1 12) (List.mem_of_getElem? (i := 88) (by decide +kernel)))
  obtain ⟨c2, iS2, hKn2⟩ := u_known (C := RX2) (T := TX2) (N := 3) (n := 3) hts in_wsX20_tbl (hts (.instantiable RX2 3) (List.mem_of_getElem? (i := 182) (by decide +kernel)))
  obtain ⟨c3, iS3, hKn3⟩ := u_known (C := RX3) (T := TX3) (N := 2) (n := 2) hts in_wsX30_tbl (hts (.instantiable RX3 2) (List.mem_of_getElem? (i := 199) (by decide +kernel)))
  obtain ⟨c4, iS4, hKn4⟩ := u_known (C := RX4) (T := TX4) (N := 4) (n := 4) hts in_wsX40_tbl (hts (.instantiable RX4 4) (List.mem_of_getElem? (i := 67) (by decide +kernel)))
  obtain ⟨c5, iS5, hKn5⟩ := u_known (C := RX5) (T := TX5) (N := 3) (n := 3) hts in_wsX50_tbl (hts (.instantiable RX5 3) (List.mem_of_getElem? (i := 145) (by decide +kernel)))
  obtain ⟨c6, iS6, hKn6⟩ := u_known (C := RX6) (T := TX6) (N := 8) (n := 8) hts in_wsX60_tbl (hts (.instantiable RX6 8) (List.mem_of_getElem? (i := 59) (by decide +kernel)))
  obtain ⟨c7, iS7, hKn7⟩ := u_known (C := RX7) (T := TX7) (N := 40) (n := 40) hts in_wsX70_tbl (hts (.instantiable RX7 40) (List.mem_of_getElem? (i := 680) (by decide +kernel)))
  obtain ⟨D, hKc⟩ : ∃ D : va_G, ∀ (k : Nat) (q : vw_C), vwC[k]? = some q → u_Kn s q.1 q.2.1 q.2.2 (D.1 k) (D.2 k) := by
    refine ⟨(fun k => if k = 0 then c0 else if k = 1 then c1 else if k = 2 then c2 else if k = 3 then c3 else if k = 4 then c4 else if k = 5 then c5 else if k = 6 then c6 else c7, fun k => if k = 0 then iS0 else if k = 1 then iS1 else if k = 2 then iS2 else if k = 3 then iS3 else if k = 4 then iS4 else if k = 5 then iS5 else if k = 6 then iS6 else iS7), ?_⟩
    intro k q hq
    match k, hq with
    | 0, hq => cases hq; exact hKn0
    | 1, hq => cases hq; exact hKn1
    | 2, hq => cases hq; exact hKn2
    | 3, hq => cases hq; exact hKn3
    | 4, hq => cases hq; exact hKn4
    | 5, hq => cases hq; exact hKn5
    | 6, hq => cases hq; exact hKn6
    | 7, hq => cases hq; exact hKn7
    | k + 8, hq => simp [vwC] at hq
  obtain ⟨ti, ai, fi⟩ := arr_of (hts (.arrayClass .int) (List.mem_of_getElem? (i := 143) (by decide +kernel)))
  obtain ⟨tb, ab, fb⟩ := arr_of (hts (.arrayClass .byte) (List.mem_of_getElem? (i := 86) (by decide +kernel)))
  obtain ⟨tz, az, fz⟩ := arr_of (hts (.arrayClass .boolean) (List.mem_of_getElem? (i := 806) (by decide +kernel)))
  have hover : (Cond.arrayOver (.object RX1)).before args s = true := hts _ (List.mem_of_getElem? (i := 171) (by decide +kernel))
  obtain ⟨comp, to, kA, hcomp, -, hkA, hkindA, hnameA⟩ := Cond.arrayOver_spec hover
  obtain ⟨ty, hty⟩ : ∃ ty : TY, ty = (ti, tb, tz, to) := ⟨_, rfl⟩
  have hK : KN D ty s := by
    refine ⟨⟨hKc, fun k q hq => ?_⟩, fun w hw => ?_, va_AO.of hover⟩
    · subst hty
      match k, hq with
      | 0, hq => cases hq; exact ⟨ai, fi⟩
      | 1, hq => cases hq; exact ⟨ab, fb⟩
      | 2, hq => cases hq; exact ⟨az, fz⟩
      | 3, hq => cases hq; exact ⟨fun n z => ⟨fun k h => (by cases h), kA, hkA, comp, hkindA⟩, kA, comp, hkA, hkindA, hcomp, hnameA⟩
      | k + 4, hq => simp [T4] at hq
    · obtain ⟨h1, h2⟩ := NWL_tbl w hw
      exact va_tabs h2 rfl (hts w h1)
  exact ⟨D, ty, hK⟩
set_option maxHeartbeats 16000000 in
set_option maxRecDepth 20000 in
theorem start_walk {p : Program} {e : Env} {s : State} {m : MethodId} {below : List Frame} {meth : Method} {c : Code} (l : Launch) {b L : Nat} {xs : Nat → Int32} (C0 : lw_At p s m meth c b L xs) (hf : ∀ cs5 cs7 : Nat → CB, f_L_law xs L zT zN zN zN zN (0, cs5) zN (0, cs7) zN = some 1) : W p l e room_1 s m #[Value.ref b] below meth c s.heap [] 0 0 (lw_Z below #[Value.ref b] s) (entryFrame m ([Value.ref b] : List Value).toArray 4) := by
  obtain ⟨hx, hb, hr, hml, hown, hts, hX, hbl, hlocks, hgv⟩ := id C0
  have hA : ∀ q : Nat, s.heap.size ≤ q → (fun q : Nat => s.heap.size ≤ q) q := fun _ h => h
  have hA2 : ∀ q : Nat, (fun q : Nat => s.heap.size ≤ q) q → s.heap.size ≤ q := fun _ h => h
  have hbA : ¬ (fun q : Nat => s.heap.size ≤ q) b := Nat.not_le.mpr hbl
  have F : CallFix p m c cL_law 4 s #[Value.ref b] wsL_law RL := ⟨hx, hb, hml, hown, fun w hw => hts w (wsL_law_in w hw)⟩
  obtain ⟨D, ty, hK⟩ := kn_start hts
  have hS : va_S (fun q : Nat => s.heap.size ≤ q) s.heap s.heap [] := va_S.rf
  have hP : va_P D vwC (fl []) s.heap := fun k q h => by simp [fl] at h
  have hD : va_D (fun q : Nat => s.heap.size ≤ q) (fl []) := ⟨fun i j p q h => by simp [fl] at h, fun k q h => by simp [fl] at h⟩
  have hl := lv_entry ([.ref b]) (n := 4) (Nat.le_of_ble_eq_true rfl)
  rw [lg_entry_eq]
  generalize (lg_sl ([.ref b]) ++ List.replicate (4 - (lg_sl ([.ref b])).length) Slot.unset).toArray = ls at hl ⊢
  have hl : lv_has ls 4 [(0, .ref b)] := hl
  refine va_new (ci := 6) (fs := [.null, .null, .null, .null, .null, .null, .null, .null]) (C := RX6) (T := TX6) (N := 8) hx hb hts in_wsX60_tbl tyX6 tyX6_ok hown (hts (.classLink RL 7 RX6) (List.mem_of_getElem? (i := 58) (by decide +kernel))) (hts (.instantiable RX6 8) (List.mem_of_getElem? (i := 59) (by decide +kernel))) (hts (.initialized RX6) (List.mem_of_getElem? (i := 48) (by decide +kernel))) hK.1 hP hD hS hA rfl (fun j hj => by rcases (show j = 0 ∨ j = 1 ∨ j = 2 ∨ j = 3 ∨ j = 4 ∨ j = 5 ∨ j = 6 ∨ j = 7 by omega) with rfl | rfl | rfl | rfl | rfl | rfl | rfl | rfl <;> rfl) (Nat.le_of_ble_eq_true rfl) (Nat.le_of_ble_eq_true rfl) dL_law_0 (fun h0 H hP hD hS => ?_)
  replace hP : va_P D vwC (fl [[(h0, .inr (6, [.null, .null, .null, .null, .null, .null, .null, .null]))]]) H := hP
  replace hD : va_D (fun q : Nat => s.heap.size ≤ q) (fl [[(h0, .inr (6, [.null, .null, .null, .null, .null, .null, .null, .null]))]]) := hD
  refine W.cs (cells' := 1) (slots' := 8) rfl rfl ?_
  refine lv_dup hx hb dL_law_3 rfl ?_
  have hp1 : List.Perm ([[(h0, .inr (6, [.null, .null, .null, .null, .null, .null, .null, .null]))]] : List va_W) (([[(h0, .inr (6, [.null, .null, .null, .null, .null, .null, .null, .null]))]] : List va_W) ++ []) := by rw [List.append_nil]
  refine cn_call (os := [[(h0, .inr (6, [.null, .null, .null, .null, .null, .null, .null, .null]))]]) (oc := [[(h0, .inr (6, [.null, .null, .null, .null, .null, .null, .null, .null]))]]) (or_ := []) (os' := fun u : UT => [fl (iX6 ty h0 u)]) (va_runI (As := []) (rest := [.ref h0]) F (c_X6_init l D ty h0 _) (cwI 0 F.2.2.2.2 gL_law_X6_init rfl rfl rfl (hts (.initialized RX6) (List.mem_of_getElem? (i := 48) (by decide +kernel))) (hts (.methodLink RL 9 yX6_init) (List.mem_of_getElem? (i := 60) (by decide +kernel))) (hts (.instanceMethod yX6_init) (List.mem_of_getElem? (i := 61) (by decide +kernel))) rfl hd_X6_init ⟨(Nat.le_of_ble_eq_true rfl), (Nat.le_of_ble_eq_true rfl)⟩) (pre_s (oc := [[(h0, .inr (6, [.null, .null, .null, .null, .null, .null, .null, .null]))]]) (or_ := []) hK hP hD hp1) rfl rfl hl.1 rfl (lv_room (Nat.le_of_ble_eq_true rfl)) dL_law_4 ⟨(Nat.le_of_ble_eq_true rfl), (Nat.le_of_ble_eq_true rfl)⟩) hp1 (fun u1 => by rw [List.append_nil]) hP hD hS hA (fun u H locs hP hD hS => ?_)
  clear hp1
  have e1 : fl [fl (iX6 ty h0 u)] = fl (iX6 ty h0 u) := List.append_nil _
  rw [e1] at hP hD
  refine W.cs (cells' := 114) (slots' := 989) rfl rfl ?_
  refine lv_astore_n (lv' := [(1, .ref h0), (0, .ref b)]) hx hb dL_law_7 rfl hl (by decide) rfl (fun ls hl => ?_)
  refine va_new (ci := 7) (fs := [.int 0, .null, .int 0, .int 0, .int 0, .null, .null, .null, .null, .null, .int 0, .int 0, .int 0, .int 0, .null, .null, .int 0, .int 0, .int 0, .int 0, .null, .null, .null, .int 0, .null, .null, .int 0, .null, .null, .null, .null, .int 0, .int 0, .int 0, .int 0, .int 0, .int 0, .null, .null, .null]) (C := RX7) (T := TX7) (N := 40) hx hb hts in_wsX70_tbl tyX7 tyX7_ok hown (hts (.classLink RL 10 RX7) (List.mem_of_getElem? (i := 679) (by decide +kernel))) (hts (.instantiable RX7 40) (List.mem_of_getElem? (i := 680) (by decide +kernel))) (hts (.initialized RX7) (List.mem_of_getElem? (i := 55) (by decide +kernel))) hK.1 hP hD hS hA rfl (fun j hj => by rcases (show j = 0 ∨ j = 1 ∨ j = 2 ∨ j = 3 ∨ j = 4 ∨ j = 5 ∨ j = 6 ∨ j = 7 ∨ j = 8 ∨ j = 9 ∨ j = 10 ∨ j = 11 ∨ j = 12 ∨ j = 13 ∨ j = 14 ∨ j = 15 ∨ j = 16 ∨ j = 17 ∨ j = 18 ∨ j = 19 ∨ j = 20 ∨ j = 21 ∨ j = 22 ∨ j = 23 ∨ j = 24 ∨ j = 25 ∨ j = 26 ∨ j = 27 ∨ j = 28 ∨ j = 29 ∨ j = 30 ∨ j = 31 ∨ j = 32 ∨ j = 33 ∨ j = 34 ∨ j = 35 ∨ j = 36 ∨ j = 37 ∨ j = 38 ∨ j = 39 by omega) with rfl | rfl | rfl | rfl | rfl | rfl | rfl | rfl | rfl | rfl | rfl | rfl | rfl | rfl | rfl | rfl | rfl | rfl | rfl | rfl | rfl | rfl | rfl | rfl | rfl | rfl | rfl | rfl | rfl | rfl | rfl | rfl | rfl | rfl | rfl | rfl | rfl | rfl | rfl | rfl <;> rfl) (Nat.le_of_ble_eq_true rfl) (Nat.le_of_ble_eq_true rfl) dL_law_8 (fun h9 H hP hD hS => ?_)
  have e2 : fl (iX6 ty h0 u ++ [[(h9, .inr (7, [.int 0, .null, .int 0, .int 0, .int 0, .null, .null, .null, .null, .null, .int 0, .int 0, .int 0, .int 0, .null, .null, .int 0, .int 0, .int 0, .int 0, .null, .null, .null, .int 0, .null, .null, .int 0, .null, .null, .null, .null, .int 0, .int 0, .int 0, .int 0, .int 0, .int 0, .null, .null, .null]))]]) = fl (iX6 ty h0 u) ++ [(h9, .inr (7, [.int 0, .null, .int 0, .int 0, .int 0, .null, .null, .null, .null, .null, .int 0, .int 0, .int 0, .int 0, .null, .null, .int 0, .int 0, .int 0, .int 0, .null, .null, .null, .int 0, .null, .null, .int 0, .null, .null, .null, .null, .int 0, .int 0, .int 0, .int 0, .int 0, .int 0, .null, .null, .null]))] := by
    unfold fl
    rw [List.flatten_append]
    rfl
  replace hP : va_P D vwC (fl (iX6 ty h0 u ++ [[(h9, .inr (7, [.int 0, .null, .int 0, .int 0, .int 0, .null, .null, .null, .null, .null, .int 0, .int 0, .int 0, .int 0, .null, .null, .int 0, .int 0, .int 0, .int 0, .null, .null, .null, .int 0, .null, .null, .int 0, .null, .null, .null, .null, .int 0, .int 0, .int 0, .int 0, .int 0, .int 0, .null, .null, .null]))]])) H := by rw [e2]; exact hP
  replace hD : va_D (fun q : Nat => s.heap.size ≤ q) (fl (iX6 ty h0 u ++ [[(h9, .inr (7, [.int 0, .null, .int 0, .int 0, .int 0, .null, .null, .null, .null, .null, .int 0, .int 0, .int 0, .int 0, .null, .null, .int 0, .int 0, .int 0, .int 0, .null, .null, .null, .int 0, .null, .null, .int 0, .null, .null, .null, .null, .int 0, .int 0, .int 0, .int 0, .int 0, .int 0, .null, .null, .null]))]])) := by rw [e2]; exact hD
  clear e1 e2
  obtain ⟨W6, hW6⟩ : ∃ W6 : List va_W, W6 = iX6 ty h0 u := ⟨_, rfl⟩
  rw [← hW6] at hP hD
  refine W.cs (cells' := 115) (slots' := 1029) rfl rfl ?_
  refine lv_dup hx hb dL_law_11 rfl ?_
  have hp1 : List.Perm (W6 ++ [[(h9, .inr (7, [.int 0, .null, .int 0, .int 0, .int 0, .null, .null, .null, .null, .null, .int 0, .int 0, .int 0, .int 0, .null, .null, .int 0, .int 0, .int 0, .int 0, .null, .null, .null, .int 0, .null, .null, .int 0, .null, .null, .null, .null, .int 0, .int 0, .int 0, .int 0, .int 0, .int 0, .null, .null, .null]))]]) (([[(h9, .inr (7, [.int 0, .null, .int 0, .int 0, .int 0, .null, .null, .null, .null, .null, .int 0, .int 0, .int 0, .int 0, .null, .null, .int 0, .int 0, .int 0, .int 0, .null, .null, .null, .int 0, .null, .null, .int 0, .null, .null, .null, .null, .int 0, .int 0, .int 0, .int 0, .int 0, .int 0, .null, .null, .null]))]] : List va_W) ++ W6) := List.perm_append_comm
  refine cn_call (wf := fun u9 : Nat → Nat => oX7 ty h9 u9 zN) (os := W6 ++ [[(h9, .inr (7, [.int 0, .null, .int 0, .int 0, .int 0, .null, .null, .null, .null, .null, .int 0, .int 0, .int 0, .int 0, .null, .null, .int 0, .int 0, .int 0, .int 0, .null, .null, .null, .int 0, .null, .null, .int 0, .null, .null, .null, .null, .int 0, .int 0, .int 0, .int 0, .int 0, .int 0, .null, .null, .null]))]]) (oc := [[(h9, .inr (7, [.int 0, .null, .int 0, .int 0, .int 0, .null, .null, .null, .null, .null, .int 0, .int 0, .int 0, .int 0, .null, .null, .int 0, .int 0, .int 0, .int 0, .null, .null, .null, .int 0, .null, .null, .int 0, .null, .null, .null, .null, .int 0, .int 0, .int 0, .int 0, .int 0, .int 0, .null, .null, .null]))]]) (or_ := W6) (os' := fun u9 : Nat → Nat => W6 ++ [oX7 ty h9 u9 zN]) (va_runI (As := []) (rest := [.ref h9]) F (c_X7_init l D ty h9 _) (cwI 0 F.2.2.2.2 gL_law_X7_init rfl rfl rfl (hts (.initialized RX7) (List.mem_of_getElem? (i := 55) (by decide +kernel))) (hts (.methodLink RL 12 yX7_init) (List.mem_of_getElem? (i := 681) (by decide +kernel))) (hts (.instanceMethod yX7_init) (List.mem_of_getElem? (i := 682) (by decide +kernel))) rfl hd_X7_init ⟨(Nat.le_of_ble_eq_true rfl), (Nat.le_of_ble_eq_true rfl)⟩) (pre_s (oc := [[(h9, .inr (7, [.int 0, .null, .int 0, .int 0, .int 0, .null, .null, .null, .null, .null, .int 0, .int 0, .int 0, .int 0, .null, .null, .int 0, .int 0, .int 0, .int 0, .null, .null, .null, .int 0, .null, .null, .int 0, .null, .null, .null, .null, .int 0, .int 0, .int 0, .int 0, .int 0, .int 0, .null, .null, .null]))]]) (or_ := W6) hK hP hD hp1) rfl rfl hl.1 rfl (lv_room (Nat.le_of_ble_eq_true rfl)) dL_law_12 ⟨(Nat.le_of_ble_eq_true rfl), (Nat.le_of_ble_eq_true rfl)⟩) hp1 (fun u9 => by exact List.perm_append_comm) hP hD hS hA (fun a9 H locs hP hD hS => ?_)
  clear hp1
  rw [hW6] at hP hD
  refine W.cs (cells' := 135) (slots' := 1767) rfl rfl ?_
  refine lv_astore_n (lv' := [(2, .ref h9), (1, .ref h0), (0, .ref b)]) hx hb dL_law_15 rfl hl (by decide) rfl (fun ls hl => ?_)
  refine lv_iconst (v := (0 : Int32)) hx hb dL_law_16 (by decide) ?_
  refine lv_istore_n (lv' := [(3, .int 0), (2, .ref h9), (1, .ref h0), (0, .ref b)]) hx hb dL_law_17 rfl hl (by decide) rfl (fun ls hl => ?_)
  exact law_walk l D ty F hr hlocks hX hbl hbA hK hA hA2 h0 u.1 u.2.1 u.2.2.1 u.2.2.2.1 u.2.2.2.2.1 u.2.2.2.2.2.1 u.2.2.2.2.2.2.1.1 u.2.2.2.2.2.2.2.1 u.2.2.2.2.2.2.2.2.1 h9 a9 zT zN zN zN zN (0, u.2.2.2.2.2.2.1.2) zN (0, u.2.2.2.2.2.2.2.2.2) zN (hf _ _) H locs ls hP hD hS (lv_sub hl [3, 2, 1, 0] rfl)
