/-! BASE: states of flat objects, guards, fuel, contracts in one shape -/
abbrev Ob : Type := (Nat → Int32) × (Nat → Nat → Int32)
abbrev TY : Type := ClassId × ClassId × ClassId × ClassId
/-- an object of Crowd: its address, its arrays' addresses, its state -/
abbrev CB : Type := (Nat × (Nat → Nat)) × Ob
/-- an object that holds rows of Crowds: a number, the Crowds -/
abbrev AS : Type := Int32 × (Nat → CB)
def pI {α : Type} (f : Nat → α) (k : Nat) (v : α) : Nat → α := fun j => cond (Nat.beq j k) v (f j)
def sI (z : Ob) (k : Nat) (v : Int32) : Ob := (pI z.1 k v, z.2)
def sA (z : Ob) (k : Nat) (g : Nat → Int32) : Ob := (z.1, pI z.2 k g)
def inb (i : Int32) (n : Nat) : Bool := decide (0 ≤ i.toInt) && decide (i.toInt < (n : Int))
theorem inb_in {i : Int32} {n : Nat} (h : inb i n = true) : vp_in i n := by
  unfold inb at h
  rw [Bool.and_eq_true, decide_eq_true_eq, decide_eq_true_eq] at h
  exact vp_in_iff.mpr h
def isb (v : Int32) : Bool := v == 0 || v == 1
theorem isb_or {v : Int32} (h : isb v = true) : v = 0 ∨ v = 1 := by
  unfold isb at h
  rw [Bool.or_eq_true, beq_iff_eq, beq_iff_eq] at h
  exact h
theorem isb_n {v : Int32} (h : isb v = true) : narrow .boolean (.int v) = .int v := by
  rcases isb_or h with rfl | rfl
  · exact narrow_b0
  · exact narrow_b1
theorem isb_f {v : Int32} (h : isb v = true) : fits .boolean (.int v) = true := by
  rcases isb_or h with rfl | rfl <;> decide +kernel
def bnd {α β : Type} (e : α) (F : α → β) : β := F e
theorem bnd_at {α β : Type} {e : α} {F : α → Option β} {r : β} (h : bnd e F = some r) {x : α} (ex : x = e) : F x = some r := by subst ex; exact h
theorem ite_t {c : Prop} [Decidable c] {α : Type} {A B : Option α} {r : α} (h : (if c then A else B) = some r) (hc : c) : A = some r := by rw [if_pos hc] at h; exact h
theorem ite_f {c : Prop} [Decidable c] {α : Type} {A B : Option α} {r : α} (h : (if c then A else B) = some r) (hc : ¬ c) : B = some r := by rw [if_neg hc] at h; exact h
theorem grd {b : Bool} {α : Type} {A : Option α} {r : α} (h : (if b = true then A else none) = some r) : b = true ∧ A = some r := by
  cases b with
  | true => exact ⟨rfl, h⟩
  | false => cases h
theorem grz {c : Prop} [Decidable c] {α : Type} {A : Option α} {r : α} (h : (if c then none else A) = some r) : ¬ c ∧ A = some r := by
  by_cases hc : c
  · rw [if_pos hc] at h; cases h
  · rw [if_neg hc] at h; exact ⟨hc, h⟩
theorem obd {α β : Type} {o : Option α} {F : α → Option β} {r : β} (h : o.bind F = some r) : ∃ v, o = some v ∧ F v = some r := Option.bind_eq_some_iff.mp h
def FU : Nat := 20000
def fuel1 {a1 ρ : Type} (B : (a1 → Option ρ) → a1 → Option ρ) : Nat → a1 → Option ρ
  | 0 => fun _ => none
  | n + 1 => B (fuel1 B n)
def fuel2 {a1 a2 ρ : Type} (B : (a1 → a2 → Option ρ) → a1 → a2 → Option ρ) : Nat → a1 → a2 → Option ρ
  | 0 => fun _ _ => none
  | n + 1 => B (fuel2 B n)
def fuel3 {a1 a2 a3 ρ : Type} (B : (a1 → a2 → a3 → Option ρ) → a1 → a2 → a3 → Option ρ) : Nat → a1 → a2 → a3 → Option ρ
  | 0 => fun _ _ _ => none
  | n + 1 => B (fuel3 B n)
def fuel4 {a1 a2 a3 a4 ρ : Type} (B : (a1 → a2 → a3 → a4 → Option ρ) → a1 → a2 → a3 → a4 → Option ρ) : Nat → a1 → a2 → a3 → a4 → Option ρ
  | 0 => fun _ _ _ _ => none
  | n + 1 => B (fuel4 B n)
def fuel5 {a1 a2 a3 a4 a5 ρ : Type} (B : (a1 → a2 → a3 → a4 → a5 → Option ρ) → a1 → a2 → a3 → a4 → a5 → Option ρ) : Nat → a1 → a2 → a3 → a4 → a5 → Option ρ
  | 0 => fun _ _ _ _ _ => none
  | n + 1 => B (fuel5 B n)
def fuel6 {a1 a2 a3 a4 a5 a6 ρ : Type} (B : (a1 → a2 → a3 → a4 → a5 → a6 → Option ρ) → a1 → a2 → a3 → a4 → a5 → a6 → Option ρ) : Nat → a1 → a2 → a3 → a4 → a5 → a6 → Option ρ
  | 0 => fun _ _ _ _ _ _ => none
  | n + 1 => B (fuel6 B n)
/-! worlds as lists of objects -/
abbrev fl (os : List va_W) : va_W := os.flatten
theorem va_P_mem {D : va_G} {cl : List vw_C} {w : va_W} {H : Heap} : va_P D cl w H ↔ ∀ q ∈ w, va_at D cl q H := by
  constructor
  · intro h q hq
    obtain ⟨k, hk⟩ := List.getElem?_of_mem hq
    exact h k q hk
  · intro h k q hk
    exact h q (List.mem_of_getElem? hk)
theorem va_D_iff {A : Nat → Prop} {w : va_W} : va_D A w ↔ (w.map Prod.fst).Nodup ∧ ∀ q ∈ w, A q.1 := by
  constructor
  · rintro ⟨h1, h2⟩
    refine ⟨?_, fun q hq => ?_⟩
    · rw [List.nodup_iff_pairwise_ne, List.pairwise_iff_getElem]
      intro i j hi hj hij he
      rw [List.length_map] at hi hj
      rw [List.getElem_map, List.getElem_map] at he
      have := h1 i j _ _ (List.getElem?_eq_getElem hi) (List.getElem?_eq_getElem hj) he
      omega
    · obtain ⟨k, hk⟩ := List.getElem?_of_mem hq
      exact h2 k q hk
  · rintro ⟨h1, h2⟩
    refine ⟨fun i j p q hp hq he => ?_, fun k q hk => h2 q (List.mem_of_getElem? hk)⟩
    rw [List.nodup_iff_pairwise_ne, List.pairwise_iff_getElem] at h1
    obtain ⟨hi, rfl⟩ := List.getElem?_eq_some_iff.mp hp
    obtain ⟨hj, rfl⟩ := List.getElem?_eq_some_iff.mp hq
    rcases Nat.lt_trichotomy i j with h | h | h
    · exact absurd (by rw [List.getElem_map, List.getElem_map]; exact he) (h1 i j (by rw [List.length_map]; exact hi) (by rw [List.length_map]; exact hj) h)
    · exact h
    · exact absurd (by rw [List.getElem_map, List.getElem_map]; exact he.symm) (h1 j i (by rw [List.length_map]; exact hj) (by rw [List.length_map]; exact hi) h)
theorem va_P_perm {D : va_G} {cl : List vw_C} {w w' : va_W} {H : Heap} (hp : List.Perm w w') (h : va_P D cl w H) : va_P D cl w' H := va_P_mem.mpr fun q hq => va_P_mem.mp h q (hp.mem_iff.mpr hq)
theorem va_D_perm {A : Nat → Prop} {w w' : va_W} (hp : List.Perm w w') (h : va_D A w) : va_D A w' := by
  obtain ⟨h1, h2⟩ := va_D_iff.mp h
  exact va_D_iff.mpr ⟨(hp.map Prod.fst).nodup_iff.mp h1, fun q hq => h2 q (hp.mem_iff.mpr hq)⟩
theorem va_A_mem {w : va_W} {sz q : Nat} : va_A w sz q ↔ (∃ e, (q, e) ∈ w) ∨ sz ≤ q := by
  constructor
  · rintro (⟨k, e, h⟩ | h)
    · exact Or.inl ⟨e, List.mem_of_getElem? h⟩
    · exact Or.inr h
  · rintro (⟨e, h⟩ | h)
    · obtain ⟨k, hk⟩ := List.getElem?_of_mem h
      exact Or.inl ⟨k, e, hk⟩
    · exact Or.inr h
/-- behind a call: the callee's world and the rest -/
theorem va_fr {A0 : Nat → Prop} {D : va_G} {cl : List vw_C} {wc wr w1 : va_W} {H H1 : Heap} (hP : va_P D cl (wc ++ wr) H) (hD : va_D A0 (wc ++ wr))
    (hk : ∀ q : Nat, q < H.size → ¬ va_A wc H.size q → H1[q]? = H[q]?) (hF : ∀ q, va_A wc H.size q → A0 q) (hP1 : va_P D cl w1 H1) (hD1 : va_D (va_A wc H.size) w1) : va_P D cl (w1 ++ wr) H1 ∧ va_D A0 (w1 ++ wr) := by
  rw [va_P_mem] at hP hP1
  rw [va_D_iff] at hD hD1
  have apart : ∀ q ∈ wr, q.1 < H.size ∧ ¬ va_A wc H.size q.1 := by
    intro q hq
    have hl := (hP q (List.mem_append_right _ hq)).lt
    refine ⟨hl, fun h => ?_⟩
    rcases va_A_mem.mp h with ⟨e, h⟩ | h
    · have hn := hD.1
      rw [List.map_append, List.nodup_append] at hn
      exact hn.2.2 q.1 (List.mem_map.mpr ⟨(q.1, e), h, rfl⟩) q.1 (List.mem_map.mpr ⟨q, hq, rfl⟩) rfl
    · omega
  refine ⟨va_P_mem.mpr fun q hq => ?_, va_D_iff.mpr ⟨?_, fun q hq => ?_⟩⟩
  · rcases List.mem_append.mp hq with h | h
    · exact hP1 q h
    · obtain ⟨g1, g2⟩ := apart q h
      exact (hP q (List.mem_append_right _ h)).kept (hk q.1 g1 g2)
  · have hn := hD.1
    rw [List.map_append, List.nodup_append] at hn ⊢
    refine ⟨hD1.1, hn.2.1, fun a ha b hb hab => ?_⟩
    obtain ⟨x, hx, rfl⟩ := List.mem_map.mp ha
    obtain ⟨y, hy, rfl⟩ := List.mem_map.mp hb
    exact (apart y hy).2 (hab ▸ hD1.2 x hx)
  · rcases List.mem_append.mp hq with h | h
    · exact hF _ (hD1.2 q h)
    · exact hD.2 q (List.mem_append_right _ h)
/-! what is known of the tables -/
abbrev vwC : List vw_C := [(RX0, TX0, 2), (RX1, TX1, 12), (RX2, TX2, 3), (RX3, TX3, 2), (RX4, TX4, 4), (RX5, TX5, 3), (RX6, TX6, 8), (RX7, TX7, 40)]
abbrev T4 (ty : TY) : List (ClassId × FieldType) := [(ty.1, .int), (ty.2.1, .byte), (ty.2.2.1, .boolean), (ty.2.2.2, .object RX1)]
def NWL : List Cond := [.methodLinkNest RX6 9 yX4_init "LouderRoom", .fieldLinkNest RX6 106 "LouderRoom$Told" "length" "I" "LouderRoom", .methodLinkNest RX6 18 yX1_init "LouderRoom", .fieldLinkNest RX6 113 "LouderRoom$Crowd" "kind" "[I" "LouderRoom", .fieldLinkNest RX6 117 "LouderRoom$Crowd" "cell" "[I" "LouderRoom", .fieldLinkNest RX6 120 "LouderRoom$Crowd" "people" "[I" "LouderRoom", .fieldLinkNest RX6 123 "LouderRoom$Crowd" "voice" "[I" "LouderRoom", .fieldLinkNest RX6 126 "LouderRoom$Crowd" "age" "[I" "LouderRoom", .fieldLinkNest RX4 55 "LouderRoom$Crowd" "rings" "I" "LouderRoom", .fieldLinkNest RX6 79 "LouderRoom$Crowd" "rings" "I" "LouderRoom", .fieldLinkNest RX4 41 "LouderRoom$Crowd" "eats" "I" "LouderRoom", .fieldLinkNest RX6 86 "LouderRoom$Crowd" "eats" "I" "LouderRoom", .fieldLinkNest RX4 44 "LouderRoom$Crowd" "music" "I" "LouderRoom", .fieldLinkNest RX6 89 "LouderRoom$Crowd" "music" "I" "LouderRoom", .fieldLinkNest RX6 156 "LouderRoom$Crowd" "follows" "Z" "LouderRoom", .fieldLinkNest RX6 236 "LouderRoom$Crowd" "silent" "I" "LouderRoom", .methodLinkNest RX6 28 yX5_init "LouderRoom", .fieldLinkNest RX6 143 "LouderRoom$Wares" "cost" "[I" "LouderRoom", .fieldLinkNest RX6 146 "LouderRoom$Wares" "eaten" "[I" "LouderRoom", .fieldLinkNest RX4 62 "LouderRoom$Wares" "count" "I" "LouderRoom", .fieldLinkNest RX6 101 "LouderRoom$Wares" "count" "I" "LouderRoom", .methodLinkNest RX0 17 yX1_init "LouderRoom", .fieldLinkNest RX6 104 "LouderRoom$Acts" "count" "I" "LouderRoom", .methodLinkNest RX6 45 yX2_init "LouderRoom", .fieldLinkNest RX6 105 "LouderRoom$Meters" "count" "I" "LouderRoom", .methodLinkNest RX3 17 yX1_init "LouderRoom", .methodLinkNest RX1 59 yX6_squareApart "LouderRoom"]
def KN (D : va_G) (ty : TY) (U : State) : Prop := va_K D vwC (T4 ty) U ∧ (∀ w ∈ NWL, va_Nw w U) ∧ va_AO RX1 U
theorem KN.moved {D : va_G} {ty : TY} {s U : State} (hW : s.WarmedH U.vm) (h : KN D ty s) : KN D ty U := by
  refine ⟨va_K.moved hW.alike h.1, fun w hw => ?_, h.2.2.moved hW.alike⟩
  have h2 := h.2.1 w hw
  simp only [NWL, List.mem_cons, List.not_mem_nil, or_false] at hw
  rcases hw with rfl | rfl | rfl | rfl | rfl | rfl | rfl | rfl | rfl | rfl | rfl | rfl | rfl | rfl | rfl | rfl | rfl | rfl | rfl | rfl | rfl | rfl | rfl | rfl | rfl | rfl | rfl <;> first | exact va_Nw.warmF hW h2 | exact va_Nw.warmM hW h2
theorem NWL_on : ∀ w ∈ NWL, w.onTables = true := by
  intro w hw
  simp only [NWL, List.mem_cons, List.not_mem_nil, or_false] at hw
  rcases hw with rfl | rfl | rfl | rfl | rfl | rfl | rfl | rfl | rfl | rfl | rfl | rfl | rfl | rfl | rfl | rfl | rfl | rfl | rfl | rfl | rfl | rfl | rfl | rfl | rfl | rfl | rfl <;> rfl
theorem KN.same {D : va_G} {ty : TY} {s U : State} (hv : s.vm = U.vm) (h : KN D ty s) : KN D ty U := ⟨va_K.moved (by rw [← hv]; exact Vm.Alike.refl s.vm) h.1, fun w hw => va_Nw.same (NWL_on w hw) hv (h.2.1 w hw), h.2.2.moved (by rw [← hv]; exact Vm.Alike.refl s.vm)⟩
theorem KN.use {D : va_G} {ty : TY} {s : State} (h : KN D ty s) (i : Nat) {w : Cond} (hi : NWL[i]? = some w) (args : Array Value) : w.before args s = true := va_Nw.use (NWL_on w (List.mem_of_getElem? hi)) (h.2.1 w (List.mem_of_getElem? hi))
theorem KN.nw {D : va_G} {ty : TY} {s : State} (h : KN D ty s) (i : Nat) {w : Cond} (hi : NWL[i]? = some w) : va_Nw w s := h.2.1 w (List.mem_of_getElem? hi)
/-! contracts in one shape -/
def pcW (av : List Value) (D : va_G) (ty : TY) (w : va_W) (sz : Nat) : Array Value → State → Prop := va_Pc av (fun U => U.heap.size = sz ∧ va_P D vwC w U.heap ∧ KN D ty U ∧ va_D (fun _ => True) w)
def bW (D : va_G) (w' : va_W) (A : Nat → Prop) : Unit → State → Prop := fun _ t => va_P D vwC w' t.heap ∧ va_D A w'
def qI (D : va_G) (out : Int32) (w' : va_W) (A : Nat → Prop) : Array Value → State → Outcome → State → Prop := va_Qi (fun r (_ : Unit) => r = out) (bW D w' A) A
def qL (D : va_G) (out : Int64) (w' : va_W) (A : Nat → Prop) : Array Value → State → Outcome → State → Prop := va_Ql (fun r (_ : Unit) => r = out) (bW D w' A) A
def qV (D : va_G) (w' : va_W) (A : Nat → Prop) : Array Value → State → Outcome → State → Prop := va_Qv (fun (_ : Unit) => True) (bW D w' A) A
def qR (D : va_G) (x : Nat) (w' : va_W) (A : Nat → Prop) : Array Value → State → Outcome → State → Prop := va_Qr (fun (_ : Unit) => True) (fun _ ra t => ra = x ∧ va_P D vwC w' t.heap ∧ va_D A w') A
def CX (l : Launch) (y : MethodName) (ws : List Cond) (rm : Room) (av : List Value) (D : va_G) (ty : TY) (w : va_W) (sz : Nat) (Qc : (Nat → Prop) → Array Value → State → Outcome → State → Prop) (mc ms : Nat) : Prop := Met l y ws rm (pcW av D ty w sz) (Qc (va_A w sz)) mc ms (va_A w sz)
theorem pcW_blind {av : List Value} {D : va_G} {ty : TY} {w : va_W} {sz : Nat} : FrameBlind (pcW av D ty w sz) := fun a U g mk h => ⟨h.1, h.2.1, h.2.2.1, KN.same (s := U) (U := U.calling g mk a) rfl h.2.2.2.1, h.2.2.2.2⟩
theorem CX_of {l : Launch} {y : MethodName} {ws ws' : List Cond} {rm : Room} {av : List Value} {D : va_G} {ty : TY} {w : va_W} {sz : Nat} {Qc : (Nat → Prop) → Array Value → State → Outcome → State → Prop} {mc ms : Nat} {cc : ByteArray} {maxL : Nat} {ret : Option FieldType} {C : String} (hy : plainName y.cls = true) (hC : y.cls = C) (hw : ws = Cond.code y cc maxL ret :: ws') (hav : (lg_sl av).length ≤ maxL)
    (body : ∀ (p : Program) (e : Env) (s : State) (m : MethodId) (below : List Frame) (meth : Method) (c : Code) (A : Nat → Prop) (ls : Array Slot), CallFix p m c cc maxL s av.toArray ws C → meth.sig.returnType = ret → meth.locks = false → meth.name = y.name → KN D ty s → va_P D vwC w s.heap → va_D A w → va_S A s.heap s.heap [] → (∀ q : Nat, s.heap.size ≤ q → A q) → lv_has ls maxL (lv_args 0 av) →
      W p l e rm s m av.toArray below meth c s.heap [] 0 0 (MQ below (Qc A) av.toArray s mc ms A) (F0 m 0 ls [])) : CX l y ws rm av D ty w sz Qc mc ms := by
  refine Met.ofW (cc := cc) (maxL := maxL) (ret := ret) hy hw ?_
  intro p e s m args below meth c s₁ B hml hv
  obtain ⟨rfl, hsz, hP, hK, hD0⟩ := hv
  have hts := atoms_spec (ws := ws) B.pre
  have hown : s.vm.findClass C = some m.cls := hC ▸ findClass_of_methodNamed B.named
  subst hsz
  rw [lg_entry_eq]
  exact body p e s m below meth c _ _ ⟨B.exec, B.bytes, hml, hown, hts⟩ B.returns B.notSynchronized (name_of_methodNamed B.named B.method).1 hK hP hD0.self va_S.rf (fun q h => Or.inr h) (lv_entry av hav)
def bd2 {t0 t1 ρ : Type} (o : Option (t0 × t1)) (F : t0 → t1 → Option ρ) : Option ρ := o.bind (fun q => F q.1 q.2)
theorem obd2 {t0 t1 ρ : Type} {o : Option (t0 × t1)} {F : t0 → t1 → Option ρ} {r : ρ} (h : bd2 o F = some r) : ∃ x0 x1, o = some (x0, x1) ∧ F x0 x1 = some r := by
  obtain ⟨⟨x0, x1⟩, h1, h2⟩ := Option.bind_eq_some_iff.mp h
  exact ⟨x0, x1, h1, h2⟩
theorem tup2 {t0 t1 : Type} {x0 y0 : t0} {x1 y1 : t1} (h : some (x0, x1) = some (y0, y1)) : x0 = y0 ∧ x1 = y1 := by
  cases h
  exact ⟨rfl, rfl⟩
def bd3 {t0 t1 t2 ρ : Type} (o : Option (t0 × t1 × t2)) (F : t0 → t1 → t2 → Option ρ) : Option ρ := o.bind (fun q => F q.1 q.2.1 q.2.2)
theorem obd3 {t0 t1 t2 ρ : Type} {o : Option (t0 × t1 × t2)} {F : t0 → t1 → t2 → Option ρ} {r : ρ} (h : bd3 o F = some r) : ∃ x0 x1 x2, o = some (x0, x1, x2) ∧ F x0 x1 x2 = some r := by
  obtain ⟨⟨x0, x1, x2⟩, h1, h2⟩ := Option.bind_eq_some_iff.mp h
  exact ⟨x0, x1, x2, h1, h2⟩
theorem tup3 {t0 t1 t2 : Type} {x0 y0 : t0} {x1 y1 : t1} {x2 y2 : t2} (h : some (x0, x1, x2) = some (y0, y1, y2)) : x0 = y0 ∧ x1 = y1 ∧ x2 = y2 := by
  cases h
  exact ⟨rfl, rfl, rfl⟩
def bd4 {t0 t1 t2 t3 ρ : Type} (o : Option (t0 × t1 × t2 × t3)) (F : t0 → t1 → t2 → t3 → Option ρ) : Option ρ := o.bind (fun q => F q.1 q.2.1 q.2.2.1 q.2.2.2)
theorem obd4 {t0 t1 t2 t3 ρ : Type} {o : Option (t0 × t1 × t2 × t3)} {F : t0 → t1 → t2 → t3 → Option ρ} {r : ρ} (h : bd4 o F = some r) : ∃ x0 x1 x2 x3, o = some (x0, x1, x2, x3) ∧ F x0 x1 x2 x3 = some r := by
  obtain ⟨⟨x0, x1, x2, x3⟩, h1, h2⟩ := Option.bind_eq_some_iff.mp h
  exact ⟨x0, x1, x2, x3, h1, h2⟩
theorem tup4 {t0 t1 t2 t3 : Type} {x0 y0 : t0} {x1 y1 : t1} {x2 y2 : t2} {x3 y3 : t3} (h : some (x0, x1, x2, x3) = some (y0, y1, y2, y3)) : x0 = y0 ∧ x1 = y1 ∧ x2 = y2 ∧ x3 = y3 := by
  cases h
  exact ⟨rfl, rfl, rfl, rfl⟩
def bd5 {t0 t1 t2 t3 t4 ρ : Type} (o : Option (t0 × t1 × t2 × t3 × t4)) (F : t0 → t1 → t2 → t3 → t4 → Option ρ) : Option ρ := o.bind (fun q => F q.1 q.2.1 q.2.2.1 q.2.2.2.1 q.2.2.2.2)
theorem obd5 {t0 t1 t2 t3 t4 ρ : Type} {o : Option (t0 × t1 × t2 × t3 × t4)} {F : t0 → t1 → t2 → t3 → t4 → Option ρ} {r : ρ} (h : bd5 o F = some r) : ∃ x0 x1 x2 x3 x4, o = some (x0, x1, x2, x3, x4) ∧ F x0 x1 x2 x3 x4 = some r := by
  obtain ⟨⟨x0, x1, x2, x3, x4⟩, h1, h2⟩ := Option.bind_eq_some_iff.mp h
  exact ⟨x0, x1, x2, x3, x4, h1, h2⟩
theorem tup5 {t0 t1 t2 t3 t4 : Type} {x0 y0 : t0} {x1 y1 : t1} {x2 y2 : t2} {x3 y3 : t3} {x4 y4 : t4} (h : some (x0, x1, x2, x3, x4) = some (y0, y1, y2, y3, y4)) : x0 = y0 ∧ x1 = y1 ∧ x2 = y2 ∧ x3 = y3 ∧ x4 = y4 := by
  cases h
  exact ⟨rfl, rfl, rfl, rfl, rfl⟩
def bd6 {t0 t1 t2 t3 t4 t5 ρ : Type} (o : Option (t0 × t1 × t2 × t3 × t4 × t5)) (F : t0 → t1 → t2 → t3 → t4 → t5 → Option ρ) : Option ρ := o.bind (fun q => F q.1 q.2.1 q.2.2.1 q.2.2.2.1 q.2.2.2.2.1 q.2.2.2.2.2)
theorem obd6 {t0 t1 t2 t3 t4 t5 ρ : Type} {o : Option (t0 × t1 × t2 × t3 × t4 × t5)} {F : t0 → t1 → t2 → t3 → t4 → t5 → Option ρ} {r : ρ} (h : bd6 o F = some r) : ∃ x0 x1 x2 x3 x4 x5, o = some (x0, x1, x2, x3, x4, x5) ∧ F x0 x1 x2 x3 x4 x5 = some r := by
  obtain ⟨⟨x0, x1, x2, x3, x4, x5⟩, h1, h2⟩ := Option.bind_eq_some_iff.mp h
  exact ⟨x0, x1, x2, x3, x4, x5, h1, h2⟩
theorem tup6 {t0 t1 t2 t3 t4 t5 : Type} {x0 y0 : t0} {x1 y1 : t1} {x2 y2 : t2} {x3 y3 : t3} {x4 y4 : t4} {x5 y5 : t5} (h : some (x0, x1, x2, x3, x4, x5) = some (y0, y1, y2, y3, y4, y5)) : x0 = y0 ∧ x1 = y1 ∧ x2 = y2 ∧ x3 = y3 ∧ x4 = y4 ∧ x5 = y5 := by
  cases h
  exact ⟨rfl, rfl, rfl, rfl, rfl, rfl⟩
def bd7 {t0 t1 t2 t3 t4 t5 t6 ρ : Type} (o : Option (t0 × t1 × t2 × t3 × t4 × t5 × t6)) (F : t0 → t1 → t2 → t3 → t4 → t5 → t6 → Option ρ) : Option ρ := o.bind (fun q => F q.1 q.2.1 q.2.2.1 q.2.2.2.1 q.2.2.2.2.1 q.2.2.2.2.2.1 q.2.2.2.2.2.2)
theorem obd7 {t0 t1 t2 t3 t4 t5 t6 ρ : Type} {o : Option (t0 × t1 × t2 × t3 × t4 × t5 × t6)} {F : t0 → t1 → t2 → t3 → t4 → t5 → t6 → Option ρ} {r : ρ} (h : bd7 o F = some r) : ∃ x0 x1 x2 x3 x4 x5 x6, o = some (x0, x1, x2, x3, x4, x5, x6) ∧ F x0 x1 x2 x3 x4 x5 x6 = some r := by
  obtain ⟨⟨x0, x1, x2, x3, x4, x5, x6⟩, h1, h2⟩ := Option.bind_eq_some_iff.mp h
  exact ⟨x0, x1, x2, x3, x4, x5, x6, h1, h2⟩
theorem tup7 {t0 t1 t2 t3 t4 t5 t6 : Type} {x0 y0 : t0} {x1 y1 : t1} {x2 y2 : t2} {x3 y3 : t3} {x4 y4 : t4} {x5 y5 : t5} {x6 y6 : t6} (h : some (x0, x1, x2, x3, x4, x5, x6) = some (y0, y1, y2, y3, y4, y5, y6)) : x0 = y0 ∧ x1 = y1 ∧ x2 = y2 ∧ x3 = y3 ∧ x4 = y4 ∧ x5 = y5 ∧ x6 = y6 := by
  cases h
  exact ⟨rfl, rfl, rfl, rfl, rfl, rfl, rfl⟩
def bd8 {t0 t1 t2 t3 t4 t5 t6 t7 ρ : Type} (o : Option (t0 × t1 × t2 × t3 × t4 × t5 × t6 × t7)) (F : t0 → t1 → t2 → t3 → t4 → t5 → t6 → t7 → Option ρ) : Option ρ := o.bind (fun q => F q.1 q.2.1 q.2.2.1 q.2.2.2.1 q.2.2.2.2.1 q.2.2.2.2.2.1 q.2.2.2.2.2.2.1 q.2.2.2.2.2.2.2)
theorem obd8 {t0 t1 t2 t3 t4 t5 t6 t7 ρ : Type} {o : Option (t0 × t1 × t2 × t3 × t4 × t5 × t6 × t7)} {F : t0 → t1 → t2 → t3 → t4 → t5 → t6 → t7 → Option ρ} {r : ρ} (h : bd8 o F = some r) : ∃ x0 x1 x2 x3 x4 x5 x6 x7, o = some (x0, x1, x2, x3, x4, x5, x6, x7) ∧ F x0 x1 x2 x3 x4 x5 x6 x7 = some r := by
  obtain ⟨⟨x0, x1, x2, x3, x4, x5, x6, x7⟩, h1, h2⟩ := Option.bind_eq_some_iff.mp h
  exact ⟨x0, x1, x2, x3, x4, x5, x6, x7, h1, h2⟩
theorem tup8 {t0 t1 t2 t3 t4 t5 t6 t7 : Type} {x0 y0 : t0} {x1 y1 : t1} {x2 y2 : t2} {x3 y3 : t3} {x4 y4 : t4} {x5 y5 : t5} {x6 y6 : t6} {x7 y7 : t7} (h : some (x0, x1, x2, x3, x4, x5, x6, x7) = some (y0, y1, y2, y3, y4, y5, y6, y7)) : x0 = y0 ∧ x1 = y1 ∧ x2 = y2 ∧ x3 = y3 ∧ x4 = y4 ∧ x5 = y5 ∧ x6 = y6 ∧ x7 = y7 := by
  cases h
  exact ⟨rfl, rfl, rfl, rfl, rfl, rfl, rfl, rfl⟩
def bd9 {t0 t1 t2 t3 t4 t5 t6 t7 t8 ρ : Type} (o : Option (t0 × t1 × t2 × t3 × t4 × t5 × t6 × t7 × t8)) (F : t0 → t1 → t2 → t3 → t4 → t5 → t6 → t7 → t8 → Option ρ) : Option ρ := o.bind (fun q => F q.1 q.2.1 q.2.2.1 q.2.2.2.1 q.2.2.2.2.1 q.2.2.2.2.2.1 q.2.2.2.2.2.2.1 q.2.2.2.2.2.2.2.1 q.2.2.2.2.2.2.2.2)
theorem obd9 {t0 t1 t2 t3 t4 t5 t6 t7 t8 ρ : Type} {o : Option (t0 × t1 × t2 × t3 × t4 × t5 × t6 × t7 × t8)} {F : t0 → t1 → t2 → t3 → t4 → t5 → t6 → t7 → t8 → Option ρ} {r : ρ} (h : bd9 o F = some r) : ∃ x0 x1 x2 x3 x4 x5 x6 x7 x8, o = some (x0, x1, x2, x3, x4, x5, x6, x7, x8) ∧ F x0 x1 x2 x3 x4 x5 x6 x7 x8 = some r := by
  obtain ⟨⟨x0, x1, x2, x3, x4, x5, x6, x7, x8⟩, h1, h2⟩ := Option.bind_eq_some_iff.mp h
  exact ⟨x0, x1, x2, x3, x4, x5, x6, x7, x8, h1, h2⟩
theorem tup9 {t0 t1 t2 t3 t4 t5 t6 t7 t8 : Type} {x0 y0 : t0} {x1 y1 : t1} {x2 y2 : t2} {x3 y3 : t3} {x4 y4 : t4} {x5 y5 : t5} {x6 y6 : t6} {x7 y7 : t7} {x8 y8 : t8} (h : some (x0, x1, x2, x3, x4, x5, x6, x7, x8) = some (y0, y1, y2, y3, y4, y5, y6, y7, y8)) : x0 = y0 ∧ x1 = y1 ∧ x2 = y2 ∧ x3 = y3 ∧ x4 = y4 ∧ x5 = y5 ∧ x6 = y6 ∧ x7 = y7 ∧ x8 = y8 := by
  cases h
  exact ⟨rfl, rfl, rfl, rfl, rfl, rfl, rfl, rfl, rfl⟩
theorem sw_out9 {x : Int32} (h0 : ¬ x = 0) (h1 : ¬ x = 1) (h2 : ¬ x = 2) (h3 : ¬ x = 3) (h4 : ¬ x = 4) (h5 : ¬ x = 5) (h6 : ¬ x = 6) (h7 : ¬ x = 7) (h8 : ¬ x = 8) : x.toInt < 0 ∨ 8 < x.toInt := by
  have g0 : ¬ x.toInt = 0 := fun q => h0 (Int32.toInt_inj.mp (q.trans (by decide)))
  have g1 : ¬ x.toInt = 1 := fun q => h1 (Int32.toInt_inj.mp (q.trans (by decide)))
  have g2 : ¬ x.toInt = 2 := fun q => h2 (Int32.toInt_inj.mp (q.trans (by decide)))
  have g3 : ¬ x.toInt = 3 := fun q => h3 (Int32.toInt_inj.mp (q.trans (by decide)))
  have g4 : ¬ x.toInt = 4 := fun q => h4 (Int32.toInt_inj.mp (q.trans (by decide)))
  have g5 : ¬ x.toInt = 5 := fun q => h5 (Int32.toInt_inj.mp (q.trans (by decide)))
  have g6 : ¬ x.toInt = 6 := fun q => h6 (Int32.toInt_inj.mp (q.trans (by decide)))
  have g7 : ¬ x.toInt = 7 := fun q => h7 (Int32.toInt_inj.mp (q.trans (by decide)))
  have g8 : ¬ x.toInt = 8 := fun q => h8 (Int32.toInt_inj.mp (q.trans (by decide)))
  omega
theorem sw_out11 {x : Int32} (h0 : ¬ x = 0) (h1 : ¬ x = 1) (h2 : ¬ x = 2) (h3 : ¬ x = 3) (h4 : ¬ x = 4) (h5 : ¬ x = 5) (h6 : ¬ x = 6) (h7 : ¬ x = 7) (h8 : ¬ x = 8) (h9 : ¬ x = 9) (h10 : ¬ x = 10) : x.toInt < 0 ∨ 10 < x.toInt := by
  have g0 : ¬ x.toInt = 0 := fun q => h0 (Int32.toInt_inj.mp (q.trans (by decide)))
  have g1 : ¬ x.toInt = 1 := fun q => h1 (Int32.toInt_inj.mp (q.trans (by decide)))
  have g2 : ¬ x.toInt = 2 := fun q => h2 (Int32.toInt_inj.mp (q.trans (by decide)))
  have g3 : ¬ x.toInt = 3 := fun q => h3 (Int32.toInt_inj.mp (q.trans (by decide)))
  have g4 : ¬ x.toInt = 4 := fun q => h4 (Int32.toInt_inj.mp (q.trans (by decide)))
  have g5 : ¬ x.toInt = 5 := fun q => h5 (Int32.toInt_inj.mp (q.trans (by decide)))
  have g6 : ¬ x.toInt = 6 := fun q => h6 (Int32.toInt_inj.mp (q.trans (by decide)))
  have g7 : ¬ x.toInt = 7 := fun q => h7 (Int32.toInt_inj.mp (q.trans (by decide)))
  have g8 : ¬ x.toInt = 8 := fun q => h8 (Int32.toInt_inj.mp (q.trans (by decide)))
  have g9 : ¬ x.toInt = 9 := fun q => h9 (Int32.toInt_inj.mp (q.trans (by decide)))
  have g10 : ¬ x.toInt = 10 := fun q => h10 (Int32.toInt_inj.mp (q.trans (by decide)))
  omega
def oX1 (ty : TY) (h : Nat) (a : Nat → Nat) (z : Ob) : va_W := [(h, .inr (1, [.ref (a 0), .ref (a 1), .ref (a 2), .ref (a 3), .ref (a 4), .ref (a 5), .int (z.1 6), .int (z.1 7), .int (z.1 8), .int (z.1 9), .int (z.1 10), .int (z.1 11)])), (a 0, .inl (ty.1, 8, .inl (z.2 0))), (a 1, .inl (ty.1, 8, .inl (z.2 1))), (a 2, .inl (ty.1, 8, .inl (z.2 2))), (a 3, .inl (ty.1, 8, .inl (z.2 3))), (a 4, .inl (ty.1, 8, .inl (z.2 4))), (a 5, .inl (ty.1, 8, .inl (z.2 5)))]
def oX2 (ty : TY) (h : Nat) (a : Nat → Nat) (z : Ob) : va_W := [(h, .inr (2, [.ref (a 0), .ref (a 1), .int (z.1 2)])), (a 0, .inl (ty.1, 6, .inl (z.2 0))), (a 1, .inl (ty.1, 6, .inl (z.2 1)))]
def oX4 (ty : TY) (h : Nat) (a : Nat → Nat) (z : Ob) : va_W := [(h, .inr (4, [.ref (a 0), .int (z.1 1), .int (z.1 2), .int (z.1 3)])), (a 0, .inl (ty.2.1, 80, .inl (z.2 0)))]
def oX5 (ty : TY) (h : Nat) (a : Nat → Nat) (z : Ob) : va_W := [(h, .inr (5, [.ref (a 0), .ref (a 1), .int (z.1 2)])), (a 0, .inl (ty.1, 5, .inl (z.2 0))), (a 1, .inl (ty.1, 5, .inl (z.2 1)))]
def oX7 (ty : TY) (h : Nat) (a : Nat → Nat) (z : Ob) : va_W := [(h, .inr (7, [.int (z.1 0), .ref (a 1), .int (z.1 2), .int (z.1 3), .int (z.1 4), .ref (a 5), .ref (a 6), .ref (a 7), .ref (a 8), .ref (a 9), .int (z.1 10), .int (z.1 11), .int (z.1 12), .int (z.1 13), .ref (a 14), .ref (a 15), .int (z.1 16), .int (z.1 17), .int (z.1 18), .int (z.1 19), .ref (a 20), .ref (a 21), .ref (a 22), .int (z.1 23), .ref (a 24), .ref (a 25), .int (z.1 26), .ref (a 27), .ref (a 28), .ref (a 29), .ref (a 30), .int (z.1 31), .int (z.1 32), .int (z.1 33), .int (z.1 34), .int (z.1 35), .int (z.1 36), .ref (a 37), .ref (a 38), .ref (a 39)])), (a 1, .inl (ty.1, 80, .inl (z.2 1))), (a 5, .inl (ty.1, 8, .inl (z.2 5))), (a 6, .inl (ty.1, 8, .inl (z.2 6))), (a 7, .inl (ty.1, 8, .inl (z.2 7))), (a 8, .inl (ty.1, 8, .inl (z.2 8))), (a 9, .inl (ty.1, 8, .inl (z.2 9))), (a 14, .inl (ty.1, 5, .inl (z.2 14))), (a 15, .inl (ty.1, 5, .inl (z.2 15))), (a 20, .inl (ty.1, 40, .inl (z.2 20))), (a 21, .inl (ty.1, 10, .inl (z.2 21))), (a 22, .inl (ty.1, 420, .inl (z.2 22))), (a 24, .inl (ty.1, 90, .inl (z.2 24))), (a 25, .inl (ty.2.2.1, 2, .inl (z.2 25))), (a 27, .inl (ty.1, 6, .inl (z.2 27))), (a 28, .inl (ty.1, 6, .inl (z.2 28))), (a 29, .inl (ty.1, 8, .inl (z.2 29))), (a 30, .inl (ty.1, 8, .inl (z.2 30))), (a 37, .inl (ty.1, 10, .inl (z.2 37))), (a 38, .inl (ty.1, 4, .inl (z.2 38))), (a 39, .inl (ty.1, 4, .inl (z.2 39)))]
def oX6 (h : Nat) (r : Nat → Nat) : va_W := [(h, .inr (6, [.ref (r 0), .ref (r 1), .ref (r 2), .ref (r 3), .ref (r 4), .ref (r 5), .ref (r 6), .ref (r 7)]))]
def oXA (ty : TY) (h : Nat) (aa : Nat) (z : AS) : va_W := [(h, .inr (0, [.ref aa, .int z.1])), (aa, .inl (ty.2.2.2, 10, .inr (.inr (.inr (.inr (fun j => some (z.2 j).1.1))))))]
def oXS (ty : TY) (h : Nat) (aa : Nat) (z : AS) : va_W := [(h, .inr (3, [.ref aa, .int z.1])), (aa, .inl (ty.2.2.2, 2, .inr (.inr (.inr (.inr (fun j => some (z.2 j).1.1))))))]
def oCB (ty : TY) (b : CB) : va_W := oX1 ty b.1.1 b.1.2 b.2
def oX0 (ty : TY) (h : Nat) (aa : Nat) (z : AS) : va_W := fl [oXA ty h aa z, oCB ty (z.2 0), oCB ty (z.2 1), oCB ty (z.2 2), oCB ty (z.2 3), oCB ty (z.2 4), oCB ty (z.2 5), oCB ty (z.2 6), oCB ty (z.2 7), oCB ty (z.2 8), oCB ty (z.2 9)]
def oX3 (ty : TY) (h : Nat) (aa : Nat) (z : AS) : va_W := fl [oXS ty h aa z, oCB ty (z.2 0), oCB ty (z.2 1)]
theorem oXA_up (ty : TY) (h aa : Nat) (z : AS) (k : Nat) (b : Ob) : oXA ty h aa (z.1, pI z.2 k ((z.2 k).1, b)) = oXA ty h aa z := by
  have e : (fun j : Nat => some (pI z.2 k ((z.2 k).1, b) j).1.1) = (fun j : Nat => some (z.2 j).1.1) := by
    funext j
    unfold pI
    cases hj : Nat.beq j k with
    | true => rw [Nat.eq_of_beq_eq_true hj]; rfl
    | false => rfl
  unfold oXA
  rw [e]
theorem oXS_up (ty : TY) (h aa : Nat) (z : AS) (k : Nat) (b : Ob) : oXS ty h aa (z.1, pI z.2 k ((z.2 k).1, b)) = oXS ty h aa z := by
  have e : (fun j : Nat => some (pI z.2 k ((z.2 k).1, b) j).1.1) = (fun j : Nat => some (z.2 j).1.1) := by
    funext j
    unfold pI
    cases hj : Nat.beq j k with
    | true => rw [Nat.eq_of_beq_eq_true hj]; rfl
    | false => rfl
  unfold oXS
  rw [e]
section BK
variable {p : Program} {l : Launch} {e : Env} {R : Room} {s : State} {m : MethodId} {args : Array Value} {below : List Frame} {meth : Method} {c : Code} {H : Heap} {locs : List Loc} {cells slots : Nat} {Q : State → Prop}
variable {cc : ByteArray} {nL pc : Nat} {ls : Array Slot} {rest st0 : List Value} {Ts : List Cond} {own : String} {D : va_G} {ty : TY} {A : Nat → Prop} {w w' : va_W} {H0 : Heap}
theorem CX_i (F : CallFix p m c cc nL s args Ts own) (hr : meth.sig.returnType = some .int) (hlk : meth.locks = false) (hP : va_P D vwC w' H) (hD : va_D A w') (hS : va_S A s.heap H locs) {v out : Int32} (hv : v = out) (hdg : decode cc pc = .ok (.ireturn, 1)) :
    W p l e R s m args below meth c H locs cells slots (MQ below (qI D out w' A) args s cells slots A) (F0 m pc ls [.int v]) :=
  W.iret (v := v) F.1 F.2.1 hr (fun _ ht _ => ⟨⟨v, (), rfl, hv, by rw [ht]; exact hP, hD⟩, hS.F ht⟩) hS.2.2 hdg hlk
theorem CX_z (F : CallFix p m c cc nL s args Ts own) (hr : meth.sig.returnType = some .boolean) (hlk : meth.locks = false) (hP : va_P D vwC w' H) (hD : va_D A w') (hS : va_S A s.heap H locs) {v out : Int32} (hz : narrow .boolean (.int v) = .int v) (hv : v = out) (hdg : decode cc pc = .ok (.ireturn, 1)) :
    W p l e R s m args below meth c H locs cells slots (MQ below (qI D out w' A) args s cells slots A) (F0 m pc ls [.int v]) :=
  W.zret (v := v) F.1 F.2.1 hr hz (fun _ ht _ => ⟨⟨v, (), rfl, hv, by rw [ht]; exact hP, hD⟩, hS.F ht⟩) hS.2.2 hdg hlk
theorem CX_l (F : CallFix p m c cc nL s args Ts own) (hr : meth.sig.returnType = some .long) (hlk : meth.locks = false) (hP : va_P D vwC w' H) (hD : va_D A w') (hS : va_S A s.heap H locs) {v out : Int64} (hv : v = out) (hdg : decode cc pc = .ok (.lreturn, 1)) :
    W p l e R s m args below meth c H locs cells slots (MQ below (qL D out w' A) args s cells slots A) (F0 m pc ls [.long v]) :=
  W.lret (v := v) F.1 F.2.1 hr (fun _ ht _ => ⟨⟨v, (), rfl, hv, by rw [ht]; exact hP, hD⟩, hS.F ht⟩) hS.2.2 hdg hlk
theorem CX_v (F : CallFix p m c cc nL s args Ts own) (hr : meth.sig.returnType = none) (hlk : meth.locks = false) (hP : va_P D vwC w' H) (hD : va_D A w') (hS : va_S A s.heap H locs) (hdg : decode cc pc = .ok (.return_, 1)) :
    W p l e R s m args below meth c H locs cells slots (MQ below (qV D w' A) args s cells slots A) (F0 m pc ls []) :=
  W.vret F.1 F.2.1 hr (fun _ ht _ => ⟨⟨(), rfl, trivial, by rw [ht]; exact hP, hD⟩, hS.F ht⟩) hS.2.2 hdg hlk
theorem CX_r {x : Nat} (F : CallFix p m c cc nL s args Ts own) (hr : meth.sig.returnType = some (.object "LouderRoom$Crowd")) (hlk : meth.locks = false) (hP : va_P D vwC w' H) (hD : va_D A w') (hS : va_S A s.heap H locs) (hdg : decode cc pc = .ok (.areturn, 1)) :
    W p l e R s m args below meth c H locs cells slots (MQ below (qR D x w' A) args s cells slots A) (F0 m pc ls [.ref x]) :=
  W.aret (v := .ref x) F.1 F.2.1 hr (Or.inl ⟨_, rfl⟩) (Or.inr ⟨x, rfl⟩) (fun _ ht _ => ⟨⟨(), x, rfl, trivial, rfl, by rw [ht]; exact hP, hD⟩, hS.F ht⟩) hS.2.2 hdg hlk
theorem pre_v {C : String} {b : Addr} {As : List Value} {os oc or_ : List va_W} {ci : Nat} {q : vw_C} {fs : List Value} (hK : KN D ty s) (hP : va_P D vwC (fl os) H) (hD : va_D A (fl os)) (hp : List.Perm os (oc ++ or_)) (he : (fl oc)[0]? = some (b, .inr (ci, fs))) (hc : vwC[ci]? = some q) (hq : q.1 = C) : PreV s H C b (pcW (.ref b :: As) D ty (fl oc) H.size) As := by
  have hp2 := hp.flatten
  rw [List.flatten_append] at hp2
  have hPc : va_P D vwC (fl oc) H := va_P_mem.mpr fun q hq => va_P_mem.mp (va_P_perm hp2 hP) q (List.mem_append_left _ hq)
  have hDc : va_D (fun _ => True) (fl oc) := va_D_iff.mpr ⟨(List.nodup_append.mp (List.map_append ▸ (va_D_iff.mp (va_D_perm hp2 hD)).1)).1, fun _ _ => trivial⟩
  subst hq
  exact ⟨pcW_blind, va_recv hK.1 hPc hc he, fun U hU hW => ⟨rfl, by rw [hU], by rw [hU]; exact hPc, hK.moved hW, hDc⟩⟩
theorem pre_s {As : List Value} {os oc or_ : List va_W} (hK : KN D ty s) (hP : va_P D vwC (fl os) H) (hD : va_D A (fl os)) (hp : List.Perm os (oc ++ or_)) : PreS s H (pcW As D ty (fl oc) H.size) As := by
  have hp2 := hp.flatten
  rw [List.flatten_append] at hp2
  have hPc : va_P D vwC (fl oc) H := va_P_mem.mpr fun q hq => va_P_mem.mp (va_P_perm hp2 hP) q (List.mem_append_left _ hq)
  have hDc : va_D (fun _ => True) (fl oc) := va_D_iff.mpr ⟨(List.nodup_append.mp (List.map_append ▸ (va_D_iff.mp (va_D_perm hp2 hD)).1)).1, fun _ _ => trivial⟩
  exact ⟨pcW_blind, fun U hU hW => ⟨rfl, by rw [hU], by rw [hU]; exact hPc, hK.moved hW, hDc⟩⟩
theorem cut_F {os oc or_ : List va_W} (hD : va_D A (fl os)) (hp : List.Perm os (oc ++ or_)) (hS : va_S A H0 H locs) (hA : ∀ q : Nat, H0.size ≤ q → A q) : ∀ q, va_A (fl oc) H.size q → A q := by
  have hp2 := hp.flatten
  rw [List.flatten_append] at hp2
  intro q h
  rcases va_A_mem.mp h with ⟨e, h⟩ | h
  · exact (va_D_iff.mp (va_D_perm hp2 hD)).2 (q, e) (List.mem_append_left _ h)
  · exact hA q (Nat.le_trans hS.1 h)
theorem join_F {os oc oc' or_ os' : List va_W} {H1 : Heap} (hP : va_P D vwC (fl os) H) (hD : va_D A (fl os)) (hp : List.Perm os (oc ++ or_)) (hp' : List.Perm (oc' ++ or_) os') (hk : ∀ q : Nat, q < H.size → ¬ va_A (fl oc) H.size q → H1[q]? = H[q]?) (hF : ∀ q, va_A (fl oc) H.size q → A q) (hP1 : va_P D vwC (fl oc') H1) (hD1 : va_D (va_A (fl oc) H.size) (fl oc')) : va_P D vwC (fl os') H1 ∧ va_D A (fl os') := by
  have hp2 := hp.flatten
  have hp3 := hp'.flatten
  rw [List.flatten_append] at hp2 hp3
  obtain ⟨h1, h2⟩ := va_fr (va_P_perm hp2 hP) (va_D_perm hp2 hD) hk hF hP1 hD1
  exact ⟨va_P_perm hp3 h1, va_D_perm hp3 h2⟩
theorem ci_call {a : Array Value} {os oc oc' or_ os' : List va_W} {out : Int32} (hr : va_Run p l e R s m args below meth c H locs cells slots 0 0 (F0 m pc ls st0) rest (qI D out (fl oc') (va_A (fl oc) H.size) a) (va_A (fl oc) H.size)) (hp : List.Perm os (oc ++ or_)) (hp' : List.Perm (oc' ++ or_) os') (hP : va_P D vwC (fl os) H) (hD : va_D A (fl os)) (hS : va_S A H0 H locs) (hA : ∀ q : Nat, H0.size ≤ q → A q)
    (kk : ∀ (H1 : Heap) (locs1 : List Loc), va_P D vwC (fl os') H1 → va_D A (fl os') → va_S A H0 H1 locs1 → W p l e R s m args below meth c H1 locs1 cells slots Q (F0 m (pc + 3) ls (.int out :: rest))) : W p l e R s m args below meth c H locs cells slots Q (F0 m pc ls st0) := by
  have hF := cut_F hD hp hS hA
  refine va_calli hr hS (fun q _ h => hF q h) hF (fun r u t H1 locs1 ht hvm hw hB hz hk hS1 => ?_)
  subst hw
  obtain ⟨hP1, hD1⟩ := hB
  rw [ht] at hP1
  obtain ⟨h1, h2⟩ := join_F hP hD hp hp' hk hF hP1 hD1
  exact kk H1 locs1 h1 h2 hS1
theorem cl_call {a : Array Value} {os oc oc' or_ os' : List va_W} {out : Int64} (hr : va_Run p l e R s m args below meth c H locs cells slots 0 0 (F0 m pc ls st0) rest (qL D out (fl oc') (va_A (fl oc) H.size) a) (va_A (fl oc) H.size)) (hp : List.Perm os (oc ++ or_)) (hp' : List.Perm (oc' ++ or_) os') (hP : va_P D vwC (fl os) H) (hD : va_D A (fl os)) (hS : va_S A H0 H locs) (hA : ∀ q : Nat, H0.size ≤ q → A q)
    (kk : ∀ (H1 : Heap) (locs1 : List Loc), va_P D vwC (fl os') H1 → va_D A (fl os') → va_S A H0 H1 locs1 → W p l e R s m args below meth c H1 locs1 cells slots Q (F0 m (pc + 3) ls (.long out :: rest))) : W p l e R s m args below meth c H locs cells slots Q (F0 m pc ls st0) := by
  have hF := cut_F hD hp hS hA
  refine va_calll hr hS (fun q _ h => hF q h) hF (fun r u t H1 locs1 ht hvm hw hB hz hk hS1 => ?_)
  subst hw
  obtain ⟨hP1, hD1⟩ := hB
  rw [ht] at hP1
  obtain ⟨h1, h2⟩ := join_F hP hD hp hp' hk hF hP1 hD1
  exact kk H1 locs1 h1 h2 hS1
theorem cr_call {a : Array Value} {os oc oc' or_ os' : List va_W} {out : Nat} (hr : va_Run p l e R s m args below meth c H locs cells slots 0 0 (F0 m pc ls st0) rest (qR D out (fl oc') (va_A (fl oc) H.size) a) (va_A (fl oc) H.size)) (hp : List.Perm os (oc ++ or_)) (hp' : List.Perm (oc' ++ or_) os') (hP : va_P D vwC (fl os) H) (hD : va_D A (fl os)) (hS : va_S A H0 H locs) (hA : ∀ q : Nat, H0.size ≤ q → A q)
    (kk : ∀ (H1 : Heap) (locs1 : List Loc), va_P D vwC (fl os') H1 → va_D A (fl os') → va_S A H0 H1 locs1 → W p l e R s m args below meth c H1 locs1 cells slots Q (F0 m (pc + 3) ls (.ref out :: rest))) : W p l e R s m args below meth c H locs cells slots Q (F0 m pc ls st0) := by
  have hF := cut_F hD hp hS hA
  refine va_callr hr hS (fun q _ h => hF q h) hF (fun u ra t H1 locs1 ht hvm hw hB hz hk hS1 => ?_)
  obtain ⟨ea, hP1, hD1⟩ := hB
  subst ea
  rw [ht] at hP1
  obtain ⟨h1, h2⟩ := join_F hP hD hp hp' hk hF hP1 hD1
  exact kk H1 locs1 h1 h2 hS1
theorem cv_call {a : Array Value} {os oc oc' or_ os' : List va_W} {mc ms : Nat} (hr : va_Run p l e R s m args below meth c H locs cells slots mc ms (F0 m pc ls st0) rest (qV D (fl oc') (va_A (fl oc) H.size) a) (va_A (fl oc) H.size)) (hp : List.Perm os (oc ++ or_)) (hp' : List.Perm (oc' ++ or_) os') (hP : va_P D vwC (fl os) H) (hD : va_D A (fl os)) (hS : va_S A H0 H locs) (hA : ∀ q : Nat, H0.size ≤ q → A q)
    (kk : ∀ (H1 : Heap) (locs1 : List Loc), va_P D vwC (fl os') H1 → va_D A (fl os') → va_S A H0 H1 locs1 → W p l e R s m args below meth c H1 locs1 (cells + mc) (slots + ms) Q (F0 m (pc + 3) ls rest)) : W p l e R s m args below meth c H locs cells slots Q (F0 m pc ls st0) := by
  have hF := cut_F hD hp hS hA
  refine va_callv hr hS (fun q _ h => hF q h) hF (fun u t H1 locs1 ht hvm hw hB hz hk hS1 => ?_)
  obtain ⟨hP1, hD1⟩ := hB
  rw [ht] at hP1
  obtain ⟨h1, h2⟩ := join_F hP hD hp hp' hk hF hP1 hD1
  exact kk H1 locs1 h1 h2 hS1
theorem pt_put (F : CallFix p m c cc nL s args Ts own) {ref C : String} {T : u_T} {N ci index a : Nat} {cl : List vw_C} {tys : List (ClassId × FieldType)} {ws w1 : va_W} (hin : ∀ w ∈ u_ws C T N, w ∈ Ts) (ty0 : Nat → FieldType) (hty : ∀ k, k < N → parseFieldDescriptor (T k).2.2.1 = some (ty0 k)) (hnm : ∀ a, a < N → ∀ b, b < N → a ≠ b → (T a).2.1 ≠ (T b).2.1) (hK : va_K D cl tys s) (hP : va_P D cl ws H) (hD : va_D A ws) (hS0 : va_S A H0 H locs) (q0 : Nat) {fs : List Value} (he : ws[q0]? = some (a, .inr (ci, fs))) (hc : cl[ci]? = some (C, T, N)) (k : Nat) (hk : k < N) (hlink : (Cond.fieldLink own index ref (T k).2.1 (T k).2.2.1).before args s = true) (hsame : ∀ x, s.fieldFound? (T k).1 (T k).2.1 (T k).2.2.1 = some x → s.fieldFound? ref (T k).2.1 (T k).2.2.1 = some x) (hfin : (T k).2.2.2 = false) {fty : FieldType} {v : Value} (hd : parseFieldDescriptor (T k).2.2.1 = some fty) (hn : narrow fty v = v) (hfit : fits fty v = true) (hl : k < fs.length) (hw : ws.set q0 (a, .inr (ci, fs.set k v)) = w1)
    (hdg : decode cc pc = .ok (.putfield index, 3)) (kk : ∀ (H1 : Heap) (locs1 : List Loc), va_P D cl w1 H1 → va_D A w1 → va_S A H0 H1 locs1 → W p l e R s m args below meth c H1 locs1 cells slots Q (F0 m (pc + 3) ls rest)) : W p l e R s m args below meth c H locs cells slots Q (F0 m pc ls (v :: .ref a :: rest)) := by
  subst hw
  exact va_put F.1 F.2.1 F.2.2.2.2 hin ty0 hty hnm F.2.2.2.1 hK hP hD hS0 q0 he hc k hk hlink hsame hfin hd hn hfit hl hdg kk
theorem pt_putN (F : CallFix p m c cc nL s args Ts own) {ref C host : String} {T : u_T} {N ci index a : Nat} {cl : List vw_C} {tys : List (ClassId × FieldType)} {ws w1 : va_W} (hin : ∀ w ∈ u_ws C T N, w ∈ Ts) (ty0 : Nat → FieldType) (hty : ∀ k, k < N → parseFieldDescriptor (T k).2.2.1 = some (ty0 k)) (hnm : ∀ a, a < N → ∀ b, b < N → a ≠ b → (T a).2.1 ≠ (T b).2.1) (hK : va_K D cl tys s) (hP : va_P D cl ws H) (hD : va_D A ws) (hS0 : va_S A H0 H locs) (q0 : Nat) {fs : List Value} (he : ws[q0]? = some (a, .inr (ci, fs))) (hc : cl[ci]? = some (C, T, N)) (k : Nat) (hk : k < N) (hlink : (Cond.fieldLinkNest own index ref (T k).2.1 (T k).2.2.1 host).before args s = true) (hsame : ∀ x, s.fieldFound? (T k).1 (T k).2.1 (T k).2.2.1 = some x → s.fieldFound? ref (T k).2.1 (T k).2.2.1 = some x) (hfin : (T k).2.2.2 = false) {fty : FieldType} {v : Value} (hd : parseFieldDescriptor (T k).2.2.1 = some fty) (hn : narrow fty v = v) (hfit : fits fty v = true) (hl : k < fs.length) (hw : ws.set q0 (a, .inr (ci, fs.set k v)) = w1)
    (hdg : decode cc pc = .ok (.putfield index, 3)) (kk : ∀ (H1 : Heap) (locs1 : List Loc), va_P D cl w1 H1 → va_D A w1 → va_S A H0 H1 locs1 → W p l e R s m args below meth c H1 locs1 cells slots Q (F0 m (pc + 3) ls rest)) : W p l e R s m args below meth c H locs cells slots Q (F0 m pc ls (v :: .ref a :: rest)) := by
  subst hw
  exact va_putN F.1 F.2.1 F.2.2.2.2 hin ty0 hty hnm F.2.2.2.1 hK hP hD hS0 q0 he hc k hk hlink hsame hfin hd hn hfit hl hdg kk
theorem pt_iast (F : CallFix p m c cc nL s args Ts own) {a : Nat} {cl : List vw_C} {tys : List (ClassId × FieldType)} {ws w1 : va_W} (hK : va_K D cl tys s) (hP : va_P D cl ws H) (hD : va_D A ws) (hS : va_S A H0 H locs) (q0 t0 : Nat) {cA : ClassId} {n : Nat} {f : Nat → Int32} (ha : ws[q0]? = some (a, .inl (cA, n, .inl f))) (ht : tys[t0]? = some (cA, .int)) {i : Int32} {x : Int32} (hin : vp_in i n) (hw : ws.set q0 (a, .inl (cA, n, .inl (upd f i.toNatClampNeg x))) = w1) (hdg : decode cc pc = .ok (.iastore, 1))
    (kk : ∀ (H1 : Heap) (locs1 : List Loc), va_P D cl w1 H1 → va_D A w1 → va_S A H0 H1 locs1 → W p l e R s m args below meth c H1 locs1 cells slots Q (F0 m (pc + 1) ls rest)) : W p l e R s m args below meth c H locs cells slots Q (F0 m pc ls (.int x :: .int i :: .ref a :: rest)) := by
  subst hw
  exact va_iast F.1 F.2.1 hK hP hD hS q0 t0 ha ht hin hdg kk
theorem pt_bast (F : CallFix p m c cc nL s args Ts own) {a : Nat} {cl : List vw_C} {tys : List (ClassId × FieldType)} {ws w1 : va_W} (hK : va_K D cl tys s) (hP : va_P D cl ws H) (hD : va_D A ws) (hS : va_S A H0 H locs) (q0 t0 : Nat) {cA : ClassId} {n : Nat} {f : Nat → Int32} (ha : ws[q0]? = some (a, .inl (cA, n, .inl f))) (ht : tys[t0]? = some (cA, .byte)) {i : Int32} {x : Int32} (hin : vp_in i n) (hw : ws.set q0 (a, .inl (cA, n, .inl (upd f i.toNatClampNeg (vp_nar .byte x)))) = w1) (hdg : decode cc pc = .ok (.bastore, 1))
    (kk : ∀ (H1 : Heap) (locs1 : List Loc), va_P D cl w1 H1 → va_D A w1 → va_S A H0 H1 locs1 → W p l e R s m args below meth c H1 locs1 cells slots Q (F0 m (pc + 1) ls rest)) : W p l e R s m args below meth c H locs cells slots Q (F0 m pc ls (.int x :: .int i :: .ref a :: rest)) := by
  subst hw
  exact va_bast F.1 F.2.1 hK hP hD hS q0 t0 ha ht hin hdg kk
theorem pt_zast (F : CallFix p m c cc nL s args Ts own) {a : Nat} {cl : List vw_C} {tys : List (ClassId × FieldType)} {ws w1 : va_W} (hK : va_K D cl tys s) (hP : va_P D cl ws H) (hD : va_D A ws) (hS : va_S A H0 H locs) (q0 t0 : Nat) {cA : ClassId} {n : Nat} {f : Nat → Int32} (ha : ws[q0]? = some (a, .inl (cA, n, .inl f))) (ht : tys[t0]? = some (cA, .boolean)) {i : Int32} {x : Int32} (hin : vp_in i n) (hw : ws.set q0 (a, .inl (cA, n, .inl (upd f i.toNatClampNeg (vp_nar .boolean x)))) = w1) (hdg : decode cc pc = .ok (.bastore, 1))
    (kk : ∀ (H1 : Heap) (locs1 : List Loc), va_P D cl w1 H1 → va_D A w1 → va_S A H0 H1 locs1 → W p l e R s m args below meth c H1 locs1 cells slots Q (F0 m (pc + 1) ls rest)) : W p l e R s m args below meth c H locs cells slots Q (F0 m pc ls (.int x :: .int i :: .ref a :: rest)) := by
  subst hw
  exact va_zast F.1 F.2.1 hK hP hD hS q0 t0 ha ht hin hdg kk
end BK
