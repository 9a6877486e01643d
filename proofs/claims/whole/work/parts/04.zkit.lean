/-! the judgement Z: a state of one method, symbolic: place, locals, stack, world; and a rule an instruction -/
def zNeed (j : Nat) : Int32 := ([0, 0, 0, 1, 1, 2, 1, 2, 2, 2, 2, 2, 2, 2, 0, 1, 2, 1, 0] : List Int32).getD j 0
def zGrow (j : Nat) : Int32 := ([1, 1, 1, -1, 1, 0, -1, -1, -1, -1, -1, -1, -1, -1, 0, -1, -2, 0, 0] : List Int32).getD j 0
def zArgs (j : Nat) : Int32 := ([2, 3, 3, 2] : List Int32).getD j 0
/-- what stays: the classes' places, the array classes of int, Program and int[], the tables' addresses -/
abbrev zE : Type := va_G × ClassId × ClassId × ClassId × Nat × Nat × Nat
abbrev zcI (E : zE) : ClassId := E.2.1
abbrev zcP (E : zE) : ClassId := E.2.2.1
abbrev zcG (E : zE) : ClassId := E.2.2.2.1
abbrev ztN (E : zE) : Nat := E.2.2.2.2.1
abbrev ztG (E : zE) : Nat := E.2.2.2.2.2.1
abbrev ztA (E : zE) : Nat := E.2.2.2.2.2.2
abbrev zT (E : zE) : List (ClassId × FieldType) := [(zcI E, .int), (zcP E, .object "GrindField$Program"), (zcG E, .array .int)]
/-- an int array, an object, an array of references -/
abbrev zi (E : zE) (n : Nat) (f : Nat → Int32) : va_E := .inl (zcI E, n, .inl f)
abbrev zo (k : Nat) (fs : List Value) : va_E := .inr (k, fs)
abbrev zp (E : zE) (n : Nat) (f : Nat → Option Nat) : va_E := .inl (zcP E, n, .inr (.inr (.inr (.inr f))))
abbrev zg (E : zE) (n : Nat) (f : Nat → Option Nat) : va_E := .inl (zcG E, n, .inr (.inr (.inr (.inr f))))
/-- the links between nest mates, the arrays over Program and int[] -/
def zAOA (U : State) : Prop := (Cond.arrayOver (.array .int)).before #[] U = true
theorem zAOA.moved {u U : State} (hvm : u.vm.Alike U.vm) (h : zAOA u) : zAOA U := by
  have h1 : (Cond.arrayOver (.array .int)).before #[] (u.setVm U.vm) = true := (Cond.arrayOver_setVmC (args := #[]) hvm (.array .int)).trans h
  have h2 : (Cond.arrayOver (.array .int)).before #[] U = (Cond.arrayOver (.array .int)).before #[] (u.setVm U.vm) := by
    unfold Cond.before Cond.holds
    simp only [Cond.value]
    rfl
  exact h2.trans h1
def zN (U : State) : Prop := (va_Nw (.methodLinkNest RX6 40 yX0_init RX6) U ∧ va_Nw (.methodLinkNest RX1 11 yX3_init RX6) U ∧ va_Nw (.methodLinkNest RX1 24 yX2_init RX6) U ∧ va_Nw (.methodLinkNest RX0 65 yX6_isJump RX6) U ∧ va_Nw (.methodLinkNest RX3 75 yX6_isJump RX6) U ∧ va_Nw (.methodLinkNest RX3 82 yX6_isCombination RX6) U) ∧ va_AO "GrindField$Program" U ∧ zAOA U
theorem zN.step {u U : State} (hW : u.WarmedH U.vm) (h : zN u) : zN U := by
  obtain ⟨⟨h1, h2, h3, h4, h5, h6⟩, h7, h8⟩ := h
  exact ⟨⟨h1.warmM hW, h2.warmM hW, h3.warmM hW, h4.warmM hW, h5.warmM hW, h6.warmM hW⟩, h7.moved hW.alike, h8.moved hW.alike⟩
def zS (E : zE) (A : Nat → Prop) (U : State) : Prop := zN U ∧
  (va_Z "GrindField$Checker" "NEEDED" "[I" (.ref (ztN E)) A U U.heap ∧ va_T .int (ztN E) 19 (fun j => .int (zNeed j)) A U U.heap) ∧
  (va_Z "GrindField$Checker" "GROWTH" "[I" (.ref (ztG E)) A U U.heap ∧ va_T .int (ztG E) 19 (fun j => .int (zGrow j)) A U U.heap) ∧
  (va_Z "GrindFieldModel" "ARGUMENTS" "[I" (.ref (ztA E)) A U U.heap ∧ va_T .int (ztA E) 4 (fun j => .int (zArgs j)) A U U.heap)
theorem zS.step {E : zE} {A B : Nat → Prop} {u U : State} (h : zS E A u) (hW : u.WarmedH U.vm) (hq : ∀ a : Nat, a < u.heap.size → ¬ A a → U.heap[a]? = u.heap[a]?) (hAB : ∀ q, B q → A q) : zS E B U := by
  obtain ⟨n0, ⟨a1, a2⟩, ⟨b1, b2⟩, ⟨c1, c2⟩⟩ := h
  have hvm := hW.alike
  exact ⟨n0.step hW, ⟨((a1.moved hvm).kept hq).narrow hAB, ((a2.moved hvm).kept hq).narrow hAB⟩, ⟨((b1.moved hvm).kept hq).narrow hAB, ((b2.moved hvm).kept hq).narrow hAB⟩, ⟨((c1.moved hvm).kept hq).narrow hAB, ((c2.moved hvm).kept hq).narrow hAB⟩⟩
/-- what a method's walk rests on, from its entry to its end -/
def zC (E : zE) (p : Program) (s : State) (m : MethodId) (args : Array Value) (meth : Method) (c : Code) (cc : ByteArray) (nL : Nat) (ret : Option FieldType) (own : String) (Ts : List Cond) (A : Nat → Prop) : Prop :=
  p.tables.exec = Jvm.exec ∧ c.code = cc ∧ meth.sig.returnType = ret ∧ c.maxLocals = nL ∧ s.vm.findClass own = some m.cls ∧ (∀ w ∈ Ts, w.before args s = true) ∧ meth.locks = false ∧ va_K E.1 vwCl (zT E) s ∧ (∀ q : Nat, s.heap.size ≤ q → A q) ∧ zS E A s
def Z (E : zE) (p : Program) (l : Launch) (e : Env) (R : Room) (s : State) (m : MethodId) (args : Array Value) (below : List Frame) (meth : Method) (c : Code) (Q : State → Prop) (A : Nat → Prop) (nL : Nat) (pc : Nat) (L : List (Nat × Value)) (st : List Value) (ws : va_W) (cells slots : Nat) : Prop :=
  ∀ (H : Heap) (locs : List Loc) (ls : Array Slot), va_P E.1 vwCl ws H → va_D A ws → va_S A s.heap H locs → lv_has ls nL L → W p l e R s m args below meth c H locs cells slots Q (F0 m pc ls st)
abbrev zPost (E : zE) (A : Nat → Prop) (w : va_W) (t : State) : Prop := va_P E.1 vwCl w t.heap ∧ va_K E.1 vwCl (zT E) t ∧ va_D A w
def zPre (E : zE) (av : List Value) (w0 : va_W) (sz : Nat) : Array Value → State → Prop :=
  va_Pc av (fun U => U.heap.size = sz ∧ va_P E.1 vwCl w0 U.heap ∧ va_K E.1 vwCl (zT E) U ∧ va_D (fun _ => True) w0 ∧ zS E (va_A w0 sz) U)
def zMi (l : Launch) (E : zE) (y : MethodName) (ws : List Cond) (rm : Room) (av : List Value) (w0 : va_W) (B : Int32 → va_W → Prop) (mc ms : Nat) : Prop :=
  ∀ sz : Nat, Met l y ws rm (zPre E av w0 sz) (va_Qi B (zPost E (va_A w0 sz)) (va_A w0 sz)) mc ms (va_A w0 sz)
def zMl (l : Launch) (E : zE) (y : MethodName) (ws : List Cond) (rm : Room) (av : List Value) (w0 : va_W) (B : Int64 → va_W → Prop) (mc ms : Nat) : Prop :=
  ∀ sz : Nat, Met l y ws rm (zPre E av w0 sz) (va_Ql B (zPost E (va_A w0 sz)) (va_A w0 sz)) mc ms (va_A w0 sz)
def zMv (l : Launch) (E : zE) (y : MethodName) (ws : List Cond) (rm : Room) (av : List Value) (w0 : va_W) (B : va_W → Prop) (mc ms : Nat) : Prop :=
  ∀ sz : Nat, Met l y ws rm (zPre E av w0 sz) (va_Qv B (zPost E (va_A w0 sz)) (va_A w0 sz)) mc ms (va_A w0 sz)
theorem zPre.blind {E : zE} {av : List Value} {w0 : va_W} {sz : Nat} : FrameBlind (zPre E av w0 sz) := fun a U g mk q => by
  obtain ⟨q0, q1, qP, qK, qD, qS⟩ := q
  exact ⟨q0, q1, qP, va_K.moved (u := U) (U := U.calling g mk a) (Vm.Alike.refl U.vm) qK, qD, qS.step (U := U.calling g mk a) (State.WarmedH.refl U) (fun _ _ _ => rfl) (fun _ h => h)⟩
theorem zPre.at {E : zE} {av : List Value} {w0 : va_W} {A : Nat → Prop} {s U : State} {H : Heap} {locs : List Loc} (hP : va_P E.1 vwCl w0 H) (hK : va_K E.1 vwCl (zT E) s) (hD : va_D (fun _ => True) w0) (hx : zS E A s) (hS : va_S A s.heap H locs) (hF : ∀ q, va_A w0 H.size q → A q) (hU : U.heap = H) (hW : s.WarmedH U.vm) : zPre E av w0 H.size av.toArray U := by
  refine ⟨rfl, by rw [hU], by rw [hU]; exact hP, va_K.moved hW.alike hK, hD, ?_⟩
  exact hx.step hW (fun a h1 h2 => by rw [hU]; exact hS.2.1 a h1 h2) hF
section ZK
variable {E : zE} {p : Program} {l : Launch} {e : Env} {R : Room} {s : State} {m : MethodId} {args : Array Value} {below : List Frame} {meth : Method} {c : Code} {Q : State → Prop}
variable {cc : ByteArray} {nL : Nat} {ret : Option FieldType} {own : String} {Ts : List Cond} {A : Nat → Prop}
variable {pc : Nat} {L : List (Nat × Value)} {st : List Value} {ws : va_W} {cells slots : Nat}

theorem z_iconst (q : Nat) (C0 : zC E p s m args meth c cc nL ret own Ts A) {n : Int} {v : Int32} (hd : decode cc pc = .ok (.iconst n, 1)) (hq : pc + 1 = q) (hv : Int32.ofInt n = v) (k : Z E p l e R s m args below meth c Q A nL q L (.int v :: st) ws cells slots) : Z E p l e R s m args below meth c Q A nL pc L (st) ws cells slots := by
  subst hq
  intro H locs ls hP hD hS hl
  have hx := C0.1
  have hb := C0.2.1
  exact lv_iconst hx hb hd hv (k H locs ls hP hD hS hl)
theorem z_bipush (q : Nat) (C0 : zC E p s m args meth c cc nL ret own Ts A) {n : Int} {v : Int32} (hd : decode cc pc = .ok (.bipush n, 2)) (hq : pc + 2 = q) (hv : (Int8.ofInt n).toInt32 = v) (k : Z E p l e R s m args below meth c Q A nL q L (.int v :: st) ws cells slots) : Z E p l e R s m args below meth c Q A nL pc L (st) ws cells slots := by
  subst hq
  intro H locs ls hP hD hS hl
  have hx := C0.1
  have hb := C0.2.1
  exact lv_bipush hx hb hd hv (k H locs ls hP hD hS hl)
theorem z_sipush (q : Nat) (C0 : zC E p s m args meth c cc nL ret own Ts A) {n : Int} {v : Int32} (hd : decode cc pc = .ok (.sipush n, 3)) (hq : pc + 3 = q) (hv : (Int16.ofInt n).toInt32 = v) (k : Z E p l e R s m args below meth c Q A nL q L (.int v :: st) ws cells slots) : Z E p l e R s m args below meth c Q A nL pc L (st) ws cells slots := by
  subst hq
  intro H locs ls hP hD hS hl
  have hx := C0.1
  have hb := C0.2.1
  exact lv_sipush hx hb hd hv (k H locs ls hP hD hS hl)
theorem z_ldc2 (q : Nat) (C0 : zC E p s m args meth c cc nL ret own Ts A) {v : Int64} {i : Nat} (hw : Cond.constantLong own i v ∈ Ts) (hd : decode cc pc = .ok (.ldc2_w i, 3)) (hq : pc + 3 = q) (k : Z E p l e R s m args below meth c Q A nL q L (.long v :: st) ws cells slots) : Z E p l e R s m args below meth c Q A nL pc L st ws cells slots := by
  subst hq
  intro H locs ls hP hD hS hl
  have hx := C0.1
  have hb := C0.2.1
  exact lv_ldc2 hx hb C0.2.2.2.2.1 (C0.2.2.2.2.2.1 _ hw) hd (k H locs ls hP hD hS hl)
theorem z_ldcw (q : Nat) (C0 : zC E p s m args meth c cc nL ret own Ts A) {v : Int32} {i : Nat} (hw : Cond.constant own i v ∈ Ts) (hd : decode cc pc = .ok (.ldc_w i, 3)) (hq : pc + 3 = q) (k : Z E p l e R s m args below meth c Q A nL q L (.int v :: st) ws cells slots) : Z E p l e R s m args below meth c Q A nL pc L st ws cells slots := by
  subst hq
  intro H locs ls hP hD hS hl
  have hx := C0.1
  have hb := C0.2.1
  exact lv_ldcw hx hb C0.2.2.2.2.1 (C0.2.2.2.2.2.1 _ hw) hd (k H locs ls hP hD hS hl)
theorem z_iload_n (q : Nat) (C0 : zC E p s m args meth c cc nL ret own Ts A) (j : Nat) {kk : Fin 4} {i : Nat} {x : Int32} (hd : decode cc pc = .ok (.iload_n kk, 1)) (hq : pc + 1 = q) (hi : (kk : Nat) = i) (hj : L[j]? = some (i, .int x)) (k : Z E p l e R s m args below meth c Q A nL q L (.int x :: st) ws cells slots) : Z E p l e R s m args below meth c Q A nL pc L st ws cells slots := by
  subst hq
  intro H locs ls hP hD hS hl
  have hx := C0.1
  have hb := C0.2.1
  exact lv_iload_n hx hb hd hi (lv_at hl j hj) (k H locs ls hP hD hS hl)
theorem z_iload (q : Nat) (C0 : zC E p s m args meth c cc nL ret own Ts A) (j : Nat) {i : Nat} {x : Int32} (hd : decode cc pc = .ok (.iload i, 2)) (hq : pc + 2 = q) (hj : L[j]? = some (i, .int x)) (k : Z E p l e R s m args below meth c Q A nL q L (.int x :: st) ws cells slots) : Z E p l e R s m args below meth c Q A nL pc L st ws cells slots := by
  subst hq
  intro H locs ls hP hD hS hl
  have hx := C0.1
  have hb := C0.2.1
  exact lv_iload hx hb hd (lv_at hl j hj) (k H locs ls hP hD hS hl)
theorem z_aload_n (q : Nat) (C0 : zC E p s m args meth c cc nL ret own Ts A) (j : Nat) {kk : Fin 4} {i : Nat} {x : Nat} (hd : decode cc pc = .ok (.aload_n kk, 1)) (hq : pc + 1 = q) (hi : (kk : Nat) = i) (hj : L[j]? = some (i, .ref x)) (k : Z E p l e R s m args below meth c Q A nL q L (.ref x :: st) ws cells slots) : Z E p l e R s m args below meth c Q A nL pc L st ws cells slots := by
  subst hq
  intro H locs ls hP hD hS hl
  have hx := C0.1
  have hb := C0.2.1
  exact lv_aload_n hx hb hd hi (lv_at hl j hj) (k H locs ls hP hD hS hl)
theorem z_aload (q : Nat) (C0 : zC E p s m args meth c cc nL ret own Ts A) (j : Nat) {i : Nat} {x : Nat} (hd : decode cc pc = .ok (.aload i, 2)) (hq : pc + 2 = q) (hj : L[j]? = some (i, .ref x)) (k : Z E p l e R s m args below meth c Q A nL q L (.ref x :: st) ws cells slots) : Z E p l e R s m args below meth c Q A nL pc L st ws cells slots := by
  subst hq
  intro H locs ls hP hD hS hl
  have hx := C0.1
  have hb := C0.2.1
  exact lv_aload hx hb hd (lv_at hl j hj) (k H locs ls hP hD hS hl)
theorem z_istore_n (q : Nat) (C0 : zC E p s m args meth c cc nL ret own Ts A) (ks : List Nat) (L1 : List (Nat × Value)) {kk : Fin 4} {i : Nat} {x : Int32} (hd : decode cc pc = .ok (.istore_n kk, 1)) (hq : pc + 1 = q) (hi : (kk : Nat) = i) (hn : i < nL) (hL : lv_pick ((i, Value.int x) :: L.filter (fun q => !(q.1 == i) && !(q.1 + 1 == i && q.2.category == 2))) ks = L1) (k : Z E p l e R s m args below meth c Q A nL q L1 st ws cells slots) : Z E p l e R s m args below meth c Q A nL pc L (.int x :: st) ws cells slots := by
  subst hq
  intro H locs ls hP hD hS hl
  have hx := C0.1
  have hb := C0.2.1
  exact lv_istore_n hx hb hd hi hl hn rfl (fun ls1 h1 => k H locs ls1 hP hD hS (lv_sub h1 ks hL))
theorem z_istore (q : Nat) (C0 : zC E p s m args meth c cc nL ret own Ts A) (ks : List Nat) (L1 : List (Nat × Value)) {i : Nat} {x : Int32} (hd : decode cc pc = .ok (.istore i, 2)) (hq : pc + 2 = q) (hn : i < nL) (hL : lv_pick ((i, Value.int x) :: L.filter (fun q => !(q.1 == i) && !(q.1 + 1 == i && q.2.category == 2))) ks = L1) (k : Z E p l e R s m args below meth c Q A nL q L1 st ws cells slots) : Z E p l e R s m args below meth c Q A nL pc L (.int x :: st) ws cells slots := by
  subst hq
  intro H locs ls hP hD hS hl
  have hx := C0.1
  have hb := C0.2.1
  exact lv_istore hx hb hd hl hn rfl (fun ls1 h1 => k H locs ls1 hP hD hS (lv_sub h1 ks hL))
theorem z_astore_n (q : Nat) (C0 : zC E p s m args meth c cc nL ret own Ts A) (ks : List Nat) (L1 : List (Nat × Value)) {kk : Fin 4} {i : Nat} {x : Nat} (hd : decode cc pc = .ok (.astore_n kk, 1)) (hq : pc + 1 = q) (hi : (kk : Nat) = i) (hn : i < nL) (hL : lv_pick ((i, Value.ref x) :: L.filter (fun q => !(q.1 == i) && !(q.1 + 1 == i && q.2.category == 2))) ks = L1) (k : Z E p l e R s m args below meth c Q A nL q L1 st ws cells slots) : Z E p l e R s m args below meth c Q A nL pc L (.ref x :: st) ws cells slots := by
  subst hq
  intro H locs ls hP hD hS hl
  have hx := C0.1
  have hb := C0.2.1
  exact lv_astore_n hx hb hd hi hl hn rfl (fun ls1 h1 => k H locs ls1 hP hD hS (lv_sub h1 ks hL))
theorem z_astore (q : Nat) (C0 : zC E p s m args meth c cc nL ret own Ts A) (ks : List Nat) (L1 : List (Nat × Value)) {i : Nat} {x : Nat} (hd : decode cc pc = .ok (.astore i, 2)) (hq : pc + 2 = q) (hn : i < nL) (hL : lv_pick ((i, Value.ref x) :: L.filter (fun q => !(q.1 == i) && !(q.1 + 1 == i && q.2.category == 2))) ks = L1) (k : Z E p l e R s m args below meth c Q A nL q L1 st ws cells slots) : Z E p l e R s m args below meth c Q A nL pc L (.ref x :: st) ws cells slots := by
  subst hq
  intro H locs ls hP hD hS hl
  have hx := C0.1
  have hb := C0.2.1
  exact lv_astore hx hb hd hl hn rfl (fun ls1 h1 => k H locs ls1 hP hD hS (lv_sub h1 ks hL))
theorem z_iinc (q : Nat) (C0 : zC E p s m args meth c cc nL ret own Ts A) (j : Nat) (ks : List Nat) (L1 : List (Nat × Value)) {i : Nat} {n : Int} {x v : Int32} (hd : decode cc pc = .ok (.iinc i n, 3)) (hq : pc + 3 = q) (hj : L[j]? = some (i, .int x)) (hv : x + Int32.ofInt n = v) (hn : i < nL) (hL : lv_pick ((i, Value.int v) :: L.filter (fun q => !(q.1 == i) && !(q.1 + 1 == i && q.2.category == 2))) ks = L1) (k : Z E p l e R s m args below meth c Q A nL q L1 st ws cells slots) : Z E p l e R s m args below meth c Q A nL pc L st ws cells slots := by
  subst hq
  intro H locs ls hP hD hS hl
  have hx := C0.1
  have hb := C0.2.1
  exact lv_iinc hx hb hd hl hj hv hn rfl (fun ls1 h1 => k H locs ls1 hP hD hS (lv_sub h1 ks hL))
theorem z_iadd (q : Nat) (C0 : zC E p s m args meth c cc nL ret own Ts A) {x y v : Int32} (hd : decode cc pc = .ok (.iadd, 1)) (hq : pc + 1 = q) (hv : x + y = v) (k : Z E p l e R s m args below meth c Q A nL q L (.int v :: st) ws cells slots) : Z E p l e R s m args below meth c Q A nL pc L (.int y :: .int x :: st) ws cells slots := by
  subst hq
  intro H locs ls hP hD hS hl
  have hx := C0.1
  have hb := C0.2.1
  subst hv
  exact lv_iadd hx hb hd (k H locs ls hP hD hS hl)
theorem z_isub (q : Nat) (C0 : zC E p s m args meth c cc nL ret own Ts A) {x y v : Int32} (hd : decode cc pc = .ok (.isub, 1)) (hq : pc + 1 = q) (hv : x - y = v) (k : Z E p l e R s m args below meth c Q A nL q L (.int v :: st) ws cells slots) : Z E p l e R s m args below meth c Q A nL pc L (.int y :: .int x :: st) ws cells slots := by
  subst hq
  intro H locs ls hP hD hS hl
  have hx := C0.1
  have hb := C0.2.1
  subst hv
  exact lv_isub hx hb hd (k H locs ls hP hD hS hl)
theorem z_imul (q : Nat) (C0 : zC E p s m args meth c cc nL ret own Ts A) {x y v : Int32} (hd : decode cc pc = .ok (.imul, 1)) (hq : pc + 1 = q) (hv : x * y = v) (k : Z E p l e R s m args below meth c Q A nL q L (.int v :: st) ws cells slots) : Z E p l e R s m args below meth c Q A nL pc L (.int y :: .int x :: st) ws cells slots := by
  subst hq
  intro H locs ls hP hD hS hl
  have hx := C0.1
  have hb := C0.2.1
  subst hv
  exact lv_imul hx hb hd (k H locs ls hP hD hS hl)
theorem z_iand (q : Nat) (C0 : zC E p s m args meth c cc nL ret own Ts A) {x y v : Int32} (hd : decode cc pc = .ok (.iand, 1)) (hq : pc + 1 = q) (hv : x &&& y = v) (k : Z E p l e R s m args below meth c Q A nL q L (.int v :: st) ws cells slots) : Z E p l e R s m args below meth c Q A nL pc L (.int y :: .int x :: st) ws cells slots := by
  subst hq
  intro H locs ls hP hD hS hl
  have hx := C0.1
  have hb := C0.2.1
  subst hv
  exact lv_iand hx hb hd (k H locs ls hP hD hS hl)
theorem z_ior (q : Nat) (C0 : zC E p s m args meth c cc nL ret own Ts A) {x y v : Int32} (hd : decode cc pc = .ok (.ior, 1)) (hq : pc + 1 = q) (hv : x ||| y = v) (k : Z E p l e R s m args below meth c Q A nL q L (.int v :: st) ws cells slots) : Z E p l e R s m args below meth c Q A nL pc L (.int y :: .int x :: st) ws cells slots := by
  subst hq
  intro H locs ls hP hD hS hl
  have hx := C0.1
  have hb := C0.2.1
  subst hv
  exact lv_ior hx hb hd (k H locs ls hP hD hS hl)
theorem z_ishl (q : Nat) (C0 : zC E p s m args meth c cc nL ret own Ts A) {x y v : Int32} (hd : decode cc pc = .ok (.ishl, 1)) (hq : pc + 1 = q) (hv : x <<< (y &&& 31) = v) (k : Z E p l e R s m args below meth c Q A nL q L (.int v :: st) ws cells slots) : Z E p l e R s m args below meth c Q A nL pc L (.int y :: .int x :: st) ws cells slots := by
  subst hq
  intro H locs ls hP hD hS hl
  have hx := C0.1
  have hb := C0.2.1
  subst hv
  exact lv_ishl hx hb hd (k H locs ls hP hD hS hl)
theorem z_ishr (q : Nat) (C0 : zC E p s m args meth c cc nL ret own Ts A) {x y v : Int32} (hd : decode cc pc = .ok (.ishr, 1)) (hq : pc + 1 = q) (hv : x >>> (y &&& 31) = v) (k : Z E p l e R s m args below meth c Q A nL q L (.int v :: st) ws cells slots) : Z E p l e R s m args below meth c Q A nL pc L (.int y :: .int x :: st) ws cells slots := by
  subst hq
  intro H locs ls hP hD hS hl
  have hx := C0.1
  have hb := C0.2.1
  subst hv
  exact lv_ishr hx hb hd (k H locs ls hP hD hS hl)
theorem z_idiv (q : Nat) (C0 : zC E p s m args meth c cc nL ret own Ts A) {x y v : Int32} (hd : decode cc pc = .ok (.idiv, 1)) (hq : pc + 1 = q) (hne : ¬ y = 0) (hv : x / y = v) (k : Z E p l e R s m args below meth c Q A nL q L (.int v :: st) ws cells slots) : Z E p l e R s m args below meth c Q A nL pc L (.int y :: .int x :: st) ws cells slots := by
  subst hq
  intro H locs ls hP hD hS hl
  have hx := C0.1
  have hb := C0.2.1
  subst hv
  exact lv_idiv hx hb hd hne (k H locs ls hP hD hS hl)
theorem z_irem (q : Nat) (C0 : zC E p s m args meth c cc nL ret own Ts A) {x y v : Int32} (hd : decode cc pc = .ok (.irem, 1)) (hq : pc + 1 = q) (hne : ¬ y = 0) (hv : x - x / y * y = v) (k : Z E p l e R s m args below meth c Q A nL q L (.int v :: st) ws cells slots) : Z E p l e R s m args below meth c Q A nL pc L (.int y :: .int x :: st) ws cells slots := by
  subst hq
  intro H locs ls hP hD hS hl
  have hx := C0.1
  have hb := C0.2.1
  subst hv
  exact lv_irem hx hb hd hne (k H locs ls hP hD hS hl)
theorem z_iushr (q : Nat) (C0 : zC E p s m args meth c cc nL ret own Ts A) {x y v : Int32} (hd : decode cc pc = .ok (.iushr, 1)) (hq : pc + 1 = q) (hv : (x.toUInt32 >>> (y.toUInt32 &&& Int32.toUInt32 31)).toInt32 = v) (k : Z E p l e R s m args below meth c Q A nL q L (.int v :: st) ws cells slots) : Z E p l e R s m args below meth c Q A nL pc L (.int y :: .int x :: st) ws cells slots := by
  subst hq
  intro H locs ls hP hD hS hl
  have hx := C0.1
  have hb := C0.2.1
  exact lv_iushr hx hb hd hv (k H locs ls hP hD hS hl)
theorem z_i2l (q : Nat) (C0 : zC E p s m args meth c cc nL ret own Ts A) {x : Int32} {v : Int64} (hd : decode cc pc = .ok (.i2l, 1)) (hq : pc + 1 = q) (hv : x.toInt64 = v) (k : Z E p l e R s m args below meth c Q A nL q L (.long v :: st) ws cells slots) : Z E p l e R s m args below meth c Q A nL pc L (.int x :: st) ws cells slots := by
  subst hq
  intro H locs ls hP hD hS hl
  have hx := C0.1
  have hb := C0.2.1
  exact lv_i2l hx hb hd hv (k H locs ls hP hD hS hl)
theorem z_lcmp (q : Nat) (C0 : zC E p s m args meth c cc nL ret own Ts A) {x y : Int64} (hd : decode cc pc = .ok (.lcmp, 1)) (hq : pc + 1 = q) (k : Z E p l e R s m args below meth c Q A nL q L (.int (lg_cmp x y) :: st) ws cells slots) : Z E p l e R s m args below meth c Q A nL pc L (.long y :: .long x :: st) ws cells slots := by
  subst hq
  intro H locs ls hP hD hS hl
  have hx := C0.1
  have hb := C0.2.1
  exact W.lcmp hx hb hd (k H locs ls hP hD hS hl)
theorem z_dup (q : Nat) (C0 : zC E p s m args meth c cc nL ret own Ts A) {va : Value} (hd : decode cc pc = .ok (.dup, 1)) (hq : pc + 1 = q) (hva : va.category = 1) (k : Z E p l e R s m args below meth c Q A nL q L (va :: va :: st) ws cells slots) : Z E p l e R s m args below meth c Q A nL pc L (va :: st) ws cells slots := by
  subst hq
  intro H locs ls hP hD hS hl
  have hx := C0.1
  have hb := C0.2.1
  exact lv_dup hx hb hd hva (k H locs ls hP hD hS hl)
theorem z_pop (q : Nat) (C0 : zC E p s m args meth c cc nL ret own Ts A) {va : Value} (hd : decode cc pc = .ok (.pop, 1)) (hq : pc + 1 = q) (hva : va.category = 1) (k : Z E p l e R s m args below meth c Q A nL q L st ws cells slots) : Z E p l e R s m args below meth c Q A nL pc L (va :: st) ws cells slots := by
  subst hq
  intro H locs ls hP hD hS hl
  have hx := C0.1
  have hb := C0.2.1
  exact lv_pop hx hb hd hva (k H locs ls hP hD hS hl)
theorem z_dup2 (q : Nat) (C0 : zC E p s m args meth c cc nL ret own Ts A) {va vb : Value} (hd : decode cc pc = .ok (.dup2, 1)) (hq : pc + 1 = q) (hva : va.category = 1) (hvb : vb.category = 1) (k : Z E p l e R s m args below meth c Q A nL q L (va :: vb :: va :: vb :: st) ws cells slots) : Z E p l e R s m args below meth c Q A nL pc L (va :: vb :: st) ws cells slots := by
  subst hq
  intro H locs ls hP hD hS hl
  have hx := C0.1
  have hb := C0.2.1
  exact lv_dup2_11 hx hb hd hva hvb (k H locs ls hP hD hS hl)
theorem z_goto (t : Nat) (C0 : zC E p s m args meth c cc nL ret own Ts A) {off : Int} (hd : decode cc pc = .ok (.goto off, 3)) (ht : (pc : Int) + off = (t : Int)) (k : Z E p l e R s m args below meth c Q A nL t L st ws cells slots) : Z E p l e R s m args below meth c Q A nL pc L st ws cells slots := fun H locs ls hP hD hS hl => lv_goto C0.1 C0.2.1 hd ht (k H locs ls hP hD hS hl)
theorem z_icmp_eq (q t : Nat) (C0 : zC E p s m args meth c cc nL ret own Ts A) {x y : Int32} {off : Int} (hd : decode cc pc = .ok (.if_icmp .eq off, 3)) (hq : pc + 3 = q) (ht : (pc : Int) + off = (t : Int)) (kt : x = y → Z E p l e R s m args below meth c Q A nL t L st ws cells slots) (kf : ¬ x = y → Z E p l e R s m args below meth c Q A nL q L st ws cells slots) : Z E p l e R s m args below meth c Q A nL pc L (.int y :: .int x :: st) ws cells slots := by
  subst hq
  intro H locs ls hP hD hS hl
  exact lv_icmp_eq C0.1 C0.2.1 hd ht (fun h => kt h H locs ls hP hD hS hl) (fun h => kf h H locs ls hP hD hS hl)
theorem z_if_eq (q t : Nat) (C0 : zC E p s m args meth c cc nL ret own Ts A) {x : Int32} {off : Int} (hd : decode cc pc = .ok (.ifCond .eq off, 3)) (hq : pc + 3 = q) (ht : (pc : Int) + off = (t : Int)) (kt : x = 0 → Z E p l e R s m args below meth c Q A nL t L st ws cells slots) (kf : ¬ x = 0 → Z E p l e R s m args below meth c Q A nL q L st ws cells slots) : Z E p l e R s m args below meth c Q A nL pc L (.int x :: st) ws cells slots := by
  subst hq
  intro H locs ls hP hD hS hl
  exact lv_if_eq C0.1 C0.2.1 hd ht (fun h => kt h H locs ls hP hD hS hl) (fun h => kf h H locs ls hP hD hS hl)
theorem z_icmp_ne (q t : Nat) (C0 : zC E p s m args meth c cc nL ret own Ts A) {x y : Int32} {off : Int} (hd : decode cc pc = .ok (.if_icmp .ne off, 3)) (hq : pc + 3 = q) (ht : (pc : Int) + off = (t : Int)) (kt : ¬ x = y → Z E p l e R s m args below meth c Q A nL t L st ws cells slots) (kf : x = y → Z E p l e R s m args below meth c Q A nL q L st ws cells slots) : Z E p l e R s m args below meth c Q A nL pc L (.int y :: .int x :: st) ws cells slots := by
  subst hq
  intro H locs ls hP hD hS hl
  exact lv_icmp_ne C0.1 C0.2.1 hd ht (fun h => kt h H locs ls hP hD hS hl) (fun h => kf h H locs ls hP hD hS hl)
theorem z_if_ne (q t : Nat) (C0 : zC E p s m args meth c cc nL ret own Ts A) {x : Int32} {off : Int} (hd : decode cc pc = .ok (.ifCond .ne off, 3)) (hq : pc + 3 = q) (ht : (pc : Int) + off = (t : Int)) (kt : ¬ x = 0 → Z E p l e R s m args below meth c Q A nL t L st ws cells slots) (kf : x = 0 → Z E p l e R s m args below meth c Q A nL q L st ws cells slots) : Z E p l e R s m args below meth c Q A nL pc L (.int x :: st) ws cells slots := by
  subst hq
  intro H locs ls hP hD hS hl
  exact lv_if_ne C0.1 C0.2.1 hd ht (fun h => kt h H locs ls hP hD hS hl) (fun h => kf h H locs ls hP hD hS hl)
theorem z_icmp_lt (q t : Nat) (C0 : zC E p s m args meth c cc nL ret own Ts A) {x y : Int32} {off : Int} (hd : decode cc pc = .ok (.if_icmp .lt off, 3)) (hq : pc + 3 = q) (ht : (pc : Int) + off = (t : Int)) (kt : x < y → Z E p l e R s m args below meth c Q A nL t L st ws cells slots) (kf : ¬ x < y → Z E p l e R s m args below meth c Q A nL q L st ws cells slots) : Z E p l e R s m args below meth c Q A nL pc L (.int y :: .int x :: st) ws cells slots := by
  subst hq
  intro H locs ls hP hD hS hl
  exact lv_icmp_lt C0.1 C0.2.1 hd ht (fun h => kt h H locs ls hP hD hS hl) (fun h => kf h H locs ls hP hD hS hl)
theorem z_if_lt (q t : Nat) (C0 : zC E p s m args meth c cc nL ret own Ts A) {x : Int32} {off : Int} (hd : decode cc pc = .ok (.ifCond .lt off, 3)) (hq : pc + 3 = q) (ht : (pc : Int) + off = (t : Int)) (kt : x < 0 → Z E p l e R s m args below meth c Q A nL t L st ws cells slots) (kf : ¬ x < 0 → Z E p l e R s m args below meth c Q A nL q L st ws cells slots) : Z E p l e R s m args below meth c Q A nL pc L (.int x :: st) ws cells slots := by
  subst hq
  intro H locs ls hP hD hS hl
  exact lv_if_lt C0.1 C0.2.1 hd ht (fun h => kt h H locs ls hP hD hS hl) (fun h => kf h H locs ls hP hD hS hl)
theorem z_icmp_ge (q t : Nat) (C0 : zC E p s m args meth c cc nL ret own Ts A) {x y : Int32} {off : Int} (hd : decode cc pc = .ok (.if_icmp .ge off, 3)) (hq : pc + 3 = q) (ht : (pc : Int) + off = (t : Int)) (kt : y ≤ x → Z E p l e R s m args below meth c Q A nL t L st ws cells slots) (kf : ¬ y ≤ x → Z E p l e R s m args below meth c Q A nL q L st ws cells slots) : Z E p l e R s m args below meth c Q A nL pc L (.int y :: .int x :: st) ws cells slots := by
  subst hq
  intro H locs ls hP hD hS hl
  exact lv_icmp_ge C0.1 C0.2.1 hd ht (fun h => kt h H locs ls hP hD hS hl) (fun h => kf h H locs ls hP hD hS hl)
theorem z_if_ge (q t : Nat) (C0 : zC E p s m args meth c cc nL ret own Ts A) {x : Int32} {off : Int} (hd : decode cc pc = .ok (.ifCond .ge off, 3)) (hq : pc + 3 = q) (ht : (pc : Int) + off = (t : Int)) (kt : 0 ≤ x → Z E p l e R s m args below meth c Q A nL t L st ws cells slots) (kf : ¬ 0 ≤ x → Z E p l e R s m args below meth c Q A nL q L st ws cells slots) : Z E p l e R s m args below meth c Q A nL pc L (.int x :: st) ws cells slots := by
  subst hq
  intro H locs ls hP hD hS hl
  exact lv_if_ge C0.1 C0.2.1 hd ht (fun h => kt h H locs ls hP hD hS hl) (fun h => kf h H locs ls hP hD hS hl)
theorem z_icmp_gt (q t : Nat) (C0 : zC E p s m args meth c cc nL ret own Ts A) {x y : Int32} {off : Int} (hd : decode cc pc = .ok (.if_icmp .gt off, 3)) (hq : pc + 3 = q) (ht : (pc : Int) + off = (t : Int)) (kt : y < x → Z E p l e R s m args below meth c Q A nL t L st ws cells slots) (kf : ¬ y < x → Z E p l e R s m args below meth c Q A nL q L st ws cells slots) : Z E p l e R s m args below meth c Q A nL pc L (.int y :: .int x :: st) ws cells slots := by
  subst hq
  intro H locs ls hP hD hS hl
  exact lv_icmp_gt C0.1 C0.2.1 hd ht (fun h => kt h H locs ls hP hD hS hl) (fun h => kf h H locs ls hP hD hS hl)
theorem z_if_gt (q t : Nat) (C0 : zC E p s m args meth c cc nL ret own Ts A) {x : Int32} {off : Int} (hd : decode cc pc = .ok (.ifCond .gt off, 3)) (hq : pc + 3 = q) (ht : (pc : Int) + off = (t : Int)) (kt : 0 < x → Z E p l e R s m args below meth c Q A nL t L st ws cells slots) (kf : ¬ 0 < x → Z E p l e R s m args below meth c Q A nL q L st ws cells slots) : Z E p l e R s m args below meth c Q A nL pc L (.int x :: st) ws cells slots := by
  subst hq
  intro H locs ls hP hD hS hl
  exact lv_if_gt C0.1 C0.2.1 hd ht (fun h => kt h H locs ls hP hD hS hl) (fun h => kf h H locs ls hP hD hS hl)
theorem z_icmp_le (q t : Nat) (C0 : zC E p s m args meth c cc nL ret own Ts A) {x y : Int32} {off : Int} (hd : decode cc pc = .ok (.if_icmp .le off, 3)) (hq : pc + 3 = q) (ht : (pc : Int) + off = (t : Int)) (kt : x ≤ y → Z E p l e R s m args below meth c Q A nL t L st ws cells slots) (kf : ¬ x ≤ y → Z E p l e R s m args below meth c Q A nL q L st ws cells slots) : Z E p l e R s m args below meth c Q A nL pc L (.int y :: .int x :: st) ws cells slots := by
  subst hq
  intro H locs ls hP hD hS hl
  exact lv_icmp_le C0.1 C0.2.1 hd ht (fun h => kt h H locs ls hP hD hS hl) (fun h => kf h H locs ls hP hD hS hl)
theorem z_if_le (q t : Nat) (C0 : zC E p s m args meth c cc nL ret own Ts A) {x : Int32} {off : Int} (hd : decode cc pc = .ok (.ifCond .le off, 3)) (hq : pc + 3 = q) (ht : (pc : Int) + off = (t : Int)) (kt : x ≤ 0 → Z E p l e R s m args below meth c Q A nL t L st ws cells slots) (kf : ¬ x ≤ 0 → Z E p l e R s m args below meth c Q A nL q L st ws cells slots) : Z E p l e R s m args below meth c Q A nL pc L (.int x :: st) ws cells slots := by
  subst hq
  intro H locs ls hP hD hS hl
  exact lv_if_le C0.1 C0.2.1 hd ht (fun h => kt h H locs ls hP hD hS hl) (fun h => kf h H locs ls hP hD hS hl)
theorem z_icmp_eqN (q t : Nat) (C0 : zC E p s m args meth c cc nL ret own Ts A) {a b : Nat} {off : Int} (ha : a < 2 ^ 31) (hb : b < 2 ^ 31) (hd : decode cc pc = .ok (.if_icmp .eq off, 3)) (hq : pc + 3 = q) (ht : (pc : Int) + off = (t : Int)) (kt : a = b → Z E p l e R s m args below meth c Q A nL t L st ws cells slots) (kf : a ≠ b → Z E p l e R s m args below meth c Q A nL q L st ws cells slots) : Z E p l e R s m args below meth c Q A nL pc L (.int (nI b) :: .int (nI a) :: st) ws cells slots :=
  z_icmp_eq q t C0 hd hq ht (fun h => kt ((nI_eq ha hb).mp h)) (fun h => kf (fun z => h ((nI_eq ha hb).mpr z)))
theorem z_icmp_neN (q t : Nat) (C0 : zC E p s m args meth c cc nL ret own Ts A) {a b : Nat} {off : Int} (ha : a < 2 ^ 31) (hb : b < 2 ^ 31) (hd : decode cc pc = .ok (.if_icmp .ne off, 3)) (hq : pc + 3 = q) (ht : (pc : Int) + off = (t : Int)) (kt : a ≠ b → Z E p l e R s m args below meth c Q A nL t L st ws cells slots) (kf : a = b → Z E p l e R s m args below meth c Q A nL q L st ws cells slots) : Z E p l e R s m args below meth c Q A nL pc L (.int (nI b) :: .int (nI a) :: st) ws cells slots :=
  z_icmp_ne q t C0 hd hq ht (fun h => kt (fun z => h ((nI_eq ha hb).mpr z))) (fun h => kf ((nI_eq ha hb).mp h))
theorem z_icmp_ltN (q t : Nat) (C0 : zC E p s m args meth c cc nL ret own Ts A) {a b : Nat} {off : Int} (ha : a < 2 ^ 31) (hb : b < 2 ^ 31) (hd : decode cc pc = .ok (.if_icmp .lt off, 3)) (hq : pc + 3 = q) (ht : (pc : Int) + off = (t : Int)) (kt : a < b → Z E p l e R s m args below meth c Q A nL t L st ws cells slots) (kf : b ≤ a → Z E p l e R s m args below meth c Q A nL q L st ws cells slots) : Z E p l e R s m args below meth c Q A nL pc L (.int (nI b) :: .int (nI a) :: st) ws cells slots :=
  z_icmp_lt q t C0 hd hq ht (fun h => kt ((nI_ltI ha hb).mp h)) (fun h => kf (Nat.not_lt.mp fun z => h ((nI_ltI ha hb).mpr z)))
theorem z_icmp_geN (q t : Nat) (C0 : zC E p s m args meth c cc nL ret own Ts A) {a b : Nat} {off : Int} (ha : a < 2 ^ 31) (hb : b < 2 ^ 31) (hd : decode cc pc = .ok (.if_icmp .ge off, 3)) (hq : pc + 3 = q) (ht : (pc : Int) + off = (t : Int)) (kt : b ≤ a → Z E p l e R s m args below meth c Q A nL t L st ws cells slots) (kf : a < b → Z E p l e R s m args below meth c Q A nL q L st ws cells slots) : Z E p l e R s m args below meth c Q A nL pc L (.int (nI b) :: .int (nI a) :: st) ws cells slots :=
  z_icmp_ge q t C0 hd hq ht (fun h => kt ((nI_leI hb ha).mp h)) (fun h => kf (Nat.not_le.mp fun z => h ((nI_leI hb ha).mpr z)))
theorem z_icmp_gtN (q t : Nat) (C0 : zC E p s m args meth c cc nL ret own Ts A) {a b : Nat} {off : Int} (ha : a < 2 ^ 31) (hb : b < 2 ^ 31) (hd : decode cc pc = .ok (.if_icmp .gt off, 3)) (hq : pc + 3 = q) (ht : (pc : Int) + off = (t : Int)) (kt : b < a → Z E p l e R s m args below meth c Q A nL t L st ws cells slots) (kf : a ≤ b → Z E p l e R s m args below meth c Q A nL q L st ws cells slots) : Z E p l e R s m args below meth c Q A nL pc L (.int (nI b) :: .int (nI a) :: st) ws cells slots :=
  z_icmp_gt q t C0 hd hq ht (fun h => kt ((nI_ltI hb ha).mp h)) (fun h => kf (Nat.not_lt.mp fun z => h ((nI_ltI hb ha).mpr z)))
theorem z_icmp_leN (q t : Nat) (C0 : zC E p s m args meth c cc nL ret own Ts A) {a b : Nat} {off : Int} (ha : a < 2 ^ 31) (hb : b < 2 ^ 31) (hd : decode cc pc = .ok (.if_icmp .le off, 3)) (hq : pc + 3 = q) (ht : (pc : Int) + off = (t : Int)) (kt : a ≤ b → Z E p l e R s m args below meth c Q A nL t L st ws cells slots) (kf : b < a → Z E p l e R s m args below meth c Q A nL q L st ws cells slots) : Z E p l e R s m args below meth c Q A nL pc L (.int (nI b) :: .int (nI a) :: st) ws cells slots :=
  z_icmp_le q t C0 hd hq ht (fun h => kt ((nI_leI ha hb).mp h)) (fun h => kf (Nat.not_le.mp fun z => h ((nI_leI ha hb).mpr z)))
theorem z_if_eqN (q t : Nat) (C0 : zC E p s m args meth c cc nL ret own Ts A) {a : Nat} {off : Int} (ha : a < 2 ^ 31) (hd : decode cc pc = .ok (.ifCond .eq off, 3)) (hq : pc + 3 = q) (ht : (pc : Int) + off = (t : Int)) (kt : a = 0 → Z E p l e R s m args below meth c Q A nL t L st ws cells slots) (kf : a ≠ 0 → Z E p l e R s m args below meth c Q A nL q L st ws cells slots) : Z E p l e R s m args below meth c Q A nL pc L (.int (nI a) :: st) ws cells slots :=
  z_if_eq q t C0 hd hq ht (fun h => kt ((nI_eq ha (Nat.le_of_ble_eq_true rfl)).mp (h.trans nI_0.symm))) (fun h => kf (fun z => h (by rw [z]; exact nI_0)))
theorem z_if_neN (q t : Nat) (C0 : zC E p s m args meth c cc nL ret own Ts A) {a : Nat} {off : Int} (ha : a < 2 ^ 31) (hd : decode cc pc = .ok (.ifCond .ne off, 3)) (hq : pc + 3 = q) (ht : (pc : Int) + off = (t : Int)) (kt : a ≠ 0 → Z E p l e R s m args below meth c Q A nL t L st ws cells slots) (kf : a = 0 → Z E p l e R s m args below meth c Q A nL q L st ws cells slots) : Z E p l e R s m args below meth c Q A nL pc L (.int (nI a) :: st) ws cells slots :=
  z_if_ne q t C0 hd hq ht (fun h => kt (fun z => h (by rw [z]; exact nI_0))) (fun h => kf ((nI_eq ha (Nat.le_of_ble_eq_true rfl)).mp (h.trans nI_0.symm)))
theorem z_if_ltN (q : Nat) (C0 : zC E p s m args meth c cc nL ret own Ts A) {a : Nat} {off : Int} (t : Nat) (ha : a < 2 ^ 31) (hd : decode cc pc = .ok (.ifCond .lt off, 3)) (hq : pc + 3 = q) (ht : (pc : Int) + off = (t : Int)) (kf : Z E p l e R s m args below meth c Q A nL q L st ws cells slots) : Z E p l e R s m args below meth c Q A nL pc L (.int (nI a) :: st) ws cells slots :=
  z_if_lt q t C0 hd hq ht (fun h => absurd h (nI_pos ha)) (fun _ => kf)
theorem z_if_geN (t : Nat) (C0 : zC E p s m args meth c cc nL ret own Ts A) {a : Nat} {off : Int} (q : Nat) (ha : a < 2 ^ 31) (hd : decode cc pc = .ok (.ifCond .ge off, 3)) (hq : pc + 3 = q) (ht : (pc : Int) + off = (t : Int)) (kt : Z E p l e R s m args below meth c Q A nL t L st ws cells slots) : Z E p l e R s m args below meth c Q A nL pc L (.int (nI a) :: st) ws cells slots :=
  z_if_ge q t C0 hd hq ht (fun _ => kt) (fun h => absurd (nI_pos' ha) h)
theorem z_if_leN (q t : Nat) (C0 : zC E p s m args meth c cc nL ret own Ts A) {a : Nat} {off : Int} (ha : a < 2 ^ 31) (hd : decode cc pc = .ok (.ifCond .le off, 3)) (hq : pc + 3 = q) (ht : (pc : Int) + off = (t : Int)) (kt : a = 0 → Z E p l e R s m args below meth c Q A nL t L st ws cells slots) (kf : 0 < a → Z E p l e R s m args below meth c Q A nL q L st ws cells slots) : Z E p l e R s m args below meth c Q A nL pc L (.int (nI a) :: st) ws cells slots :=
  z_if_le q t C0 hd hq ht (fun h => kt (Nat.eq_zero_of_not_pos fun z => nI_nle z ha h)) (fun h => kf (Nat.pos_of_ne_zero fun z => h (by rw [z]; decide)))
theorem z_if_gtN (q t : Nat) (C0 : zC E p s m args meth c cc nL ret own Ts A) {a : Nat} {off : Int} (ha : a < 2 ^ 31) (hd : decode cc pc = .ok (.ifCond .gt off, 3)) (hq : pc + 3 = q) (ht : (pc : Int) + off = (t : Int)) (kt : 0 < a → Z E p l e R s m args below meth c Q A nL t L st ws cells slots) (kf : a = 0 → Z E p l e R s m args below meth c Q A nL q L st ws cells slots) : Z E p l e R s m args below meth c Q A nL pc L (.int (nI a) :: st) ws cells slots :=
  z_if_gt q t C0 hd hq ht (fun h => kt (Nat.pos_of_ne_zero fun z => absurd h (by rw [z]; decide))) (fun h => kf (Nat.eq_zero_of_not_pos fun z => h (by rw [Int32.lt_iff_toInt_lt, nI_toInt ha, Int32.toInt_zero]; omega)))
theorem z_switch (t : Nat) (C0 : zC E p s m args meth c cc nL ret own Ts A) {dflt lo hi : Int} {offs : Array Int} {len : Nat} {x : Int32} {off : Int} (hd : decode cc pc = .ok (.tableswitch dflt lo hi offs, len)) (h1 : ¬ x.toInt < lo) (h2 : ¬ hi < x.toInt) (ho : offs[(x.toInt - lo).toNat]? = some off) (ht : (pc : Int) + off = (t : Int)) (k : Z E p l e R s m args below meth c Q A nL t L st ws cells slots) : Z E p l e R s m args below meth c Q A nL pc L (.int x :: st) ws cells slots := fun H locs ls hP hD hS hl => lv_tableIn C0.1 C0.2.1 hd h1 h2 ho ht (k H locs ls hP hD hS hl)
theorem z_switchO (t : Nat) (C0 : zC E p s m args meth c cc nL ret own Ts A) {dflt lo hi : Int} {offs : Array Int} {len : Nat} {x : Int32} (hd : decode cc pc = .ok (.tableswitch dflt lo hi offs, len)) (h : x.toInt < lo ∨ hi < x.toInt) (ht : (pc : Int) + dflt = (t : Int)) (k : Z E p l e R s m args below meth c Q A nL t L st ws cells slots) : Z E p l e R s m args below meth c Q A nL pc L (.int x :: st) ws cells slots := fun H locs ls hP hD hS hl => lv_tableOut C0.1 C0.2.1 hd h ht (k H locs ls hP hD hS hl)
theorem z_iald (q : Nat) (C0 : zC E p s m args meth c cc nL ret own Ts A) (q0 : Nat) {a n : Nat} {f : Nat → Int32} {i v : Int32} (hd : decode cc pc = .ok (.iaload, 1)) (hq : pc + 1 = q) (ha : ws[q0]? = some (a, zi E n f)) (hin : vp_in i n) (hv : f i.toNatClampNeg = v) (k : Z E p l e R s m args below meth c Q A nL q L (.int v :: st) ws cells slots) : Z E p l e R s m args below meth c Q A nL pc L (.int i :: .ref a :: st) ws cells slots := by
  subst hq
  intro H locs ls hP hD hS hl
  have hx := C0.1
  have hb := C0.2.1
  subst hv
  exact va_iald hx hb C0.2.2.2.2.2.2.2.1 hP q0 0 ha rfl hin hd (k H locs ls hP hD hS hl)
theorem z_ialdN (q : Nat) (C0 : zC E p s m args meth c cc nL ret own Ts A) (q0 : Nat) {a n j : Nat} {f : Nat → Int32} {v : Int32} (hd : decode cc pc = .ok (.iaload, 1)) (hq : pc + 1 = q) (ha : ws[q0]? = some (a, zi E n f)) (hj : j < n) (hn : n < 2 ^ 31) (hv : f j = v) (k : Z E p l e R s m args below meth c Q A nL q L (.int v :: st) ws cells slots) : Z E p l e R s m args below meth c Q A nL pc L (.int (nI j) :: .ref a :: st) ws cells slots :=
  z_iald q C0 q0 hd hq ha (vp_in_nI hj hn) (by rw [nI_clamp (Nat.lt_trans hj hn)]; exact hv) k
theorem z_iast (q : Nat) (C0 : zC E p s m args meth c cc nL ret own Ts A) (q0 : Nat) (w1 : va_W) {a n : Nat} {f : Nat → Int32} {i x : Int32} (hd : decode cc pc = .ok (.iastore, 1)) (hq : pc + 1 = q) (ha : ws[q0]? = some (a, zi E n f)) (hin : vp_in i n) (hw : ws.set q0 (a, zi E n (upd f i.toNatClampNeg x)) = w1) (k : Z E p l e R s m args below meth c Q A nL q L st w1 cells slots) : Z E p l e R s m args below meth c Q A nL pc L (.int x :: .int i :: .ref a :: st) ws cells slots := by
  subst hq
  intro H locs ls hP hD hS hl
  have hx := C0.1
  have hb := C0.2.1
  subst hw
  exact va_iast hx hb C0.2.2.2.2.2.2.2.1 hP hD hS q0 0 ha rfl hin hd (fun H1 locs1 hP1 hD1 hS1 => k H1 locs1 ls hP1 hD1 hS1 hl)
theorem z_iastN (q : Nat) (C0 : zC E p s m args meth c cc nL ret own Ts A) (q0 : Nat) (w1 : va_W) {a n j : Nat} {f : Nat → Int32} {x : Int32} (hd : decode cc pc = .ok (.iastore, 1)) (hq : pc + 1 = q) (ha : ws[q0]? = some (a, zi E n f)) (hj : j < n) (hn : n < 2 ^ 31) (hw : ws.set q0 (a, zi E n (upd f j x)) = w1) (k : Z E p l e R s m args below meth c Q A nL q L st w1 cells slots) : Z E p l e R s m args below meth c Q A nL pc L (.int x :: .int (nI j) :: .ref a :: st) ws cells slots :=
  z_iast q C0 q0 w1 hd hq ha (vp_in_nI hj hn) (by rw [nI_clamp (Nat.lt_trans hj hn)]; exact hw) k
theorem z_alen (q : Nat) (C0 : zC E p s m args meth c cc nL ret own Ts A) (q0 : Nat) {a n : Nat} {f : Nat → Int32} (hd : decode cc pc = .ok (.arraylength, 1)) (hq : pc + 1 = q) (ha : ws[q0]? = some (a, zi E n f)) (k : Z E p l e R s m args below meth c Q A nL q L (.int (nI n) :: st) ws cells slots) : Z E p l e R s m args below meth c Q A nL pc L (.ref a :: st) ws cells slots := by
  subst hq
  intro H locs ls hP hD hS hl
  have hx := C0.1
  have hb := C0.2.1
  exact va_alen hx hb C0.2.2.2.2.2.2.2.1 hP q0 0 ha rfl (rfl : Int32.ofNat n = nI n) hd (k H locs ls hP hD hS hl)
theorem z_aald (q : Nat) (C0 : zC E p s m args meth c cc nL ret own Ts A) (q0 t0 : Nat) {a n j : Nat} {cA : ClassId} {ty : FieldType} {f : Nat → Option Nat} {v : Value} (hd : decode cc pc = .ok (.aaload, 1)) (hq : pc + 1 = q) (ha : ws[q0]? = some (a, .inl (cA, n, .inr (.inr (.inr (.inr f)))))) (ht : (zT E)[t0]? = some (cA, ty)) (hty : ty.isReference = true) (hj : j < n) (hn : n < 2 ^ 31) (hv : va_rf (f j) = v) (k : Z E p l e R s m args below meth c Q A nL q L (v :: st) ws cells slots) : Z E p l e R s m args below meth c Q A nL pc L (.int (nI j) :: .ref a :: st) ws cells slots := by
  subst hq
  intro H locs ls hP hD hS hl
  have hx := C0.1
  have hb := C0.2.1
  subst hv
  exact W.aald (v := va_rf (f j)) (ty := ty) hx hb (hP q0 _ ha) ((C0.2.2.2.2.2.2.2.1.2 t0 _ ht).1 n (fun j => va_rf (f j))) hty (fun q => by cases q) (by show ¬ (nI j < 0 ∨ (arrV _ _ _).slots.size ≤ _); rw [arrV_size]; exact vp_in_nI hj hn) (by show (arrV _ _ _).slots[_]? = _; rw [nI_clamp (Nat.lt_trans hj hn)]; rw [arrV_read _ _ hj]) rfl rfl hd (k H locs ls hP hD hS hl)
theorem z_get (q : Nat) (C0 : zC E p s m args meth c cc nL ret own Ts A) (q0 j : Nat) {a ci N i : Nat} {C : String} {T : u_T} {fs : List Value} {v : Value} (hin : ∀ w ∈ u_ws C T N, w ∈ Ts) (hc : vwCl[ci]? = some (C, T, N)) (hk : j < N) (hw : Cond.fieldLink own i (T j).1 (T j).2.1 (T j).2.2.1 ∈ Ts) (hd : decode cc pc = .ok (.getfield i, 3)) (hq : pc + 3 = q) (ha : ws[q0]? = some (a, zo ci fs)) (hv : fs[j]? = some v) (k : Z E p l e R s m args below meth c Q A nL q L (v :: st) ws cells slots) : Z E p l e R s m args below meth c Q A nL pc L (.ref a :: st) ws cells slots := by
  subst hq
  intro H locs ls hP hD hS hl
  have hx := C0.1
  have hb := C0.2.1
  exact va_get hx hb C0.2.2.2.2.2.1 hin C0.2.2.2.2.1 C0.2.2.2.2.2.2.2.1 hP q0 ha hc j hk (C0.2.2.2.2.2.1 _ hw) (fun _ h => h) hv hd (k H locs ls hP hD hS hl)
theorem z_put (q : Nat) (C0 : zC E p s m args meth c cc nL ret own Ts A) (q0 j : Nat) (w1 : va_W) {a ci N i : Nat} {C : String} {T : u_T} {fs : List Value} {v : Value} {ty : FieldType} (hin : ∀ w ∈ u_ws C T N, w ∈ Ts) (hc : vwCl[ci]? = some (C, T, N)) (hk : j < N) (hw : Cond.fieldLink own i (T j).1 (T j).2.1 (T j).2.2.1 ∈ Ts) (ty0 : Nat → FieldType) (hty : ∀ k, k < N → parseFieldDescriptor (T k).2.2.1 = some (ty0 k)) (hnm : ∀ a, a < N → ∀ b, b < N → a ≠ b → (T a).2.1 ≠ (T b).2.1) (hfin : (T j).2.2.2 = false) (hdd : parseFieldDescriptor (T j).2.2.1 = some ty) (hn : narrow ty v = v) (hfit : fits ty v = true) (hd : decode cc pc = .ok (.putfield i, 3)) (hq : pc + 3 = q) (ha : ws[q0]? = some (a, zo ci fs)) (hlen : j < fs.length) (hws : ws.set q0 (a, zo ci (fs.set j v)) = w1) (k : Z E p l e R s m args below meth c Q A nL q L st w1 cells slots) : Z E p l e R s m args below meth c Q A nL pc L (v :: .ref a :: st) ws cells slots := by
  subst hq
  intro H locs ls hP hD hS hl
  have hx := C0.1
  have hb := C0.2.1
  subst hws
  exact va_put hx hb C0.2.2.2.2.2.1 hin ty0 hty hnm C0.2.2.2.2.1 C0.2.2.2.2.2.2.2.1 hP hD hS q0 ha hc j hk (C0.2.2.2.2.2.1 _ hw) (fun _ h => h) hfin hdd hn hfit hlen hd (fun H1 locs1 hP1 hD1 hS1 => k H1 locs1 ls hP1 hD1 hS1 hl)
theorem z_putF (q : Nat) (C0 : zC E p s m args meth c cc nL ret own Ts A) (q0 j : Nat) (w1 : va_W) {a ci N i : Nat} {C : String} {T : u_T} {fs : List Value} {v : Value} {ty : FieldType} (hin : ∀ w ∈ u_ws C T N, w ∈ Ts) (hc : vwCl[ci]? = some (C, T, N)) (hk : j < N) (hw : Cond.fieldLink own i (T j).1 (T j).2.1 (T j).2.2.1 ∈ Ts) (ty0 : Nat → FieldType) (hty : ∀ k, k < N → parseFieldDescriptor (T k).2.2.1 = some (ty0 k)) (hnm : ∀ a, a < N → ∀ b, b < N → a ≠ b → (T a).2.1 ≠ (T b).2.1) (hfin : (T j).2.2.2 = true) (hin2 : meth.name = "<init>") (hdecl : (T j).1 = own) (hdd : parseFieldDescriptor (T j).2.2.1 = some ty) (hn : narrow ty v = v) (hfit : fits ty v = true) (hd : decode cc pc = .ok (.putfield i, 3)) (hq : pc + 3 = q) (ha : ws[q0]? = some (a, zo ci fs)) (hlen : j < fs.length) (hws : ws.set q0 (a, zo ci (fs.set j v)) = w1) (k : Z E p l e R s m args below meth c Q A nL q L st w1 cells slots) : Z E p l e R s m args below meth c Q A nL pc L (v :: .ref a :: st) ws cells slots := by
  subst hq
  intro H locs ls hP hD hS hl
  have hx := C0.1
  have hb := C0.2.1
  subst hws
  exact va_putF hx hb C0.2.2.2.2.2.1 hin ty0 hty hnm C0.2.2.2.2.1 C0.2.2.2.2.2.2.2.1 hP hD hS q0 ha hc j hk (C0.2.2.2.2.2.1 _ hw) (fun _ h => h) hfin hin2 hdecl hdd hn hfit hlen hd (fun H1 locs1 hP1 hD1 hS1 => k H1 locs1 ls hP1 hD1 hS1 hl)
theorem z_getsN (q : Nat) (C0 : zC E p s m args meth c cc nL ret own Ts A) {i : Nat} (hw : Cond.fieldLink own i "GrindField$Checker" "NEEDED" "[I" ∈ Ts) (hd : decode cc pc = .ok (.getstatic i, 3)) (hq : pc + 3 = q) (k : Z E p l e R s m args below meth c Q A nL q L (.ref (ztN E) :: st) ws cells slots) : Z E p l e R s m args below meth c Q A nL pc L st ws cells slots := by
  subst hq
  intro H locs ls hP hD hS hl
  have hx := C0.1
  have hb := C0.2.1
  exact va_gets hx hb C0.2.2.2.2.2.2.2.2.2.2.1.1 hS C0.2.2.2.2.1 (C0.2.2.2.2.2.1 _ hw) (fun _ h => h) hd (k H locs ls hP hD hS hl)
theorem z_tabN (q : Nat) (C0 : zC E p s m args meth c cc nL ret own Ts A) {j : Nat} {v : Int32} (hd : decode cc pc = .ok (.iaload, 1)) (hq : pc + 1 = q) (hj : j < 19) (hv : zNeed j = v) (k : Z E p l e R s m args below meth c Q A nL q L (.int v :: st) ws cells slots) : Z E p l e R s m args below meth c Q A nL pc L (.int (nI j) :: .ref (ztN E) :: st) ws cells slots := by
  subst hq
  intro H locs ls hP hD hS hl
  have hx := C0.1
  have hb := C0.2.1
  subst hv
  exact va_ti hx hb C0.2.2.2.2.2.2.2.2.2.2.1.2 hS (vp_in_nI hj (by omega)) (by rw [nI_clamp (by omega)]) hd (k H locs ls hP hD hS hl)
theorem z_getsG (q : Nat) (C0 : zC E p s m args meth c cc nL ret own Ts A) {i : Nat} (hw : Cond.fieldLink own i "GrindField$Checker" "GROWTH" "[I" ∈ Ts) (hd : decode cc pc = .ok (.getstatic i, 3)) (hq : pc + 3 = q) (k : Z E p l e R s m args below meth c Q A nL q L (.ref (ztG E) :: st) ws cells slots) : Z E p l e R s m args below meth c Q A nL pc L st ws cells slots := by
  subst hq
  intro H locs ls hP hD hS hl
  have hx := C0.1
  have hb := C0.2.1
  exact va_gets hx hb C0.2.2.2.2.2.2.2.2.2.2.2.1.1 hS C0.2.2.2.2.1 (C0.2.2.2.2.2.1 _ hw) (fun _ h => h) hd (k H locs ls hP hD hS hl)
theorem z_tabG (q : Nat) (C0 : zC E p s m args meth c cc nL ret own Ts A) {j : Nat} {v : Int32} (hd : decode cc pc = .ok (.iaload, 1)) (hq : pc + 1 = q) (hj : j < 19) (hv : zGrow j = v) (k : Z E p l e R s m args below meth c Q A nL q L (.int v :: st) ws cells slots) : Z E p l e R s m args below meth c Q A nL pc L (.int (nI j) :: .ref (ztG E) :: st) ws cells slots := by
  subst hq
  intro H locs ls hP hD hS hl
  have hx := C0.1
  have hb := C0.2.1
  subst hv
  exact va_ti hx hb C0.2.2.2.2.2.2.2.2.2.2.2.1.2 hS (vp_in_nI hj (by omega)) (by rw [nI_clamp (by omega)]) hd (k H locs ls hP hD hS hl)
theorem z_getsA (q : Nat) (C0 : zC E p s m args meth c cc nL ret own Ts A) {i : Nat} (hw : Cond.fieldLink own i "GrindFieldModel" "ARGUMENTS" "[I" ∈ Ts) (hd : decode cc pc = .ok (.getstatic i, 3)) (hq : pc + 3 = q) (k : Z E p l e R s m args below meth c Q A nL q L (.ref (ztA E) :: st) ws cells slots) : Z E p l e R s m args below meth c Q A nL pc L st ws cells slots := by
  subst hq
  intro H locs ls hP hD hS hl
  have hx := C0.1
  have hb := C0.2.1
  exact va_gets hx hb C0.2.2.2.2.2.2.2.2.2.2.2.2.1 hS C0.2.2.2.2.1 (C0.2.2.2.2.2.1 _ hw) (fun _ h => h) hd (k H locs ls hP hD hS hl)
theorem z_tabA (q : Nat) (C0 : zC E p s m args meth c cc nL ret own Ts A) {j : Nat} {v : Int32} (hd : decode cc pc = .ok (.iaload, 1)) (hq : pc + 1 = q) (hj : j < 4) (hv : zArgs j = v) (k : Z E p l e R s m args below meth c Q A nL q L (.int v :: st) ws cells slots) : Z E p l e R s m args below meth c Q A nL pc L (.int (nI j) :: .ref (ztA E) :: st) ws cells slots := by
  subst hq
  intro H locs ls hP hD hS hl
  have hx := C0.1
  have hb := C0.2.1
  subst hv
  exact va_ti hx hb C0.2.2.2.2.2.2.2.2.2.2.2.2.2 hS (vp_in_nI hj (by omega)) (by rw [nI_clamp (by omega)]) hd (k H locs ls hP hD hS hl)
theorem z_iret (C0 : zC E p s m args meth c cc nL ret own Ts A) {B : Int32 → va_W → Prop} {mc ms : Nat} {v : Int32} (hret : ret = some .int) (hd : decode cc pc = .ok (.ireturn, 1)) (hB : B v ws) (hc : cells ≤ mc) (hs : slots ≤ ms) : Z E p l e R s m args below meth c (MQ below (va_Qi B (zPost E A) A) args s mc ms A) A nL pc L [.int v] ws cells slots := by
  intro H locs ls hP hD hS hl
  refine W.widen hc hs ?_
  exact W.iret C0.1 C0.2.1 (C0.2.2.1.trans hret) (fun t ht hW => ⟨⟨v, ws, rfl, hB, by rw [ht]; exact hP, va_K.moved hW.alike C0.2.2.2.2.2.2.2.1, hD⟩, hS.F ht⟩) hS.2.2 hd C0.2.2.2.2.2.2.1
theorem z_zret (C0 : zC E p s m args meth c cc nL ret own Ts A) {B : Int32 → va_W → Prop} {mc ms : Nat} {v : Int32} (hret : ret = some .boolean) (hn : narrow .boolean (.int v) = .int v) (hd : decode cc pc = .ok (.ireturn, 1)) (hB : B v ws) (hc : cells ≤ mc) (hs : slots ≤ ms) : Z E p l e R s m args below meth c (MQ below (va_Qi B (zPost E A) A) args s mc ms A) A nL pc L [.int v] ws cells slots := by
  intro H locs ls hP hD hS hl
  refine W.widen hc hs ?_
  exact W.zret C0.1 C0.2.1 (C0.2.2.1.trans hret) hn (fun t ht hW => ⟨⟨v, ws, rfl, hB, by rw [ht]; exact hP, va_K.moved hW.alike C0.2.2.2.2.2.2.2.1, hD⟩, hS.F ht⟩) hS.2.2 hd C0.2.2.2.2.2.2.1
theorem z_lret (C0 : zC E p s m args meth c cc nL ret own Ts A) {B : Int64 → va_W → Prop} {mc ms : Nat} {v : Int64} (hret : ret = some .long) (hd : decode cc pc = .ok (.lreturn, 1)) (hB : B v ws) (hc : cells ≤ mc) (hs : slots ≤ ms) : Z E p l e R s m args below meth c (MQ below (va_Ql B (zPost E A) A) args s mc ms A) A nL pc L [.long v] ws cells slots := by
  intro H locs ls hP hD hS hl
  refine W.widen hc hs ?_
  exact W.lret C0.1 C0.2.1 (C0.2.2.1.trans hret) (fun t ht hW => ⟨⟨v, ws, rfl, hB, by rw [ht]; exact hP, va_K.moved hW.alike C0.2.2.2.2.2.2.2.1, hD⟩, hS.F ht⟩) hS.2.2 hd C0.2.2.2.2.2.2.1
theorem z_vret (C0 : zC E p s m args meth c cc nL ret own Ts A) {B : va_W → Prop} {mc ms : Nat} (hret : ret = none) (hd : decode cc pc = .ok (.return_, 1)) (hB : B ws) (hc : cells ≤ mc) (hs : slots ≤ ms) : Z E p l e R s m args below meth c (MQ below (va_Qv B (zPost E A) A) args s mc ms A) A nL pc L [] ws cells slots := by
  intro H locs ls hP hD hS hl
  refine W.widen hc hs ?_
  exact W.vret C0.1 C0.2.1 (C0.2.2.1.trans hret) (fun t ht hW => ⟨⟨ws, rfl, hB, by rw [ht]; exact hP, va_K.moved hW.alike C0.2.2.2.2.2.2.2.1, hD⟩, hS.F ht⟩) hS.2.2 hd C0.2.2.2.2.2.2.1
theorem z_nd {a b : List Nat} (h : va_nd (a ++ b) = true) : va_nd a = true ∧ va_nd b = true ∧ ∀ i ∈ b, i ∉ a := by
  induction a with
  | nil => exact ⟨rfl, h, fun i _ h => by cases h⟩
  | cons x a ih =>
    simp only [List.cons_append, va_nd, Bool.and_eq_true, decide_eq_true_eq] at h
    obtain ⟨h1, h2⟩ := h
    obtain ⟨i1, i2, i3⟩ := ih h2
    refine ⟨by simp only [va_nd, Bool.and_eq_true, decide_eq_true_eq]; exact ⟨fun q => h1 (List.mem_append_left _ q), i1⟩, i2, fun i hi hq => ?_⟩
    rcases List.mem_cons.mp hq with rfl | hq
    · exact h1 (List.mem_append_right _ hi)
    · exact i3 i hi hq
theorem z_sub : ∀ {is : List Nat} {ws v1 : va_W}, is.map (fun i => ws[i]?) = v1.map some → is.filterMap (fun i => ws[i]?) = v1
  | [], _, [], _ => rfl
  | [], _, x :: xs, h => by simp at h
  | j :: js, _, [], h => by simp at h
  | j :: js, ws, x :: xs, h => by
    simp only [List.map_cons, List.cons.injEq] at h
    rw [List.filterMap_cons, h.1]
    simp only [z_sub h.2]
/-- the picture in other words -/
theorem z_eq {L1 : List (Nat × Value)} {st1 : List Value} {w1 : va_W} (hL : L = L1) (hs : st = st1) (hw : ws = w1) (k : Z E p l e R s m args below meth c Q A nL pc L1 st1 w1 cells slots) : Z E p l e R s m args below meth c Q A nL pc L st ws cells slots := by
  subst hL; subst hs; subst hw; exact k
theorem z_eqs {st1 : List Value} (hs : st = st1) (k : Z E p l e R s m args below meth c Q A nL pc L st1 ws cells slots) : Z E p l e R s m args below meth c Q A nL pc L st ws cells slots := by
  subst hs; exact k
theorem z_eqw {w1 : va_W} (hw : ws = w1) (k : Z E p l e R s m args below meth c Q A nL pc L st w1 cells slots) : Z E p l e R s m args below meth c Q A nL pc L st ws cells slots := by
  subst hw; exact k
theorem z_eqL {L1 : List (Nat × Value)} (hL : L = L1) (k : Z E p l e R s m args below meth c Q A nL pc L1 st ws cells slots) : Z E p l e R s m args below meth c Q A nL pc L st ws cells slots := by
  subst hL; exact k
/-- locals in another order, or fewer -/
theorem z_loc (ks : List Nat) (L1 : List (Nat × Value)) (hL : lv_pick L ks = L1) (k : Z E p l e R s m args below meth c Q A nL pc L1 st ws cells slots) : Z E p l e R s m args below meth c Q A nL pc L st ws cells slots :=
  fun H locs ls hP hD hS hl => k H locs ls hP hD hS (lv_sub hl ks hL)
/-- cells in another order, or fewer -/
theorem z_perm (is : List Nat) (w1 : va_W) (hn : va_nd is = true) (h : is.map (fun i => ws[i]?) = w1.map some) (k : Z E p l e R s m args below meth c Q A nL pc L st w1 cells slots) : Z E p l e R s m args below meth c Q A nL pc L st ws cells slots :=
  fun H locs ls hP hD hS hl => k H locs ls (hP.sub is (z_sub h)) (hD.sub is hn h) hS hl
theorem z_widen {k1 n1 : Nat} (h1 : cells ≤ k1) (h2 : slots ≤ n1) (k : Z E p l e R s m args below meth c Q A nL pc L st ws k1 n1) : Z E p l e R s m args below meth c Q A nL pc L st ws cells slots :=
  fun H locs ls hP hD hS hl => W.widen h1 h2 (k H locs ls hP hD hS hl)
theorem z_callVi (q : Nat) (C0 : zC E p s m args meth c cc nL ret own Ts A) (isC isR : List Nat) (wr : va_W) (cells1 slots1 : Nat) {y : MethodName} {wsY ws2 : List Cond} {rm : Room} {wc : va_W} {mc ms : Nat} {bytes : ByteArray} {maxL i : Nat} {st0 : List Value} {C : String} {T : u_T} {N ci b n : Nat} (qr : Nat) {fs : List Value} {As : List Value} {rt : Option FieldType} {B : Int32 → va_W → Prop} (hM : zMi l E y wsY rm (.ref b :: As) wc B mc ms) (hT : GoodIn Ts (wsV own i C y wsY)) (hw : wsY = Cond.code y bytes maxL rt :: ws2) (hdy : y.cls = C ∧ y.cls ≠ "java/lang/invoke/MethodHandle" ∧ y.cls ≠ "java/lang/invoke/VarHandle" ∧ (parseMethodDescriptor y.desc).map (fun d => d.parameters.length) = some n) (hr : wc[qr]? = some (b, zo ci fs)) (hcl : vwCl[ci]? = some (C, T, N)) (hC : isC.map (fun i => ws[i]?) = wc.map some) (hR : isR.map (fun i => ws[i]?) = wr.map some) (hnd : va_nd (isC ++ isR) = true)
    (hstk : st0 = As.reverse ++ .ref b :: st) (hn : As.length = n) (hrm : (st.map fun v => v.category).sum ≤ 8) (hRm : rm.frames + 1 ≤ R.frames ∧ 8 + (maxL + 11) + rm.locals ≤ R.locals) (hrc : rm.cells = mc) (hrs : rm.slots = ms) (hf : cells + mc ≤ R.cells ∧ slots + ms ≤ R.slots) (hc1 : cells + mc ≤ cells1 ∧ slots + ms ≤ slots1) (hd : decode cc pc = .ok (.invokevirtual i, 3)) (hq : pc + 3 = q) (k : ∀ (r : Int32) (w1 : va_W), B r w1 → Z E p l e R s m args below meth c Q A nL q L (.int r :: st) (wr ++ w1) cells1 slots1) : Z E p l e R s m args below meth c Q A nL pc L st0 ws cells slots := by
  subst hq
  intro H locs ls hP hD hS hl
  have hx := C0.1
  have hb := C0.2.1
  obtain ⟨hn1, hn2, hdis⟩ := z_nd hnd
  have hPc := hP.sub (ws' := wc) isC (z_sub hC)
  have hDc := hD.sub (ws' := wc) isC hn1 hC
  have hFc := va_free (wc := wc) hD hS C0.2.2.2.2.2.2.2.2.1 isC hC
  refine va_calli (va_runV (As := As) (rest := st) (b := b) ⟨hx, hb, C0.2.2.2.1, C0.2.2.2.2.1, C0.2.2.2.2.2.1⟩ (hM H.size) (cwV n C0.2.2.2.2.2.1 hT hw hrc hrs hdy hRm) ⟨zPre.blind, va_recv C0.2.2.2.2.2.2.2.1 hPc hcl hr, fun U hU hW => zPre.at hPc C0.2.2.2.2.2.2.2.1 (hDc.weaken (fun _ _ _ _ => trivial)) C0.2.2.2.2.2.2.2.2.2 hS hFc hU hW⟩ rfl hn (hl.1) hstk (lv_room hrm) hd hf) hS (fun q _ h => hFc q h) hFc (fun r u t H1 locs1 ht hvm hw1 hB hz1 hk1 hS1 => ?_)
  obtain ⟨hP1, hK1, hD1⟩ := hB
  rw [ht] at hP1
  obtain ⟨hP2, hD2⟩ := va_join hP hD isC isR hC hR hn2 hdis hk1 hFc hP1 hD1
  exact W.widen hc1.1 hc1.2 (k r u hw1 H1 locs1 ls hP2 hD2 hS1 hl)
theorem z_callVl (q : Nat) (C0 : zC E p s m args meth c cc nL ret own Ts A) (isC isR : List Nat) (wr : va_W) (cells1 slots1 : Nat) {y : MethodName} {wsY ws2 : List Cond} {rm : Room} {wc : va_W} {mc ms : Nat} {bytes : ByteArray} {maxL i : Nat} {st0 : List Value} {C : String} {T : u_T} {N ci b n : Nat} (qr : Nat) {fs : List Value} {As : List Value} {rt : Option FieldType} {B : Int64 → va_W → Prop} (hM : zMl l E y wsY rm (.ref b :: As) wc B mc ms) (hT : GoodIn Ts (wsV own i C y wsY)) (hw : wsY = Cond.code y bytes maxL rt :: ws2) (hdy : y.cls = C ∧ y.cls ≠ "java/lang/invoke/MethodHandle" ∧ y.cls ≠ "java/lang/invoke/VarHandle" ∧ (parseMethodDescriptor y.desc).map (fun d => d.parameters.length) = some n) (hr : wc[qr]? = some (b, zo ci fs)) (hcl : vwCl[ci]? = some (C, T, N)) (hC : isC.map (fun i => ws[i]?) = wc.map some) (hR : isR.map (fun i => ws[i]?) = wr.map some) (hnd : va_nd (isC ++ isR) = true)
    (hstk : st0 = As.reverse ++ .ref b :: st) (hn : As.length = n) (hrm : (st.map fun v => v.category).sum ≤ 8) (hRm : rm.frames + 1 ≤ R.frames ∧ 8 + (maxL + 11) + rm.locals ≤ R.locals) (hrc : rm.cells = mc) (hrs : rm.slots = ms) (hf : cells + mc ≤ R.cells ∧ slots + ms ≤ R.slots) (hc1 : cells + mc ≤ cells1 ∧ slots + ms ≤ slots1) (hd : decode cc pc = .ok (.invokevirtual i, 3)) (hq : pc + 3 = q) (k : ∀ (r : Int64) (w1 : va_W), B r w1 → Z E p l e R s m args below meth c Q A nL q L (.long r :: st) (wr ++ w1) cells1 slots1) : Z E p l e R s m args below meth c Q A nL pc L st0 ws cells slots := by
  subst hq
  intro H locs ls hP hD hS hl
  have hx := C0.1
  have hb := C0.2.1
  obtain ⟨hn1, hn2, hdis⟩ := z_nd hnd
  have hPc := hP.sub (ws' := wc) isC (z_sub hC)
  have hDc := hD.sub (ws' := wc) isC hn1 hC
  have hFc := va_free (wc := wc) hD hS C0.2.2.2.2.2.2.2.2.1 isC hC
  refine va_calll (va_runV (As := As) (rest := st) (b := b) ⟨hx, hb, C0.2.2.2.1, C0.2.2.2.2.1, C0.2.2.2.2.2.1⟩ (hM H.size) (cwV n C0.2.2.2.2.2.1 hT hw hrc hrs hdy hRm) ⟨zPre.blind, va_recv C0.2.2.2.2.2.2.2.1 hPc hcl hr, fun U hU hW => zPre.at hPc C0.2.2.2.2.2.2.2.1 (hDc.weaken (fun _ _ _ _ => trivial)) C0.2.2.2.2.2.2.2.2.2 hS hFc hU hW⟩ rfl hn (hl.1) hstk (lv_room hrm) hd hf) hS (fun q _ h => hFc q h) hFc (fun r u t H1 locs1 ht hvm hw1 hB hz1 hk1 hS1 => ?_)
  obtain ⟨hP1, hK1, hD1⟩ := hB
  rw [ht] at hP1
  obtain ⟨hP2, hD2⟩ := va_join hP hD isC isR hC hR hn2 hdis hk1 hFc hP1 hD1
  exact W.widen hc1.1 hc1.2 (k r u hw1 H1 locs1 ls hP2 hD2 hS1 hl)
theorem z_callVv (q : Nat) (C0 : zC E p s m args meth c cc nL ret own Ts A) (isC isR : List Nat) (wr : va_W) (cells1 slots1 : Nat) {y : MethodName} {wsY ws2 : List Cond} {rm : Room} {wc : va_W} {mc ms : Nat} {bytes : ByteArray} {maxL i : Nat} {st0 : List Value} {C : String} {T : u_T} {N ci b n : Nat} (qr : Nat) {fs : List Value} {As : List Value} {rt : Option FieldType} {B : va_W → Prop} (hM : zMv l E y wsY rm (.ref b :: As) wc B mc ms) (hT : GoodIn Ts (wsV own i C y wsY)) (hw : wsY = Cond.code y bytes maxL rt :: ws2) (hdy : y.cls = C ∧ y.cls ≠ "java/lang/invoke/MethodHandle" ∧ y.cls ≠ "java/lang/invoke/VarHandle" ∧ (parseMethodDescriptor y.desc).map (fun d => d.parameters.length) = some n) (hr : wc[qr]? = some (b, zo ci fs)) (hcl : vwCl[ci]? = some (C, T, N)) (hC : isC.map (fun i => ws[i]?) = wc.map some) (hR : isR.map (fun i => ws[i]?) = wr.map some) (hnd : va_nd (isC ++ isR) = true)
    (hstk : st0 = As.reverse ++ .ref b :: st) (hn : As.length = n) (hrm : (st.map fun v => v.category).sum ≤ 8) (hRm : rm.frames + 1 ≤ R.frames ∧ 8 + (maxL + 11) + rm.locals ≤ R.locals) (hrc : rm.cells = mc) (hrs : rm.slots = ms) (hf : cells + mc ≤ R.cells ∧ slots + ms ≤ R.slots) (hc1 : cells + mc ≤ cells1 ∧ slots + ms ≤ slots1) (hd : decode cc pc = .ok (.invokevirtual i, 3)) (hq : pc + 3 = q) (k : ∀ (w1 : va_W), B w1 → Z E p l e R s m args below meth c Q A nL q L st (wr ++ w1) cells1 slots1) : Z E p l e R s m args below meth c Q A nL pc L st0 ws cells slots := by
  subst hq
  intro H locs ls hP hD hS hl
  have hx := C0.1
  have hb := C0.2.1
  obtain ⟨hn1, hn2, hdis⟩ := z_nd hnd
  have hPc := hP.sub (ws' := wc) isC (z_sub hC)
  have hDc := hD.sub (ws' := wc) isC hn1 hC
  have hFc := va_free (wc := wc) hD hS C0.2.2.2.2.2.2.2.2.1 isC hC
  refine va_callv (va_runV (As := As) (rest := st) (b := b) ⟨hx, hb, C0.2.2.2.1, C0.2.2.2.2.1, C0.2.2.2.2.2.1⟩ (hM H.size) (cwV n C0.2.2.2.2.2.1 hT hw hrc hrs hdy hRm) ⟨zPre.blind, va_recv C0.2.2.2.2.2.2.2.1 hPc hcl hr, fun U hU hW => zPre.at hPc C0.2.2.2.2.2.2.2.1 (hDc.weaken (fun _ _ _ _ => trivial)) C0.2.2.2.2.2.2.2.2.2 hS hFc hU hW⟩ rfl hn (hl.1) hstk (lv_room hrm) hd hf) hS (fun q _ h => hFc q h) hFc (fun u t H1 locs1 ht hvm hw1 hB hz1 hk1 hS1 => ?_)
  obtain ⟨hP1, hK1, hD1⟩ := hB
  rw [ht] at hP1
  obtain ⟨hP2, hD2⟩ := va_join hP hD isC isR hC hR hn2 hdis hk1 hFc hP1 hD1
  exact W.widen hc1.1 hc1.2 (k u hw1 H1 locs1 ls hP2 hD2 hS1 hl)
theorem z_callSi (q : Nat) (C0 : zC E p s m args meth c cc nL ret own Ts A) (isC isR : List Nat) (wr : va_W) (cells1 slots1 : Nat) {y : MethodName} {wsY ws2 : List Cond} {rm : Room} {wc : va_W} {mc ms : Nat} {bytes : ByteArray} {maxL i : Nat} {st0 : List Value} {n : Nat} {As : List Value} {rt : Option FieldType} {B : Int32 → va_W → Prop} (hM : zMi l E y wsY rm As wc B mc ms) (hT : GoodIn Ts (va_wsS own i y wsY)) (hw : wsY = Cond.code y bytes maxL rt :: ws2) (hdy : y.cls ≠ "java/lang/invoke/MethodHandle" ∧ y.cls ≠ "java/lang/invoke/VarHandle" ∧ (parseMethodDescriptor y.desc).map (fun d => d.parameters.length) = some n)  (hC : isC.map (fun i => ws[i]?) = wc.map some) (hR : isR.map (fun i => ws[i]?) = wr.map some) (hnd : va_nd (isC ++ isR) = true)
    (hstk : st0 = As.reverse ++ st) (hn : As.length = n) (hrm : (st.map fun v => v.category).sum ≤ 8) (hRm : rm.frames + 1 ≤ R.frames ∧ 8 + (maxL + 11) + rm.locals ≤ R.locals) (hrc : rm.cells = mc) (hrs : rm.slots = ms) (hf : cells + mc ≤ R.cells ∧ slots + ms ≤ R.slots) (hc1 : cells + mc ≤ cells1 ∧ slots + ms ≤ slots1) (hd : decode cc pc = .ok (.invokestatic i, 3)) (hq : pc + 3 = q) (k : ∀ (r : Int32) (w1 : va_W), B r w1 → Z E p l e R s m args below meth c Q A nL q L (.int r :: st) (wr ++ w1) cells1 slots1) : Z E p l e R s m args below meth c Q A nL pc L st0 ws cells slots := by
  subst hq
  intro H locs ls hP hD hS hl
  have hx := C0.1
  have hb := C0.2.1
  obtain ⟨hn1, hn2, hdis⟩ := z_nd hnd
  have hPc := hP.sub (ws' := wc) isC (z_sub hC)
  have hDc := hD.sub (ws' := wc) isC hn1 hC
  have hFc := va_free (wc := wc) hD hS C0.2.2.2.2.2.2.2.2.1 isC hC
  refine va_calli (va_runS (As := As) (rest := st) ⟨hx, hb, C0.2.2.2.1, C0.2.2.2.2.1, C0.2.2.2.2.2.1⟩ (hM H.size) (va_cwS n C0.2.2.2.2.2.1 hT hw hrc hrs hdy hRm) ⟨zPre.blind, fun U hU hW => zPre.at hPc C0.2.2.2.2.2.2.2.1 (hDc.weaken (fun _ _ _ _ => trivial)) C0.2.2.2.2.2.2.2.2.2 hS hFc hU hW⟩ rfl hn (hl.1) hstk (lv_room hrm) hd hf) hS (fun q _ h => hFc q h) hFc (fun r u t H1 locs1 ht hvm hw1 hB hz1 hk1 hS1 => ?_)
  obtain ⟨hP1, hK1, hD1⟩ := hB
  rw [ht] at hP1
  obtain ⟨hP2, hD2⟩ := va_join hP hD isC isR hC hR hn2 hdis hk1 hFc hP1 hD1
  exact W.widen hc1.1 hc1.2 (k r u hw1 H1 locs1 ls hP2 hD2 hS1 hl)
theorem z_callSl (q : Nat) (C0 : zC E p s m args meth c cc nL ret own Ts A) (isC isR : List Nat) (wr : va_W) (cells1 slots1 : Nat) {y : MethodName} {wsY ws2 : List Cond} {rm : Room} {wc : va_W} {mc ms : Nat} {bytes : ByteArray} {maxL i : Nat} {st0 : List Value} {n : Nat} {As : List Value} {rt : Option FieldType} {B : Int64 → va_W → Prop} (hM : zMl l E y wsY rm As wc B mc ms) (hT : GoodIn Ts (va_wsS own i y wsY)) (hw : wsY = Cond.code y bytes maxL rt :: ws2) (hdy : y.cls ≠ "java/lang/invoke/MethodHandle" ∧ y.cls ≠ "java/lang/invoke/VarHandle" ∧ (parseMethodDescriptor y.desc).map (fun d => d.parameters.length) = some n)  (hC : isC.map (fun i => ws[i]?) = wc.map some) (hR : isR.map (fun i => ws[i]?) = wr.map some) (hnd : va_nd (isC ++ isR) = true)
    (hstk : st0 = As.reverse ++ st) (hn : As.length = n) (hrm : (st.map fun v => v.category).sum ≤ 8) (hRm : rm.frames + 1 ≤ R.frames ∧ 8 + (maxL + 11) + rm.locals ≤ R.locals) (hrc : rm.cells = mc) (hrs : rm.slots = ms) (hf : cells + mc ≤ R.cells ∧ slots + ms ≤ R.slots) (hc1 : cells + mc ≤ cells1 ∧ slots + ms ≤ slots1) (hd : decode cc pc = .ok (.invokestatic i, 3)) (hq : pc + 3 = q) (k : ∀ (r : Int64) (w1 : va_W), B r w1 → Z E p l e R s m args below meth c Q A nL q L (.long r :: st) (wr ++ w1) cells1 slots1) : Z E p l e R s m args below meth c Q A nL pc L st0 ws cells slots := by
  subst hq
  intro H locs ls hP hD hS hl
  have hx := C0.1
  have hb := C0.2.1
  obtain ⟨hn1, hn2, hdis⟩ := z_nd hnd
  have hPc := hP.sub (ws' := wc) isC (z_sub hC)
  have hDc := hD.sub (ws' := wc) isC hn1 hC
  have hFc := va_free (wc := wc) hD hS C0.2.2.2.2.2.2.2.2.1 isC hC
  refine va_calll (va_runS (As := As) (rest := st) ⟨hx, hb, C0.2.2.2.1, C0.2.2.2.2.1, C0.2.2.2.2.2.1⟩ (hM H.size) (va_cwS n C0.2.2.2.2.2.1 hT hw hrc hrs hdy hRm) ⟨zPre.blind, fun U hU hW => zPre.at hPc C0.2.2.2.2.2.2.2.1 (hDc.weaken (fun _ _ _ _ => trivial)) C0.2.2.2.2.2.2.2.2.2 hS hFc hU hW⟩ rfl hn (hl.1) hstk (lv_room hrm) hd hf) hS (fun q _ h => hFc q h) hFc (fun r u t H1 locs1 ht hvm hw1 hB hz1 hk1 hS1 => ?_)
  obtain ⟨hP1, hK1, hD1⟩ := hB
  rw [ht] at hP1
  obtain ⟨hP2, hD2⟩ := va_join hP hD isC isR hC hR hn2 hdis hk1 hFc hP1 hD1
  exact W.widen hc1.1 hc1.2 (k r u hw1 H1 locs1 ls hP2 hD2 hS1 hl)
theorem z_callSv (q : Nat) (C0 : zC E p s m args meth c cc nL ret own Ts A) (isC isR : List Nat) (wr : va_W) (cells1 slots1 : Nat) {y : MethodName} {wsY ws2 : List Cond} {rm : Room} {wc : va_W} {mc ms : Nat} {bytes : ByteArray} {maxL i : Nat} {st0 : List Value} {n : Nat} {As : List Value} {rt : Option FieldType} {B : va_W → Prop} (hM : zMv l E y wsY rm As wc B mc ms) (hT : GoodIn Ts (va_wsS own i y wsY)) (hw : wsY = Cond.code y bytes maxL rt :: ws2) (hdy : y.cls ≠ "java/lang/invoke/MethodHandle" ∧ y.cls ≠ "java/lang/invoke/VarHandle" ∧ (parseMethodDescriptor y.desc).map (fun d => d.parameters.length) = some n)  (hC : isC.map (fun i => ws[i]?) = wc.map some) (hR : isR.map (fun i => ws[i]?) = wr.map some) (hnd : va_nd (isC ++ isR) = true)
    (hstk : st0 = As.reverse ++ st) (hn : As.length = n) (hrm : (st.map fun v => v.category).sum ≤ 8) (hRm : rm.frames + 1 ≤ R.frames ∧ 8 + (maxL + 11) + rm.locals ≤ R.locals) (hrc : rm.cells = mc) (hrs : rm.slots = ms) (hf : cells + mc ≤ R.cells ∧ slots + ms ≤ R.slots) (hc1 : cells + mc ≤ cells1 ∧ slots + ms ≤ slots1) (hd : decode cc pc = .ok (.invokestatic i, 3)) (hq : pc + 3 = q) (k : ∀ (w1 : va_W), B w1 → Z E p l e R s m args below meth c Q A nL q L st (wr ++ w1) cells1 slots1) : Z E p l e R s m args below meth c Q A nL pc L st0 ws cells slots := by
  subst hq
  intro H locs ls hP hD hS hl
  have hx := C0.1
  have hb := C0.2.1
  obtain ⟨hn1, hn2, hdis⟩ := z_nd hnd
  have hPc := hP.sub (ws' := wc) isC (z_sub hC)
  have hDc := hD.sub (ws' := wc) isC hn1 hC
  have hFc := va_free (wc := wc) hD hS C0.2.2.2.2.2.2.2.2.1 isC hC
  refine va_callv (va_runS (As := As) (rest := st) ⟨hx, hb, C0.2.2.2.1, C0.2.2.2.2.1, C0.2.2.2.2.2.1⟩ (hM H.size) (va_cwS n C0.2.2.2.2.2.1 hT hw hrc hrs hdy hRm) ⟨zPre.blind, fun U hU hW => zPre.at hPc C0.2.2.2.2.2.2.2.1 (hDc.weaken (fun _ _ _ _ => trivial)) C0.2.2.2.2.2.2.2.2.2 hS hFc hU hW⟩ rfl hn (hl.1) hstk (lv_room hrm) hd hf) hS (fun q _ h => hFc q h) hFc (fun u t H1 locs1 ht hvm hw1 hB hz1 hk1 hS1 => ?_)
  obtain ⟨hP1, hK1, hD1⟩ := hB
  rw [ht] at hP1
  obtain ⟨hP2, hD2⟩ := va_join hP hD isC isR hC hR hn2 hdis hk1 hFc hP1 hD1
  exact W.widen hc1.1 hc1.2 (k u hw1 H1 locs1 ls hP2 hD2 hS1 hl)
theorem z_callI (q : Nat) (C0 : zC E p s m args meth c cc nL ret own Ts A) (isC isR : List Nat) (wr : va_W) (cells1 slots1 : Nat) {y : MethodName} {wsY ws2 : List Cond} {rm : Room} {wc : va_W} {mc ms : Nat} {bytes : ByteArray} {maxL i : Nat} {st0 : List Value} {b n : Nat} {As : List Value} {B : va_W → Prop} (hM : zMv l E y wsY rm (.ref b :: As) wc B mc ms) (hT : GoodIn Ts wsY) (hw : wsY = Cond.code y bytes maxL none :: ws2) (hini : Cond.initialized y.cls ∈ Ts) (hlk : Cond.methodLink own i y ∈ Ts) (hinst : Cond.instanceMethod y ∈ Ts) (hyn : y.name = "<init>") (hdy : y.cls ≠ "java/lang/invoke/MethodHandle" ∧ y.cls ≠ "java/lang/invoke/VarHandle" ∧ (parseMethodDescriptor y.desc).map (fun d => d.parameters.length) = some n)  (hC : isC.map (fun i => ws[i]?) = wc.map some) (hR : isR.map (fun i => ws[i]?) = wr.map some) (hnd : va_nd (isC ++ isR) = true)
    (hstk : st0 = As.reverse ++ .ref b :: st) (hn : As.length = n) (hrm : (st.map fun v => v.category).sum ≤ 8) (hRm : rm.frames + 1 ≤ R.frames ∧ 8 + (maxL + 11) + rm.locals ≤ R.locals) (hrc : rm.cells = mc) (hrs : rm.slots = ms) (hf : cells + mc ≤ R.cells ∧ slots + ms ≤ R.slots) (hc1 : cells + mc ≤ cells1 ∧ slots + ms ≤ slots1) (hd : decode cc pc = .ok (.invokespecial i, 3)) (hq : pc + 3 = q) (k : ∀ (w1 : va_W), B w1 → Z E p l e R s m args below meth c Q A nL q L st (wr ++ w1) cells1 slots1) : Z E p l e R s m args below meth c Q A nL pc L st0 ws cells slots := by
  subst hq
  intro H locs ls hP hD hS hl
  have hx := C0.1
  have hb := C0.2.1
  obtain ⟨hn1, hn2, hdis⟩ := z_nd hnd
  have hPc := hP.sub (ws' := wc) isC (z_sub hC)
  have hDc := hD.sub (ws' := wc) isC hn1 hC
  have hFc := va_free (wc := wc) hD hS C0.2.2.2.2.2.2.2.2.1 isC hC
  refine va_callv (va_runI (As := As) (rest := st) (b := b) ⟨hx, hb, C0.2.2.2.1, C0.2.2.2.2.1, C0.2.2.2.2.2.1⟩ (hM H.size) (cwI n C0.2.2.2.2.2.1 hT hw hrc hrs (C0.2.2.2.2.2.1 _ hini) (C0.2.2.2.2.2.1 _ hlk) (C0.2.2.2.2.2.1 _ hinst) hyn hdy hRm) ⟨zPre.blind, fun U hU hW => zPre.at hPc C0.2.2.2.2.2.2.2.1 (hDc.weaken (fun _ _ _ _ => trivial)) C0.2.2.2.2.2.2.2.2.2 hS hFc hU hW⟩ rfl hn (hl.1) hstk (lv_room hrm) hd hf) hS (fun q _ h => hFc q h) hFc (fun u t H1 locs1 ht hvm hw1 hB hz1 hk1 hS1 => ?_)
  obtain ⟨hP1, hK1, hD1⟩ := hB
  rw [ht] at hP1
  obtain ⟨hP2, hD2⟩ := va_join hP hD isC isR hC hR hn2 hdis hk1 hFc hP1 hD1
  exact W.widen hc1.1 hc1.2 (k u hw1 H1 locs1 ls hP2 hD2 hS1 hl)
theorem z_callSNi (q : Nat) (C0 : zC E p s m args meth c cc nL ret own Ts A) (isC isR : List Nat) (wr : va_W) (cells1 slots1 : Nat) {y : MethodName} {wsY ws2 : List Cond} {rm : Room} {wc : va_W} {mc ms : Nat} {bytes : ByteArray} {maxL i : Nat} {st0 : List Value} {n : Nat} {host : String} {As : List Value} {rt : Option FieldType} {B : Int32 → va_W → Prop} (hM : zMi l E y wsY rm As wc B mc ms) (hT : GoodIn Ts wsY) (hw : wsY = Cond.code y bytes maxL rt :: ws2) (hnw : va_Nw (.methodLinkNest own i y host) s) (hini : Cond.initialized y.cls ∈ Ts) (hst : Cond.static y ∈ Ts) (hdy : y.cls ≠ "java/lang/invoke/MethodHandle" ∧ y.cls ≠ "java/lang/invoke/VarHandle" ∧ (parseMethodDescriptor y.desc).map (fun d => d.parameters.length) = some n)  (hC : isC.map (fun i => ws[i]?) = wc.map some) (hR : isR.map (fun i => ws[i]?) = wr.map some) (hnd : va_nd (isC ++ isR) = true)
    (hstk : st0 = As.reverse ++ st) (hn : As.length = n) (hrm : (st.map fun v => v.category).sum ≤ 8) (hRm : rm.frames + 1 ≤ R.frames ∧ 8 + (maxL + 11) + rm.locals ≤ R.locals) (hrc : rm.cells = mc) (hrs : rm.slots = ms) (hf : cells + mc ≤ R.cells ∧ slots + ms ≤ R.slots) (hc1 : cells + mc ≤ cells1 ∧ slots + ms ≤ slots1) (hd : decode cc pc = .ok (.invokestatic i, 3)) (hq : pc + 3 = q) (k : ∀ (r : Int32) (w1 : va_W), B r w1 → Z E p l e R s m args below meth c Q A nL q L (.int r :: st) (wr ++ w1) cells1 slots1) : Z E p l e R s m args below meth c Q A nL pc L st0 ws cells slots := by
  subst hq
  intro H locs ls hP hD hS hl
  have hx := C0.1
  have hb := C0.2.1
  obtain ⟨hn1, hn2, hdis⟩ := z_nd hnd
  have hPc := hP.sub (ws' := wc) isC (z_sub hC)
  have hDc := hD.sub (ws' := wc) isC hn1 hC
  have hFc := va_free (wc := wc) hD hS C0.2.2.2.2.2.2.2.2.1 isC hC
  refine va_calli (va_runSN (As := As) (rest := st) (host := host) ⟨hx, hb, C0.2.2.2.1, C0.2.2.2.2.1, C0.2.2.2.2.2.1⟩ (hM H.size) ⟨va_cnB n C0.2.2.2.2.2.1 hT hw hrc hrs hnw (C0.2.2.2.2.2.1 _ hini) hdy hRm, C0.2.2.2.2.2.1 _ hst, trivial⟩ ⟨zPre.blind, fun U hU hW => zPre.at hPc C0.2.2.2.2.2.2.2.1 (hDc.weaken (fun _ _ _ _ => trivial)) C0.2.2.2.2.2.2.2.2.2 hS hFc hU hW⟩ rfl hn (hl.1) hstk (lv_room hrm) hd hf) hS (fun q _ h => hFc q h) hFc (fun r u t H1 locs1 ht hvm hw1 hB hz1 hk1 hS1 => ?_)
  obtain ⟨hP1, hK1, hD1⟩ := hB
  rw [ht] at hP1
  obtain ⟨hP2, hD2⟩ := va_join hP hD isC isR hC hR hn2 hdis hk1 hFc hP1 hD1
  exact W.widen hc1.1 hc1.2 (k r u hw1 H1 locs1 ls hP2 hD2 hS1 hl)
theorem z_callIN (q : Nat) (C0 : zC E p s m args meth c cc nL ret own Ts A) (isC isR : List Nat) (wr : va_W) (cells1 slots1 : Nat) {y : MethodName} {wsY ws2 : List Cond} {rm : Room} {wc : va_W} {mc ms : Nat} {bytes : ByteArray} {maxL i : Nat} {st0 : List Value} {b n : Nat} {host : String} {As : List Value} {B : va_W → Prop} (hM : zMv l E y wsY rm (.ref b :: As) wc B mc ms) (hT : GoodIn Ts wsY) (hw : wsY = Cond.code y bytes maxL none :: ws2) (hnw : va_Nw (.methodLinkNest own i y host) s) (hini : Cond.initialized y.cls ∈ Ts) (hinst : Cond.instanceMethod y ∈ Ts) (hyn : y.name = "<init>") (hdy : y.cls ≠ "java/lang/invoke/MethodHandle" ∧ y.cls ≠ "java/lang/invoke/VarHandle" ∧ (parseMethodDescriptor y.desc).map (fun d => d.parameters.length) = some n)  (hC : isC.map (fun i => ws[i]?) = wc.map some) (hR : isR.map (fun i => ws[i]?) = wr.map some) (hnd : va_nd (isC ++ isR) = true)
    (hstk : st0 = As.reverse ++ .ref b :: st) (hn : As.length = n) (hrm : (st.map fun v => v.category).sum ≤ 8) (hRm : rm.frames + 1 ≤ R.frames ∧ 8 + (maxL + 11) + rm.locals ≤ R.locals) (hrc : rm.cells = mc) (hrs : rm.slots = ms) (hf : cells + mc ≤ R.cells ∧ slots + ms ≤ R.slots) (hc1 : cells + mc ≤ cells1 ∧ slots + ms ≤ slots1) (hd : decode cc pc = .ok (.invokespecial i, 3)) (hq : pc + 3 = q) (k : ∀ (w1 : va_W), B w1 → Z E p l e R s m args below meth c Q A nL q L st (wr ++ w1) cells1 slots1) : Z E p l e R s m args below meth c Q A nL pc L st0 ws cells slots := by
  subst hq
  intro H locs ls hP hD hS hl
  have hx := C0.1
  have hb := C0.2.1
  obtain ⟨hn1, hn2, hdis⟩ := z_nd hnd
  have hPc := hP.sub (ws' := wc) isC (z_sub hC)
  have hDc := hD.sub (ws' := wc) isC hn1 hC
  have hFc := va_free (wc := wc) hD hS C0.2.2.2.2.2.2.2.2.1 isC hC
  refine va_callv (va_runIN (As := As) (rest := st) (b := b) (host := host) ⟨hx, hb, C0.2.2.2.1, C0.2.2.2.2.1, C0.2.2.2.2.2.1⟩ (hM H.size) ⟨va_cnB n C0.2.2.2.2.2.1 hT hw hrc hrs hnw (C0.2.2.2.2.2.1 _ hini) hdy hRm, hyn, C0.2.2.2.2.2.1 _ hinst⟩ ⟨zPre.blind, fun U hU hW => zPre.at hPc C0.2.2.2.2.2.2.2.1 (hDc.weaken (fun _ _ _ _ => trivial)) C0.2.2.2.2.2.2.2.2.2 hS hFc hU hW⟩ rfl hn (hl.1) hstk (lv_room hrm) hd hf) hS (fun q _ h => hFc q h) hFc (fun u t H1 locs1 ht hvm hw1 hB hz1 hk1 hS1 => ?_)
  obtain ⟨hP1, hK1, hD1⟩ := hB
  rw [ht] at hP1
  obtain ⟨hP2, hD2⟩ := va_join hP hD isC isR hC hR hn2 hdis hk1 hFc hP1 hD1
  exact W.widen hc1.1 hc1.2 (k u hw1 H1 locs1 ls hP2 hD2 hS1 hl)
theorem z_objInit (q : Nat) (C0 : zC E p s m args meth c cc nL ret own Ts A) {i a : Nat} (hlk : Cond.methodLink own i Lib.objectInit ∈ Ts) (hinst : Cond.instanceMethod Lib.objectInit ∈ Ts) (hcode : Cond.code Lib.objectInit ⟨#[0xb1]⟩ 1 none ∈ Ts) (hd : decode cc pc = .ok (.invokespecial i, 3)) (hq : pc + 3 = q) (hrm : (st.map fun v => v.category).sum ≤ 8) (hfr : 1 ≤ R.frames) (hlo : 20 ≤ R.locals) (k : Z E p l e R s m args below meth c Q A nL q L st ws cells slots) : Z E p l e R s m args below meth c Q A nL pc L (.ref a :: st) ws cells slots := by
  subst hq
  intro H locs ls hP hD hS hl
  have h0 : 2 * (F0 m pc ls (.ref a :: st)).monitorRoom + (st.map fun v => v.category).sum ≤ 8 := lv_room hrm
  exact W.objInit C0.1 C0.2.1 C0.2.2.2.2.1 (C0.2.2.2.2.2.1 _ hlk) (C0.2.2.2.2.2.1 _ hinst) (C0.2.2.2.2.2.1 _ hcode) rfl (by rw [C0.2.2.2.1]; exact hl.1) rfl hd hfr (by omega) (k H locs ls hP hD hS hl)
theorem z_min (q : Nat) (C0 : zC E p s m args meth c cc nL ret own Ts A) {i : Nat} {x y v : Int32} (hlk : Cond.methodLink own i Lib.Math.min.name ∈ Ts) (hst : Cond.static Lib.Math.min.name ∈ Ts) (hini : Cond.initialized "java/lang/Math" ∈ Ts) (hcode : Cond.code Lib.Math.min.name Lib.Math.min.code 2 (some .int) ∈ Ts) (hd : decode cc pc = .ok (.invokestatic i, 3)) (hq : pc + 3 = q) (hrm : (st.map fun v => v.category).sum ≤ 8) (hfr : 1 ≤ R.frames) (hlo : 21 ≤ R.locals) (hce : cells ≤ R.cells ∧ slots ≤ R.slots) (hv : (if y < x then y else x) = v) (k : Z E p l e R s m args below meth c Q A nL q L (.int v :: st) ws cells slots) : Z E p l e R s m args below meth c Q A nL pc L (.int y :: .int x :: st) ws cells slots := by
  subst hq; subst hv
  intro H locs ls hP hD hS hl
  exact va_mmin C0.1 C0.2.1 (by rw [C0.2.2.2.1]; exact hl.1.symm) C0.2.2.2.2.1 (C0.2.2.2.2.2.1 _ hlk) (C0.2.2.2.2.2.1 _ hst) (C0.2.2.2.2.2.1 _ hini) (C0.2.2.2.2.2.1 _ hcode) hfr (by omega) hce.1 hce.2 hd (k H locs ls hP hD hS hl)
theorem z_max (q : Nat) (C0 : zC E p s m args meth c cc nL ret own Ts A) {i : Nat} {x y v : Int32} (hlk : Cond.methodLink own i Lib.Math.max.name ∈ Ts) (hst : Cond.static Lib.Math.max.name ∈ Ts) (hini : Cond.initialized "java/lang/Math" ∈ Ts) (hcode : Cond.code Lib.Math.max.name Lib.Math.max.code 2 (some .int) ∈ Ts) (hd : decode cc pc = .ok (.invokestatic i, 3)) (hq : pc + 3 = q) (hrm : (st.map fun v => v.category).sum ≤ 8) (hfr : 1 ≤ R.frames) (hlo : 21 ≤ R.locals) (hce : cells ≤ R.cells ∧ slots ≤ R.slots) (hv : (if x < y then y else x) = v) (k : Z E p l e R s m args below meth c Q A nL q L (.int v :: st) ws cells slots) : Z E p l e R s m args below meth c Q A nL pc L (.int y :: .int x :: st) ws cells slots := by
  subst hq; subst hv
  intro H locs ls hP hD hS hl
  exact va_mmax C0.1 C0.2.1 (by rw [C0.2.2.2.1]; exact hl.1.symm) C0.2.2.2.2.1 (C0.2.2.2.2.2.1 _ hlk) (C0.2.2.2.2.2.1 _ hst) (C0.2.2.2.2.2.1 _ hini) (C0.2.2.2.2.2.1 _ hcode) hfr (by omega) hce.1 hce.2 hd (k H locs ls hP hD hS hl)
theorem z_new (q : Nat) (C0 : zC E p s m args meth c cc nL ret own Ts A) (cells1 slots1 : Nat) {ci N i : Nat} {C : String} {T : u_T} {fs : List Value} (hin : ∀ w ∈ u_ws C T N, w ∈ Ts) (ty : Nat → FieldType) (hty : ∀ k, k < N → parseFieldDescriptor (T k).2.2.1 = some (ty k)) (hcl : Cond.classLink own i C ∈ Ts) (hinst : Cond.instantiable C N ∈ Ts) (hini : Cond.initialized C ∈ Ts) (hc : vwCl[ci]? = some (C, T, N)) (hfs : ∀ j, j < N → defaultValue (ty j) = vp_V fs j) (hf : cells + 1 ≤ R.cells ∧ slots + N ≤ R.slots) (hc1 : cells + 1 = cells1 ∧ slots + N = slots1) (hd : decode cc pc = .ok (.new i, 3)) (hq : pc + 3 = q) (k : ∀ a : Nat, Z E p l e R s m args below meth c Q A nL q L (.ref a :: st) (ws ++ [(a, zo ci fs)]) cells1 slots1) : Z E p l e R s m args below meth c Q A nL pc L st ws cells slots := by
  subst hq
  obtain ⟨rfl, rfl⟩ := hc1
  intro H locs ls hP hD hS hl
  exact va_new C0.1 C0.2.1 C0.2.2.2.2.2.1 hin ty hty C0.2.2.2.2.1 (C0.2.2.2.2.2.1 _ hcl) (C0.2.2.2.2.2.1 _ hinst) (C0.2.2.2.2.2.1 _ hini) C0.2.2.2.2.2.2.2.1 hP hD hS C0.2.2.2.2.2.2.2.2.1 hc hfs hf.1 hf.2 hd (fun a H1 hP1 hD1 hS1 => k a H1 locs ls hP1 hD1 hS1 hl)
theorem z_newi (q : Nat) (C0 : zC E p s m args meth c cc nL ret own Ts A) (cells1 slots1 : Nat) {n : Nat} (harr : Cond.arrayClass .int ∈ Ts) (hn : n ≤ 134217728) (hf : cells + 1 ≤ R.cells ∧ slots + n ≤ R.slots) (hc1 : cells + 1 = cells1 ∧ slots + n = slots1) (hd : decode cc pc = .ok (.newarray .int, 2)) (hq : pc + 2 = q) (k : ∀ a : Nat, Z E p l e R s m args below meth c Q A nL q L (.ref a :: st) (ws ++ [(a, zi E n (fun _ => 0))]) cells1 slots1) : Z E p l e R s m args below meth c Q A nL pc L (.int (nI n) :: st) ws cells slots := by
  subst hq
  obtain ⟨rfl, rfl⟩ := hc1
  intro H locs ls hP hD hS hl
  have hn31 : n < 2 ^ 31 := by omega
  have hb4 : n * componentBytes FieldType.int ≤ 536870912 := by show n * 4 ≤ 536870912; omega
  refine va_newaK (atype := .int) C0.1 C0.2.1 (C0.2.2.2.2.2.1 _ harr) rfl hd rfl (nI_pos hn31) (nI_clamp hn31) hb4 hf.1 hf.2 rfl (fun H1 cA h1 h2 h3 h4 h5 => ?_)
  have hcc : cA = zcI E := by
    have h7 : s.vm.findClass ("[" ++ (FieldType.int).toString) = some (zcI E) := (C0.2.2.2.2.2.2.2.1.2 0 (zcI E, .int) rfl).2
    exact Option.some.inj (h5.symm.trans h7)
  subst hcc
  have hk : ∀ (k : Nat) (x : Nat × va_E), ws[k]? = some x → H1[x.1]? = H[x.1]? := fun k x hx => h3 x.1 ((hP k x hx).lt)
  refine k H.size H1 locs ls ?_ (hD.push hP rfl (C0.2.2.2.2.2.2.2.2.1 _ hS.1)) ⟨by rw [h2]; exact Nat.le_succ_of_le hS.1, fun a ha hna => ?_, hS.2.2⟩ hl
  · refine va_P.app (hP.kept hk) (fun j x hx => ?_)
    have hj : j < 1 := (List.getElem?_eq_some_iff.mp hx).1
    obtain rfl : j = 0 := by omega
    cases hx
    exact h1
  · rw [h3 a (Nat.lt_of_lt_of_le ha hS.1)]
    exact hS.2.1 a ha hna
end ZK
theorem zMi.of {l : Launch} {E : zE} {y : MethodName} {wsY ws2 : List Cond} {rm : Room} {av : List Value} {w0 : va_W} {B : Int32 → va_W → Prop} {mc ms : Nat} {cc : ByteArray} {nL : Nat} {ret : Option FieldType} (hy : plainName y.cls = true) (hw : wsY = Cond.code y cc nL ret :: ws2) (hn : (lg_sl av).length ≤ nL)
    (body : ∀ (p : Program) (e : Env) (s : State) (m : MethodId) (args : Array Value) (below : List Frame) (meth : Method) (c : Code) (A : Nat → Prop), zC E p s m args meth c cc nL ret y.cls wsY A → (y.name = "<init>" → meth.name = "<init>") → Z E p l e rm s m args below meth c (MQ below (va_Qi B (zPost E A) A) args s mc ms A) A nL 0 (lv_args 0 av) [] w0 0 0) : zMi l E y wsY rm av w0 B mc ms := by
  intro sz
  refine Met.ofW (cc := cc) (maxL := nL) (ret := ret) hy hw ?_
  intro p e s m args below meth c s₁ BL hml hv
  obtain ⟨rfl, hsz, hP, hK, hD0, hX⟩ := hv
  subst hsz
  have hts := atoms_spec (ws := wsY) BL.pre
  have hown : s.vm.findClass y.cls = some m.cls := findClass_of_methodNamed BL.named
  have hD := hD0.self (sz := s.heap.size)
  rw [lg_entry_eq]
  exact body p e s m _ below meth c _ ⟨BL.exec, BL.bytes, BL.returns, hml, hown, hts, BL.notSynchronized, hK, fun q h => Or.inr h, hX⟩ (fun h => by rw [← h]; exact (name_of_methodNamed BL.named BL.method).1) s.heap [] _ hP hD va_S.rf (lv_entry av hn)
theorem zMl.of {l : Launch} {E : zE} {y : MethodName} {wsY ws2 : List Cond} {rm : Room} {av : List Value} {w0 : va_W} {B : Int64 → va_W → Prop} {mc ms : Nat} {cc : ByteArray} {nL : Nat} {ret : Option FieldType} (hy : plainName y.cls = true) (hw : wsY = Cond.code y cc nL ret :: ws2) (hn : (lg_sl av).length ≤ nL)
    (body : ∀ (p : Program) (e : Env) (s : State) (m : MethodId) (args : Array Value) (below : List Frame) (meth : Method) (c : Code) (A : Nat → Prop), zC E p s m args meth c cc nL ret y.cls wsY A → (y.name = "<init>" → meth.name = "<init>") → Z E p l e rm s m args below meth c (MQ below (va_Ql B (zPost E A) A) args s mc ms A) A nL 0 (lv_args 0 av) [] w0 0 0) : zMl l E y wsY rm av w0 B mc ms := by
  intro sz
  refine Met.ofW (cc := cc) (maxL := nL) (ret := ret) hy hw ?_
  intro p e s m args below meth c s₁ BL hml hv
  obtain ⟨rfl, hsz, hP, hK, hD0, hX⟩ := hv
  subst hsz
  have hts := atoms_spec (ws := wsY) BL.pre
  have hown : s.vm.findClass y.cls = some m.cls := findClass_of_methodNamed BL.named
  have hD := hD0.self (sz := s.heap.size)
  rw [lg_entry_eq]
  exact body p e s m _ below meth c _ ⟨BL.exec, BL.bytes, BL.returns, hml, hown, hts, BL.notSynchronized, hK, fun q h => Or.inr h, hX⟩ (fun h => by rw [← h]; exact (name_of_methodNamed BL.named BL.method).1) s.heap [] _ hP hD va_S.rf (lv_entry av hn)
theorem zMv.of {l : Launch} {E : zE} {y : MethodName} {wsY ws2 : List Cond} {rm : Room} {av : List Value} {w0 : va_W} {B : va_W → Prop} {mc ms : Nat} {cc : ByteArray} {nL : Nat} {ret : Option FieldType} (hy : plainName y.cls = true) (hw : wsY = Cond.code y cc nL ret :: ws2) (hn : (lg_sl av).length ≤ nL)
    (body : ∀ (p : Program) (e : Env) (s : State) (m : MethodId) (args : Array Value) (below : List Frame) (meth : Method) (c : Code) (A : Nat → Prop), zC E p s m args meth c cc nL ret y.cls wsY A → (y.name = "<init>" → meth.name = "<init>") → Z E p l e rm s m args below meth c (MQ below (va_Qv B (zPost E A) A) args s mc ms A) A nL 0 (lv_args 0 av) [] w0 0 0) : zMv l E y wsY rm av w0 B mc ms := by
  intro sz
  refine Met.ofW (cc := cc) (maxL := nL) (ret := ret) hy hw ?_
  intro p e s m args below meth c s₁ BL hml hv
  obtain ⟨rfl, hsz, hP, hK, hD0, hX⟩ := hv
  subst hsz
  have hts := atoms_spec (ws := wsY) BL.pre
  have hown : s.vm.findClass y.cls = some m.cls := findClass_of_methodNamed BL.named
  have hD := hD0.self (sz := s.heap.size)
  rw [lg_entry_eq]
  exact body p e s m _ below meth c _ ⟨BL.exec, BL.bytes, BL.returns, hml, hown, hts, BL.notSynchronized, hK, fun q h => Or.inr h, hX⟩ (fun h => by rw [← h]; exact (name_of_methodNamed BL.named BL.method).1) s.heap [] _ hP hD va_S.rf (lv_entry av hn)
