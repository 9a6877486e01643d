/-! the law's own rules: the script, 'cell', the law's end; what the law's walk rests on -/
theorem arrOverA {args : Array Value} {s : State} {t : FieldType} (h : (Cond.arrayOver (.array t)).before args s = true) :
    ∃ comp c k, s.vm.findClass (FieldType.array t).toString = some comp ∧ s.vm.classes[c]? = some k ∧ k.kind = .array comp (.array t) ∧ s.vm.findClass ("[" ++ (FieldType.array t).toString) = some c := by
  simp only [Cond.before, Cond.holds, Cond.value, beq_iff_eq] at h
  cases hc : s.vm.findClass (FieldType.array t).toString with
  | none => simp [hc] at h
  | some comp =>
    simp only [hc, Option.bind_some, Option.bind_eq_some_iff, Option.map_eq_some_iff] at h
    obtain ⟨c, hi, k, hk, hb⟩ := h
    obtain ⟨hlt, hp, -⟩ := Array.findIdx?_eq_some_iff_getElem.mp hi
    rw [(Array.getElem?_eq_some_iff.mp hk).2] at hp
    cases hkind : k.kind with
    | array component ty =>
      rw [hkind] at hb hp
      simp at hb hp
      exact ⟨comp, c, k, rfl, hk, by rw [hkind, hp, hb.1], hb.2⟩
    | _ => rw [hkind] at hb; simp at hb
theorem zAOA_args {args : Array Value} {s : State} (h : zAOA s) : (Cond.arrayOver (.array .int)).before args s = true := by
  unfold zAOA at h
  unfold Cond.before Cond.holds at h ⊢
  simp only [Cond.value] at h ⊢
  exact h
/-- what 'cell' answers -/
def cellV (xs : Nat → Int32) (L k : Nat) : Int32 := if k < L then xs k else 0
def zX (b L : Nat) (xs : Nat → Int32) (U : State) : Prop := va_X b L xs U U.heap ∧ b < U.heap.size
def zMx (l : Launch) (E : zE) (y : MethodName) (ws : List Cond) (rm : Room) (av : List Value) (X : State → Prop) (B : Int32 → va_W → Prop) : Prop :=
  ∀ sz : Nat, Met l y ws rm (fun a U => zPre E av [] sz a U ∧ X U) (va_Qi B (zPost E (va_A [] sz)) (va_A [] sz)) 0 0 (va_A [] sz)
theorem zMx.of {l : Launch} {E : zE} {y : MethodName} {wsY ws2 : List Cond} {rm : Room} {av : List Value} {X : State → Prop} {B : Int32 → va_W → Prop} {cc : ByteArray} {nL : Nat} {ret : Option FieldType} (hy : plainName y.cls = true) (hw : wsY = Cond.code y cc nL ret :: ws2) (hn : (lg_sl av).length ≤ nL)
    (body : ∀ (p : Program) (e : Env) (s : State) (m : MethodId) (args : Array Value) (below : List Frame) (meth : Method) (c : Code) (A : Nat → Prop), zC E p s m args meth c cc nL ret y.cls wsY A → X s → (∀ q, A q → s.heap.size ≤ q) → Z E p l e rm s m args below meth c (MQ below (va_Qi B (zPost E A) A) args s 0 0 A) A nL 0 (lv_args 0 av) [] [] 0 0) : zMx l E y wsY rm av X B := by
  intro sz
  refine Met.ofW (cc := cc) (maxL := nL) (ret := ret) hy hw ?_
  intro p e s m args below meth c s₁ BL hml hv
  obtain ⟨⟨rfl, hsz, hP, hK, hD0, hX⟩, hXs⟩ := hv
  subst hsz
  have hts := atoms_spec (ws := wsY) BL.pre
  have hown : s.vm.findClass y.cls = some m.cls := findClass_of_methodNamed BL.named
  have hD := hD0.self (sz := s.heap.size)
  rw [lg_entry_eq]
  refine body p e s m _ below meth c _ ⟨BL.exec, BL.bytes, BL.returns, hml, hown, hts, BL.notSynchronized, hK, fun q h => Or.inr h, hX⟩ hXs ?_ s.heap [] _ hP hD va_S.rf (lv_entry av hn)
  intro q hq
  rcases hq with ⟨k, e, h⟩ | h
  · cases h
  · exact h
section ZL
variable {E : zE} {p : Program} {l : Launch} {e : Env} {R : Room} {s : State} {m : MethodId} {args : Array Value} {below : List Frame} {meth : Method} {c : Code} {Q : State → Prop}
variable {cc : ByteArray} {nL : Nat} {ret : Option FieldType} {own : String} {Ts : List Cond} {A : Nat → Prop}
variable {pc : Nat} {L : List (Nat × Value)} {st : List Value} {ws : va_W} {cells slots : Nat}
theorem z_slen (q : Nat) (C0 : zC E p s m args meth c cc nL ret own Ts A) {b n : Nat} {xs : Nat → Int32} (hX : va_X b n xs s s.heap) (hbl : b < s.heap.size) (hbA : ¬ A b) (hd : decode cc pc = .ok (.arraylength, 1)) (hq : pc + 1 = q) (k : Z E p l e R s m args below meth c Q A nL q L (.int (nI n) :: st) ws cells slots) : Z E p l e R s m args below meth c Q A nL pc L (.ref b :: st) ws cells slots := by
  subst hq
  intro H locs ls hP hD hS hl
  exact va_slen C0.1 C0.2.1 hX hbl hbA hS hd (k H locs ls hP hD hS hl)
theorem z_sld (q : Nat) (C0 : zC E p s m args meth c cc nL ret own Ts A) {b n j : Nat} {v : Int32} {xs : Nat → Int32} (hX : va_X b n xs s s.heap) (hbl : b < s.heap.size) (hbA : ¬ A b) (hd : decode cc pc = .ok (.iaload, 1)) (hq : pc + 1 = q) (hj : j < n) (hn : n < 2 ^ 31) (hv : xs j = v) (k : Z E p l e R s m args below meth c Q A nL q L (.int v :: st) ws cells slots) : Z E p l e R s m args below meth c Q A nL pc L (.int (nI j) :: .ref b :: st) ws cells slots := by
  subst hq
  subst hv
  intro H locs ls hP hD hS hl
  have e1 : (nI j).toNatClampNeg = j := nI_clamp (Nat.lt_trans hj hn)
  refine va_sld C0.1 C0.2.1 hX hbl hbA hS (vp_in_nI hj hn) hd ?_
  rw [e1]
  exact k H locs ls hP hD hS hl
/-- the call of 'cell' -/
theorem z_cell (q : Nat) (C0 : zC E p s m args meth c cc nL ret own Ts A) {wsY ws2 : List Cond} {rm : Room} {bytes : ByteArray} {maxL i b n : Nat} {xs : Nat → Int32} {y : MethodName} {rt : Option FieldType} {As : List Value} {st0 : List Value} {B : Int32 → va_W → Prop} (hX : va_X b n xs s s.heap) (hbl : b < s.heap.size) (hbA : ¬ A b) (hM : zMx l E y wsY rm As (zX b n xs) B) (hT : GoodIn Ts (va_wsS own i y wsY)) (hw : wsY = Cond.code y bytes maxL rt :: ws2) {nA : Nat} (hdy : y.cls ≠ "java/lang/invoke/MethodHandle" ∧ y.cls ≠ "java/lang/invoke/VarHandle" ∧ (parseMethodDescriptor y.desc).map (fun d => d.parameters.length) = some nA)
    (hstk : st0 = As.reverse ++ st) (hn : As.length = nA) (hrm : (st.map fun v => v.category).sum ≤ 8) (hRm : rm.frames + 1 ≤ R.frames ∧ 8 + (maxL + 11) + rm.locals ≤ R.locals) (hrc : rm.cells = 0) (hrs : rm.slots = 0) (hf : cells + 0 ≤ R.cells ∧ slots + 0 ≤ R.slots) (hd : decode cc pc = .ok (.invokestatic i, 3)) (hq : pc + 3 = q) (k : ∀ (r : Int32) (w1 : va_W), B r w1 → Z E p l e R s m args below meth c Q A nL q L (.int r :: st) ws cells slots) : Z E p l e R s m args below meth c Q A nL pc L st0 ws cells slots := by
  subst hq
  intro H locs ls hP hD hS hl
  have hx := C0.1
  have hb := C0.2.1
  have hPc := hP.sub (ws' := []) [] rfl
  have hDc := hD.sub (ws' := []) [] (by decide) rfl
  have hFc := va_free (wc := []) hD hS C0.2.2.2.2.2.2.2.2.1 [] rfl
  refine va_calli (va_runS (As := As) (rest := st) ⟨hx, hb, C0.2.2.2.1, C0.2.2.2.2.1, C0.2.2.2.2.2.1⟩ (hM H.size) (va_cwS nA C0.2.2.2.2.2.1 hT hw hrc hrs hdy hRm) ⟨fun a U g mk q => ⟨zPre.blind a U g mk q.1, va_X.moved (u := U) (U := U.calling g mk a) (Vm.Alike.refl U.vm) q.2.1, q.2.2⟩, fun U hU hW => ⟨zPre.at hPc C0.2.2.2.2.2.2.2.1 (hDc.weaken (fun _ _ _ _ => trivial)) C0.2.2.2.2.2.2.2.2.2 hS hFc hU hW, by rw [hU]; exact va_X.moved hW.alike (hX.kept (hS.2.1 b hbl hbA)), by rw [hU]; exact Nat.lt_of_lt_of_le hbl hS.1⟩⟩ rfl hn (hl.1) hstk (lv_room hrm) hd hf) hS (fun q _ h => hFc q h) hFc (fun r u t H1 locs1 ht hvm hw1 hB hz1 hk1 hS1 => ?_)
  obtain ⟨hP1, hK1, hD1⟩ := hB
  rw [ht] at hP1
  have hP2 : va_P E.1 vwCl ws H1 := hP.kept (fun k x hx => hk1 x.1 ((hP k x hx).lt) (fun q => by
    rcases q with ⟨k, e, h⟩ | h
    · cases h
    · exact absurd ((hP k x hx).lt) (Nat.not_lt.mpr h)))
  exact k r u hw1 H1 locs1 ls hP2 hD hS1 hl
end ZL
set_option maxHeartbeats 4000000 in
theorem c_cell (l : Launch) (E : zE) {b n j : Nat} {xs : Nat → Int32} (hj : j < 2 ^ 31) (hn : n < 2 ^ 31) : zMx l E yL_cell (zTs yL_cell cL_cell 2 (some .int)) ({ frames := 0, cells := 0, slots := 0, locals := 0 } : Room) [.ref b, .int (nI j)] (zX b n xs) (fun r w => r = cellV xs n j ∧ w = []) := by
  refine zMx.of (cc := cL_cell) (nL := 2) (ret := some .int) (by decide) rfl (Nat.le_of_ble_eq_true rfl) ?_
  intro p e s m args below meth c A C0 hXs hAs
  obtain ⟨hX, hbl⟩ := hXs
  have hbA : ¬ A b := fun h => Nat.not_lt.mpr (hAs b h) hbl
  refine z_eqL (L1 := [(0, .ref b), (1, .int (nI j))]) rfl ?_
  refine z_iload_n 1 C0 1 dL_cell_0 rfl rfl rfl ?_
  refine z_aload_n 2 C0 0 dL_cell_1 rfl rfl rfl ?_
  refine z_slen 3 C0 hX hbl hbA dL_cell_2 rfl ?_
  refine z_icmp_geN 6 12 C0 hj hn dL_cell_3 rfl (by decide) (fun k3 => ?_) (fun k3 => ?_)
  · refine z_iconst 13 C0 (v := 0) dL_cell_12 rfl rfl ?_
    exact z_iret C0 rfl dL_cell_13 ⟨(if_neg (Nat.not_lt.mpr k3)).symm, rfl⟩ (Nat.le_refl 0) (Nat.le_refl 0)
  · refine z_aload_n 7 C0 0 dL_cell_6 rfl rfl rfl ?_
    refine z_iload_n 8 C0 1 dL_cell_7 rfl rfl rfl ?_
    refine z_sld 9 C0 (v := xs j) hX hbl hbA dL_cell_8 rfl k3 hn rfl ?_
    refine z_goto 13 C0 dL_cell_9 (by decide) ?_
    exact z_iret C0 rfl dL_cell_13 ⟨(if_pos k3).symm, rfl⟩ (Nat.le_refl 0) (Nat.le_refl 0)
theorem law_le {L i : Nat} (hL : L ≤ 2051) (hi : i ≤ 3000) (h : ¬ nI L - nI 4 < nI i) : i + 4 ≤ L := by
  rcases Nat.lt_or_ge L 4 with q | q
  · exfalso
    apply h
    have h0 : nI L - nI 4 < 0 := by
      rcases (show L = 0 ∨ L = 1 ∨ L = 2 ∨ L = 3 by omega) with rfl | rfl | rfl | rfl <;> decide
    have h1 := nI_toInt (n := i) (by omega)
    rw [Int32.lt_iff_toInt_lt] at h0 ⊢
    have h2 : (0 : Int32).toInt = 0 := by decide
    omega
  · rw [pk_sub q] at h
    apply Nat.le_of_not_lt
    intro z
    exact h ((nI_ltI (by omega) (by omega)).mpr (by omega))
theorem prog_cases (z : Int32) : z = nI 0 ∨ z = nI 1 ∨ z = nI 2 ∨ z = nI 3 ∨ ¬ ∃ k, k < 4 ∧ z = nI k := by
  rcases Classical.em (∃ k, k < 4 ∧ z = nI k) with ⟨k, hk, rfl⟩ | h
  · rcases (show k = 0 ∨ k = 1 ∨ k = 2 ∨ k = 3 by omega) with rfl | rfl | rfl | rfl
    · exact Or.inl rfl
    · exact Or.inr (Or.inl rfl)
    · exact Or.inr (Or.inr (Or.inl rfl))
    · exact Or.inr (Or.inr (Or.inr (Or.inl rfl)))
  · exact Or.inr (Or.inr (Or.inr (Or.inr h)))
theorem lg_self {a b : Int64} (h : a = b) : lg_cmp a b = 0 := (lg_cmp_eq a b).mpr h
theorem clampS_1 {a : Int32} (h : ¬ nI 1 ≤ a) : nI 1 = nI (clampS a) := by
  rw [clampS_val, if_pos (show a < 1 from i32_lt_of_nle h)]
  first | done | rfl
theorem clampS_16 {a : Int32} (h : nI 1 ≤ a) (h2 : ¬ a ≤ nI 16) : nI 16 = nI (clampS a) := by
  rw [clampS_val, if_neg (show ¬ a < 1 from i32_nlt_of_le h), if_pos (i32_lt_of_nle h2)]
theorem clampS_m {a : Int32} (h : nI 1 ≤ a) (h2 : a ≤ nI 16) : a = nI (clampS a) := by
  rw [clampS_val, if_neg (show ¬ a < 1 from i32_nlt_of_le h), if_neg (i32_nlt_of_le h2)]
