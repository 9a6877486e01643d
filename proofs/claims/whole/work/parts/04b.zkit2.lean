/-! booleans, rows of small numbers, and rules over them -/
noncomputable def zb (P : Prop) : Int32 := @ite _ P (Classical.propDecidable P) 1 0
theorem zb_t {P : Prop} (h : P) : zb P = 1 := by unfold zb; rw [if_pos h]
theorem zb_f {P : Prop} (h : ¬ P) : zb P = 0 := by unfold zb; rw [if_neg h]
theorem zb_tN {P : Prop} (h : P) : nI 1 = zb P := (zb_t h).symm
theorem zb_fN {P : Prop} (h : ¬ P) : nI 0 = zb P := (zb_f h).symm
theorem zb_c {P Q : Prop} (h : P ↔ Q) : zb P = zb Q := by
  by_cases hp : P
  · rw [zb_t hp, zb_t (h.mp hp)]
  · rw [zb_f hp, zb_f (fun q => hp (h.mpr q))]
theorem zb_eq1 {P : Prop} : zb P = 1 ↔ P := by
  by_cases hp : P
  · exact ⟨fun _ => hp, fun _ => zb_t hp⟩
  · rw [zb_f hp]; exact ⟨fun h => absurd h (by decide), fun h => absurd h hp⟩
theorem zb_eq0 {P : Prop} : zb P = 0 ↔ ¬ P := by
  by_cases hp : P
  · rw [zb_t hp]; exact ⟨fun h => absurd h (by decide), fun h => absurd hp h⟩
  · exact ⟨fun _ => hp, fun _ => zb_f hp⟩
theorem zb_nar (P : Prop) : narrow .boolean (.int (zb P)) = .int (zb P) := by
  by_cases hp : P
  · rw [zb_t hp]; rfl
  · rw [zb_f hp]; rfl
theorem zb_fit (P : Prop) : fits .boolean (.int (zb P)) = true := by
  by_cases hp : P
  · rw [zb_t hp]; rfl
  · rw [zb_f hp]; rfl
abbrev zn (f : Nat → Nat) : Nat → Int32 := fun j => nI (f j)
theorem z_upN (f : Nat → Nat) (k v : Nat) : upd (zn f) k (nI v) = zn (va_up f k v) := by
  funext j
  by_cases h : j = k
  · simp [upd, va_up, zn, h]
  · simp [upd, va_up, zn, h]
theorem z_incN (a c : Nat) : nI a + Int32.ofInt (c : Int) = nI (a + c) := by
  have h : Int32.ofInt (c : Int) = nI c := by simp [nI, Int32.ofInt, Int32.ofNat]
  rw [h, nI_add]
theorem z_subN {a b c : Nat} (h : c + b = a) : nI a - nI b = nI c := by
  rw [pk_sub (by omega)]; congr 1; omega
theorem z_decN {a : Nat} (h : 1 ≤ a) : nI a + Int32.ofInt (-1) = nI (a - 1) := by
  obtain ⟨b, rfl⟩ : ∃ b, a = b + 1 := ⟨a - 1, by omega⟩
  exact pk_m1 b
section ZK2
variable {E : zE} {p : Program} {l : Launch} {e : Env} {R : Room} {s : State} {m : MethodId} {args : Array Value} {below : List Frame} {meth : Method} {c : Code} {Q : State → Prop}
variable {cc : ByteArray} {nL : Nat} {ret : Option FieldType} {own : String} {Ts : List Cond} {A : Nat → Prop}
variable {pc : Nat} {L : List (Nat × Value)} {st : List Value} {ws : va_W} {cells slots : Nat}
theorem z_if_eqP (q t : Nat) (C0 : zC E p s m args meth c cc nL ret own Ts A) {B : Prop} {off : Int} (hd : decode cc pc = .ok (.ifCond .eq off, 3)) (hq : pc + 3 = q) (ht : (pc : Int) + off = (t : Int)) (kt : ¬ B → Z E p l e R s m args below meth c Q A nL t L st ws cells slots) (kf : B → Z E p l e R s m args below meth c Q A nL q L st ws cells slots) : Z E p l e R s m args below meth c Q A nL pc L (.int (zb B) :: st) ws cells slots :=
  z_if_eq q t C0 hd hq ht (fun h => kt (zb_eq0.mp h)) (fun h => kf (Classical.byContradiction fun z => h (zb_f z)))
theorem z_if_neP (q t : Nat) (C0 : zC E p s m args meth c cc nL ret own Ts A) {B : Prop} {off : Int} (hd : decode cc pc = .ok (.ifCond .ne off, 3)) (hq : pc + 3 = q) (ht : (pc : Int) + off = (t : Int)) (kt : B → Z E p l e R s m args below meth c Q A nL t L st ws cells slots) (kf : ¬ B → Z E p l e R s m args below meth c Q A nL q L st ws cells slots) : Z E p l e R s m args below meth c Q A nL pc L (.int (zb B) :: st) ws cells slots :=
  z_if_ne q t C0 hd hq ht (fun h => kt (Classical.byContradiction fun z => h (zb_f z))) (fun h => kf (zb_eq0.mp h))
theorem z_icmp_eqP (q t : Nat) (C0 : zC E p s m args meth c cc nL ret own Ts A) {B : Prop} {off : Int} (hd : decode cc pc = .ok (.if_icmp .eq off, 3)) (hq : pc + 3 = q) (ht : (pc : Int) + off = (t : Int)) (kt : B → Z E p l e R s m args below meth c Q A nL t L st ws cells slots) (kf : ¬ B → Z E p l e R s m args below meth c Q A nL q L st ws cells slots) : Z E p l e R s m args below meth c Q A nL pc L (.int (nI 1) :: .int (zb B) :: st) ws cells slots :=
  z_icmp_eq q t C0 hd hq ht (fun h => kt (zb_eq1.mp h)) (fun h => kf (fun z => h (zb_t z)))
theorem z_icmp_neP (q t : Nat) (C0 : zC E p s m args meth c cc nL ret own Ts A) {B : Prop} {off : Int} (hd : decode cc pc = .ok (.if_icmp .ne off, 3)) (hq : pc + 3 = q) (ht : (pc : Int) + off = (t : Int)) (kt : ¬ B → Z E p l e R s m args below meth c Q A nL t L st ws cells slots) (kf : B → Z E p l e R s m args below meth c Q A nL q L st ws cells slots) : Z E p l e R s m args below meth c Q A nL pc L (.int (nI 1) :: .int (zb B) :: st) ws cells slots :=
  z_icmp_ne q t C0 hd hq ht (fun h => kt (fun z => h (zb_t z))) (fun h => kf (zb_eq1.mp h))
theorem z_newiW (q : Nat) (C0 : zC E p s m args meth c cc nL ret own Ts A) (cells1 slots1 : Nat) {n : Nat} (harr : Cond.arrayClass .int ∈ Ts) (hn : n ≤ 134217728) (hf : cells + 1 ≤ R.cells ∧ slots + n ≤ R.slots) (hc1 : cells + 1 ≤ cells1 ∧ slots + n ≤ slots1) (hd : decode cc pc = .ok (.newarray .int, 2)) (hq : pc + 2 = q) (k : ∀ a : Nat, Z E p l e R s m args below meth c Q A nL q L (.ref a :: st) (ws ++ [(a, zi E n (fun _ => 0))]) cells1 slots1) : Z E p l e R s m args below meth c Q A nL pc L (.int (nI n) :: st) ws cells slots :=
  z_newi q C0 (cells + 1) (slots + n) harr hn hf ⟨rfl, rfl⟩ hd hq (fun a => z_widen hc1.1 hc1.2 (k a))
theorem z_ext (q0 : Nat) (w1 : va_W) {a n : Nat} {f g : Nat → Int32} (ha : ws[q0]? = some (a, zi E n f)) (hfg : ∀ j, j < n → f j = g j) (hw : ws.set q0 (a, zi E n g) = w1) (k : Z E p l e R s m args below meth c Q A nL pc L st w1 cells slots) : Z E p l e R s m args below meth c Q A nL pc L st ws cells slots := by
  subst hw
  intro H locs ls hP hD hS hl
  have he : ∀ cA : ClassId, vp_cell cA (n, .inl f) = vp_cell cA (n, .inl g) := by
    intro cA
    show arrV cA n (fun j => .int (f j)) = arrV cA n (fun j => .int (g j))
    unfold arrV
    congr 2
    funext j
    exact congrArg Value.int (hfg j.val j.isLt)
  refine k H locs ls ?_ (hD.set ha) hS hl
  refine hP.set hD ha ?_ (fun q _ => rfl)
  have h1 := hP q0 _ ha
  show H[a]? = some (vp_cell (zcI E) (n, .inl g))
  rw [← he]
  exact h1
theorem z_copy (q : Nat) (C0 : zC E p s m args meth c cc nL ret own Ts A) (q0 q1 : Nat) (w1 : va_W) {i a0 a1 n0 n1 sp dp n : Nat} {f g : Nat → Int32} (hlink : Cond.methodLink own i arraycopyName ∈ Ts) (hnat : Cond.native arraycopyName ∈ Ts) (hstat : Cond.static arraycopyName ∈ Ts) (hini : Cond.initialized "java/lang/System" ∈ Ts) (ha0 : ws[q0]? = some (a0, zi E n0 f)) (ha1 : ws[q1]? = some (a1, zi E n1 g)) (h4 : sp + n ≤ n0) (h5 : dp + n ≤ n1) (hb0 : n0 < 2 ^ 31) (hb1 : n1 < 2 ^ 31) (hfr : 1 ≤ R.frames) (hrm : (st.map fun v => v.category).sum ≤ 8) (hlo : 8 + (nativeFrameWords "java/lang/System" "arraycopy" 5 + 11) ≤ R.locals) (hd : decode cc pc = .ok (.invokestatic i, 3)) (hq : pc + 3 = q) (hw : ws.set q1 (a1, zi E n1 (va_cpy f g sp dp n)) = w1) (k : Z E p l e R s m args below meth c Q A nL q L st w1 cells slots) : Z E p l e R s m args below meth c Q A nL pc L (.int (nI n) :: .int (nI dp) :: .ref a1 :: .int (nI sp) :: .ref a0 :: st) ws cells slots := by
  subst hq; subst hw
  intro H locs ls hP hD hS hl
  have e1 : (nI sp).toNatClampNeg = sp := nI_clamp (by omega)
  have e2 : (nI dp).toNatClampNeg = dp := nI_clamp (by omega)
  have e3 : (nI n).toNatClampNeg = n := nI_clamp (by omega)
  refine va_copyi C0.1 C0.2.1 (by rw [C0.2.2.2.1]; exact hl.1.symm) C0.2.2.2.2.1 (C0.2.2.2.2.2.1 _ hlink) (C0.2.2.2.2.2.1 _ hnat) (C0.2.2.2.2.2.1 _ hstat) (C0.2.2.2.2.2.1 _ hini) C0.2.2.2.2.2.2.2.1 hP hD hS q0 q1 0 0 ha0 ha1 rfl rfl rfl (nI_pos (by omega)) (nI_pos (by omega)) (nI_pos (by omega)) (by rw [e1, e3]; exact h4) (by rw [e2, e3]; exact h5) (fun _ _ => rfl) hfr (by omega) hd ?_
  intro H1 locs1 hP1 hD1 hS1
  rw [e1, e2, e3] at hP1 hD1
  exact k H1 locs1 ls hP1 hD1 hS1 hl
end ZK2
