/-! arrays of references: new, store, in other words -/
section ZK3
variable {E : zE} {p : Program} {l : Launch} {e : Env} {R : Room} {s : State} {m : MethodId} {args : Array Value} {below : List Frame} {meth : Method} {c : Code} {Q : State → Prop}
variable {cc : ByteArray} {nL : Nat} {ret : Option FieldType} {own : String} {Ts : List Cond} {A : Nat → Prop}
variable {pc : Nat} {L : List (Nat × Value)} {st : List Value} {ws : va_W} {cells slots : Nat}
theorem z_newP (q : Nat) (C0 : zC E p s m args meth c cc nL ret own Ts A) (cells1 slots1 : Nat) {i n : Nat} (hcl : Cond.classLink own i "GrindField$Program" ∈ Ts) (hn : n ≤ 134217728) (hf : cells + 1 ≤ R.cells ∧ slots + n ≤ R.slots) (hc1 : cells + 1 = cells1 ∧ slots + n = slots1) (hd : decode cc pc = .ok (.anewarray i, 3)) (hq : pc + 3 = q) (k : ∀ a : Nat, Z E p l e R s m args below meth c Q A nL q L (.ref a :: st) (ws ++ [(a, zp E n (fun _ => none))]) cells1 slots1) : Z E p l e R s m args below meth c Q A nL pc L (.int (nI n) :: st) ws cells slots := by
  subst hq
  obtain ⟨rfl, rfl⟩ := hc1
  intro H locs ls hP hD hS hl
  have hn31 : n < 2 ^ 31 := by omega
  have hK := C0.2.2.2.2.2.2.2.1
  refine va_newq (C := "GrindField$Program") C0.1 C0.2.1 C0.2.2.2.2.1 (C0.2.2.2.2.2.1 _ hcl) C0.2.2.2.2.2.2.2.2.2.1.2.1 hK hP hD hS C0.2.2.2.2.2.2.2.2.1 (nI_pos hn31) (nI_clamp hn31) (by omega) hf.1 hf.2 hd (fun a cA H1 hK1 hP1 hD1 hS1 => ?_)
  have hcc : cA = zcP E := by
    obtain ⟨kA, comp, -, -, -, h1⟩ := (hK.2 1 (zcP E, .object "GrindField$Program") rfl).2
    obtain ⟨kA2, comp2, -, -, -, h2⟩ := (hK1.2 3 (cA, .object "GrindField$Program") rfl).2
    exact Option.some.inj (h2.symm.trans h1)
  subst hcc
  exact k a H1 locs ls hP1 hD1 hS1 hl
theorem z_aast (q : Nat) (C0 : zC E p s m args meth c cc nL ret own Ts A) (q0 qk : Nat) (w1 : va_W) {a n j v : Nat} {vs : List Value} {f : Nat → Option Nat} (hd : decode cc pc = .ok (.aastore, 1)) (hq : pc + 1 = q) (ha : ws[q0]? = some (a, zp E n f)) (hv : ws[qk]? = some (v, zo 5 vs)) (hj : j < n) (hn : n < 2 ^ 31) (hw : ws.set q0 (a, zp E n (va_up f j (some v))) = w1) (k : Z E p l e R s m args below meth c Q A nL q L st w1 cells slots) : Z E p l e R s m args below meth c Q A nL pc L (.ref v :: .int (nI j) :: .ref a :: st) ws cells slots := by
  subst hq
  intro H locs ls hP hD hS hl
  have hx := C0.1
  have hb := C0.2.1
  subst hw
  have e1 : (nI j).toNatClampNeg = j := nI_clamp (Nat.lt_trans hj hn)
  refine va_astq (r := (RX5, TX5, 4)) hx hb C0.2.2.2.2.2.2.2.1 hP hD hS q0 1 qk 5 ha rfl hv rfl (vp_in_nI hj hn) hd ?_
  intro H1 locs1 hP1 hD1 hS1
  rw [e1] at hP1 hD1
  exact k H1 locs1 ls hP1 hD1 hS1 hl
theorem z_extq (q0 : Nat) (w1 : va_W) {a n : Nat} {cA : ClassId} {f g : Nat → Option Nat} (ha : ws[q0]? = some (a, .inl (cA, n, .inr (.inr (.inr (.inr f)))))) (hfg : ∀ j, j < n → f j = g j) (hw : ws.set q0 (a, .inl (cA, n, .inr (.inr (.inr (.inr g))))) = w1) (k : Z E p l e R s m args below meth c Q A nL pc L st w1 cells slots) : Z E p l e R s m args below meth c Q A nL pc L st ws cells slots := by
  subst hw
  intro H locs ls hP hD hS hl
  have he : vp_cell cA (n, .inr (.inr (.inr (.inr f)))) = vp_cell cA (n, .inr (.inr (.inr (.inr g)))) := by
    show arrV cA n (fun j => va_rf (f j)) = arrV cA n (fun j => va_rf (g j))
    unfold arrV
    congr 2
    funext j
    exact congrArg va_rf (hfg j.val j.isLt)
  refine k H locs ls ?_ (hD.set ha) hS hl
  refine hP.set hD ha ?_ (fun q _ => rfl)
  have h1 := hP q0 _ ha
  show H[a]? = some (vp_cell cA (n, .inr (.inr (.inr (.inr g)))))
  rw [← he]
  exact h1
end ZK3
