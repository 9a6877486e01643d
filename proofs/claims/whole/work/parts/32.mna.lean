/-! new int[4][64] -/
section ZMNA
variable {E : zE} {p : Program} {l : Launch} {e : Env} {R : Room} {s : State} {m : MethodId} {args : Array Value} {below : List Frame} {meth : Method} {c : Code} {Q : State → Prop}
variable {cc : ByteArray} {nL : Nat} {ret : Option FieldType} {own : String} {Ts : List Cond} {A : Nat → Prop}
variable {pc : Nat} {L : List (Nat × Value)} {st : List Value} {ws : va_W} {cells slots : Nat}
theorem z_mna (q : Nat) (C0 : zC E p s m args meth c cc nL ret own Ts A) (cells1 slots1 : Nat) {i : Nat} (hcl : Cond.classLink own i "[[I" ∈ Ts) (harr : Cond.arrayClass .int ∈ Ts) (hf : cells + 5 ≤ R.cells ∧ slots + 260 ≤ R.slots) (hc1 : cells + 5 = cells1 ∧ slots + 260 = slots1) (hd : decode cc pc = .ok (.multianewarray i 2, 4)) (hq : pc + 4 = q)
    (k : ∀ a r0 r1 r2 r3 : Nat, Z E p l e R s m args below meth c Q A nL q L (.ref a :: st) (ws ++ [(a, zg E 4 (pf4 r0 r1 r2 r3)), (r0, zi E 64 (fun _ => 0)), (r1, zi E 64 (fun _ => 0)), (r2, zi E 64 (fun _ => 0)), (r3, zi E 64 (fun _ => 0))]) cells1 slots1) : Z E p l e R s m args below meth c Q A nL pc L (.int (nI 64) :: .int (nI 4) :: st) ws cells slots :=
  z_mnaR q C0 cells1 slots1 hcl harr hf hc1 hd hq (fun a r0 r1 r2 r3 => k a r0 r1 r2 r3)
end ZMNA
