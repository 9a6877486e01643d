/-! the law's start: what the tables give, and the walk from the entry -/
theorem mN_ : ∀ j, j < 19 → Cond.eq (Term.elem (.static "GrindField$Checker" "NEEDED" "[I") (.int (Int32.ofNat j))) (.int (zNeed j)) ∈ flatC (Jvm.Cond.and given_1 narrow_1) := by decide +kernel
theorem mG_ : ∀ j, j < 19 → Cond.eq (Term.elem (.static "GrindField$Checker" "GROWTH" "[I") (.int (Int32.ofNat j))) (.int (zGrow j)) ∈ flatC (Jvm.Cond.and given_1 narrow_1) := by decide +kernel
theorem mA_ : ∀ j, j < 4 → Cond.eq (Term.elem (.static "GrindFieldModel" "ARGUMENTS" "[I") (.int (Int32.ofNat j))) (.int (zArgs j)) ∈ flatC (Jvm.Cond.and given_1 narrow_1) := by decide +kernel
theorem mL_ : (Cond.arrayOf (.static "GrindField$Checker" "NEEDED" "[I") .int ∈ flatC (Jvm.Cond.and given_1 narrow_1) ∧ Cond.eq (.length (.static "GrindField$Checker" "NEEDED" "[I")) (.int (Int32.ofNat 19)) ∈ flatC (Jvm.Cond.and given_1 narrow_1)) ∧ (Cond.arrayOf (.static "GrindField$Checker" "GROWTH" "[I") .int ∈ flatC (Jvm.Cond.and given_1 narrow_1) ∧ Cond.eq (.length (.static "GrindField$Checker" "GROWTH" "[I")) (.int (Int32.ofNat 19)) ∈ flatC (Jvm.Cond.and given_1 narrow_1)) ∧ (Cond.arrayOf (.static "GrindFieldModel" "ARGUMENTS" "[I") .int ∈ flatC (Jvm.Cond.and given_1 narrow_1) ∧ Cond.eq (.length (.static "GrindFieldModel" "ARGUMENTS" "[I")) (.int (Int32.ofNat 4)) ∈ flatC (Jvm.Cond.and given_1 narrow_1)) := by decide +kernel
theorem arrClsI {args : Array Value} {s : State} (h : (Cond.arrayClass .int).before args s = true) : ∃ c k comp, s.vm.findClass ("[" ++ FieldType.int.toString) = some c ∧ s.vm.classes[c]? = some k ∧ k.kind = .array comp .int := Cond.arrayClass_spec h
theorem law_E {p : Program} {s : State} {m : MethodId} {meth : Method} {c : Code} {b L : Nat} {xs : Nat → Int32} (C0 : lw_At p s m meth c b L xs) : ∃ E : zE, zC E p s m #[Value.ref b] meth c cL_law 4 ret RL lw_tbl (fun q => s.heap.size ≤ q) := by
  obtain ⟨hx, hb, hr, hml, hown, hts, hX, hbl, hlocks, hgv⟩ := C0
  have hs := flat_of_before _ hgv
  have hA : ∀ a : Nat, a < s.heap.size → ¬ (fun q : Nat => s.heap.size ≤ q) a := fun a h => Nat.not_le.mpr h
  obtain ⟨c0, i0, k0⟩ := u_known (C := RX0) (T := TX0) (N := 3) (n := 3) hts (fun w h => lw_in _ (wi_0 w h)) (hts _ (lw_in _ wk_90))
  obtain ⟨c1, i1, k1⟩ := u_known (C := RX1) (T := TX1) (N := 6) (n := 6) hts (fun w h => lw_in _ (wi_1 w h)) (hts _ (lw_in _ wk_106))
  obtain ⟨c2, i2, k2⟩ := u_known (C := RX2) (T := TX2) (N := 3) (n := 3) hts (fun w h => lw_in _ (wi_2 w h)) (hts _ (lw_in _ wk_149))
  obtain ⟨c3, i3, k3⟩ := u_known (C := RX3) (T := TX3) (N := 8) (n := 8) hts (fun w h => lw_in _ (wi_3 w h)) (hts _ (lw_in _ wk_112))
  obtain ⟨c4, i4, k4⟩ := u_known (C := RX4) (T := TX4) (N := 3) (n := 3) hts (fun w h => lw_in _ (wi_4 w h)) (hts _ (lw_in _ wk_39))
  obtain ⟨c5, i5, k5⟩ := u_known (C := RX5) (T := TX5) (N := 4) (n := 4) hts (fun w h => lw_in _ (wi_5 w h)) (hts _ (lw_in _ wk_62))
  obtain ⟨c6, i6, k6⟩ := u_known (C := RX6) (T := TX6) (N := 5) (n := 5) hts (fun w h => lw_in _ (wi_6 w h)) (hts _ (lw_in _ wk_25))
  obtain ⟨c7, i7, k7⟩ := u_known (C := RX7) (T := TX7) (N := 21) (n := 21) hts (fun w h => lw_in _ (wi_7 w h)) (hts _ (lw_in _ wk_441))
  obtain ⟨dC, dI, hKc⟩ : ∃ (dC : Nat → ClassId) (dI : Nat → Nat → Nat), ∀ (k : Nat) (q : vw_C), vwCl[k]? = some q → u_Kn s q.1 q.2.1 q.2.2 (dC k) (dI k) := by
    refine ⟨fun k => match k with | 0 => c0 | 1 => c1 | 2 => c2 | 3 => c3 | 4 => c4 | 5 => c5 | 6 => c6 | _ => c7, fun k => match k with | 0 => i0 | 1 => i1 | 2 => i2 | 3 => i3 | 4 => i4 | 5 => i5 | 6 => i6 | _ => i7, ?_⟩
    intro k q hq
    match k, hq with
    | 0, hq => cases hq; exact k0
    | 1, hq => cases hq; exact k1
    | 2, hq => cases hq; exact k2
    | 3, hq => cases hq; exact k3
    | 4, hq => cases hq; exact k4
    | 5, hq => cases hq; exact k5
    | 6, hq => cases hq; exact k6
    | 7, hq => cases hq; exact k7
    | k + 8, hq => simp [vwCl] at hq
  obtain ⟨cI, kI, pI, fI, hkI, hkkI⟩ := arrClsI (hts _ (lw_in _ wk_59))
  obtain ⟨pP, cP, kP, fPc, -, hkP, hkkP, fP⟩ := Cond.arrayOver_spec (hts _ (lwt1 50 rfl))
  obtain ⟨pG, cG, kG, -, hkG, hkkG, fG⟩ := arrOverA (hts _ (lwt2 196 rfl))
  obtain ⟨tN, eN, TN⟩ := va_Tof (tm := .static "GrindField$Checker" "NEEDED" "[I") (ty := .int) (N := 19) (f := fun j => .int (zNeed j)) (A := fun q => s.heap.size ≤ q) (by decide) (hs _ mL_.1.1) (va_eqt (hs _ mL_.1.2)) (fun j hj => va_eqt (hs _ (mN_ j hj))) hA
  have ZN := va_Zof (C := "GrindField$Checker") (n := "NEEDED") (d := "[I") (A := fun q => s.heap.size ≤ q) (hts _ (lwt2 42 rfl)) (hts _ (lw_in _ wk_16)) eN hA
  obtain ⟨tG, eG, TG⟩ := va_Tof (tm := .static "GrindField$Checker" "GROWTH" "[I") (ty := .int) (N := 19) (f := fun j => .int (zGrow j)) (A := fun q => s.heap.size ≤ q) (by decide) (hs _ mL_.2.1.1) (va_eqt (hs _ mL_.2.1.2)) (fun j hj => va_eqt (hs _ (mG_ j hj))) hA
  have ZG := va_Zof (C := "GrindField$Checker") (n := "GROWTH") (d := "[I") (A := fun q => s.heap.size ≤ q) (hts _ (lwt2 44 rfl)) (hts _ (lw_in _ wk_16)) eG hA
  obtain ⟨tA, eA, TA⟩ := va_Tof (tm := .static "GrindFieldModel" "ARGUMENTS" "[I") (ty := .int) (N := 4) (f := fun j => .int (zArgs j)) (A := fun q => s.heap.size ≤ q) (by decide) (hs _ mL_.2.2.1) (va_eqt (hs _ mL_.2.2.2)) (fun j hj => va_eqt (hs _ (mA_ j hj))) hA
  have ZA := va_Zof (C := "GrindFieldModel") (n := "ARGUMENTS") (d := "[I") (A := fun q => s.heap.size ≤ q) (hts _ (lwt3 53 rfl)) (hts _ (lw_in _ wk_20)) eA hA
  have hO : zAOA s := by
    have h := hts _ (lwt2 196 rfl)
    unfold zAOA
    unfold Cond.before Cond.holds at h ⊢
    simp only [Cond.value] at h ⊢
    exact h
  refine ⟨((dC, dI), cI, cP, cG, tN, tG, tA), hx, hb, hr, hml, hown, hts, hlocks, ⟨hKc, ?_⟩, fun q h => h, ⟨⟨va_Nw.of rfl (hts _ wk_91), va_Nw.of rfl (hts _ wk_113), va_Nw.of rfl (hts _ wk_150), va_Nw.of rfl (hts _ wk_274), va_Nw.of rfl (hts _ wk_353), va_Nw.of rfl (hts _ wk_358)⟩, va_AO.of (hts _ (lwt1 50 rfl)), hO⟩, ⟨ZN, TN⟩, ⟨ZG, TG⟩, ⟨ZA, TA⟩⟩
  intro k q hq
  match k, hq with
  | 0, hq => cases hq; exact ⟨fun N z => ⟨(fun q hq => by cases hq), kI, hkI, pI, hkkI⟩, fI⟩
  | 1, hq => cases hq; exact ⟨fun N z => ⟨(fun q hq => by cases hq), kP, hkP, pP, hkkP⟩, kP, pP, hkP, hkkP, fPc, fP⟩
  | 2, hq => cases hq; exact ⟨fun N z => ⟨(fun q hq => by cases hq), kG, hkG, pG, hkkG⟩, fG⟩
  | k + 3, hq => simp [zT] at hq
