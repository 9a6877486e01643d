/-! new int[4][64]: five new cells -/
theorem zr_outer (c : ClassId) (N h0 : Nat) : ∀ i : Nat, Jvm.Free.Multi.outerC c N h0 i = arrV c N (fun j => va_rf (if j < i then some (h0 + 1 + j) else none))
  | 0 => by
    show ({ cls := c, slots := Array.replicate N .null, vm := .none } : Cell) = _
    rw [arrV_new]
    refine congrArg (arrV c N) (funext fun j => ?_)
    simp [va_rf]
  | i + 1 => by
    show (Jvm.Free.Multi.outerC c N h0 i).setSlot i (.ref (h0 + 1 + i)) = _
    rw [zr_outer c N h0 i, arrV_store]
    refine congrArg (arrV c N) (funext fun j => ?_)
    by_cases e : j = i
    · subst e
      simp [updV, va_rf]
    · by_cases h : j < i
      · simp [updV, e, h, Nat.lt_succ_of_lt h]
      · simp [updV, e, h, show ¬ j < i + 1 by omega]
theorem zr_four (c : ClassId) (h0 : Nat) : Jvm.Free.Multi.outerC c 4 h0 4 = vp_cell c (4, .inr (.inr (.inr (.inr (fun j => if j = 0 then some (h0 + 1 + 0) else if j = 1 then some (h0 + 1 + 1) else if j = 2 then some (h0 + 1 + 2) else some (h0 + 1 + 3)))))) := by
  rw [vp_cell_q, zr_outer]
  unfold arrV
  have e : (fun j : Fin 4 => va_rf (if j.val < 4 then some (h0 + 1 + j.val) else none)) = (fun j : Fin 4 => va_rf (if j.val = 0 then some (h0 + 1 + 0) else if j.val = 1 then some (h0 + 1 + 1) else if j.val = 2 then some (h0 + 1 + 2) else some (h0 + 1 + 3))) := by
    refine funext fun j => ?_
    obtain ⟨j, hj⟩ := j
    rcases (show j = 0 ∨ j = 1 ∨ j = 2 ∨ j = 3 by omega) with rfl | rfl | rfl | rfl <;> rfl
  rw [e]
theorem zr_inner (c : ClassId) : Jvm.Free.Multi.innerC c 64 (defaultValue .int) = vp_cell c (64, .inl (fun _ => 0)) := by
  rw [vp_cell_i]
  show ({ cls := c, slots := Array.replicate 64 (.int 0), vm := .none } : Cell) = _
  rw [arrV_new]
theorem zAOA_arg0 {args : Array Value} {s : State} (h : zAOA s) : (Cond.arrayOver (.array .int)).before args s = true := by
  unfold zAOA at h
  unfold Cond.before Cond.holds at h ⊢
  simp only [Cond.value] at h ⊢
  exact h
theorem zr_D {A : Nat → Prop} {ws new : va_W} {h0 : Nat} (hD : va_D A ws) (hlt : ∀ (k : Nat) (x : Nat × va_E), ws[k]? = some x → x.1 < h0) (hr : ∀ (k : Nat) (x : Nat × va_E), new[k]? = some x → x.1 = h0 + k) (hA : ∀ q, h0 ≤ q → A q) : va_D A (ws ++ new) := by
  refine ⟨fun i j x y hi hj hxy => ?_, fun k9 x hx => ?_⟩
  · by_cases h1 : i < ws.length <;> by_cases h2 : j < ws.length
    · rw [List.getElem?_append_left h1] at hi
      rw [List.getElem?_append_left h2] at hj
      exact hD.1 i j x y hi hj hxy
    · rw [List.getElem?_append_left h1] at hi
      rw [List.getElem?_append_right (by omega)] at hj
      have := hlt _ _ hi
      have := hr _ _ hj
      omega
    · rw [List.getElem?_append_right (by omega)] at hi
      rw [List.getElem?_append_left h2] at hj
      have := hlt _ _ hj
      have := hr _ _ hi
      omega
    · rw [List.getElem?_append_right (by omega)] at hi hj
      have := hr _ _ hi
      have := hr _ _ hj
      omega
  · by_cases h1 : k9 < ws.length
    · rw [List.getElem?_append_left h1] at hx
      exact hD.2 k9 x hx
    · rw [List.getElem?_append_right (by omega)] at hx
      have := hr _ _ hx
      exact hA _ (by omega)
section ZMNR
variable {E : zE} {p : Program} {l : Launch} {e : Env} {R : Room} {s : State} {m : MethodId} {args : Array Value} {below : List Frame} {meth : Method} {c : Code} {Q : State → Prop}
variable {cc : ByteArray} {nL : Nat} {ret : Option FieldType} {own : String} {Ts : List Cond} {A : Nat → Prop}
variable {pc : Nat} {L : List (Nat × Value)} {st : List Value} {ws : va_W} {cells slots : Nat}
theorem z_mnaR (q : Nat) (C0 : zC E p s m args meth c cc nL ret own Ts A) (cells1 slots1 : Nat) {i : Nat} (hcl : Cond.classLink own i "[[I" ∈ Ts) (harr : Cond.arrayClass .int ∈ Ts) (hf : cells + 5 ≤ R.cells ∧ slots + 260 ≤ R.slots) (hc1 : cells + 5 = cells1 ∧ slots + 260 = slots1) (hd : decode cc pc = .ok (.multianewarray i 2, 4)) (hq : pc + 4 = q)
    (k : ∀ a r0 r1 r2 r3 : Nat, Z E p l e R s m args below meth c Q A nL q L (.ref a :: st) (ws ++ [(a, zg E 4 (fun j => if j = 0 then some r0 else if j = 1 then some r1 else if j = 2 then some r2 else some r3)), (r0, zi E 64 (fun _ => 0)), (r1, zi E 64 (fun _ => 0)), (r2, zi E 64 (fun _ => 0)), (r3, zi E 64 (fun _ => 0))]) cells1 slots1) : Z E p l e R s m args below meth c Q A nL pc L (.int (nI 64) :: .int (nI 4) :: st) ws cells slots := by
  subst hq
  obtain ⟨rfl, rfl⟩ := hc1
  intro H locs ls hP hD hS hl T hT Xs
  obtain ⟨hexec, hb, -, -, hown, hts, -, hK, hA, hSS⟩ := C0
  have e1 : "[" ++ (FieldType.array FieldType.int).toString = "[[I" := by decide +kernel
  have e4 : (nI 4).toNatClampNeg = 4 := by decide +kernel
  have e64 : (nI 64).toNatClampNeg = 64 := by decide +kernel
  obtain ⟨vm₁, cA, comp, -, fA, fC, -, -, X', step⟩ := Xs.multianewarray2F hexec (own := own) (index := i) (ty := .int) hown (by rw [e1]; exact hts _ hcl) (zAOA_arg0 hSS.1.2.2) (hts _ harr) (g := F0 m pc ls (.int (nI 64) :: .int (nI 4) :: st)) rfl (by rw [hb]; exact hd) rfl (by decide) (by decide) (by decide) (by decide) (by decide) rfl rfl (by rw [e4]; exact hf.1) (by rw [e4, e64]; exact hf.2)
  rw [e4, e64] at X' step
  have g1 : s.vm.findClass ("[" ++ (FieldType.array FieldType.int).toString) = some (zcG E) := (hK.2 2 (zcG E, .array .int) rfl).2
  have g2 : s.vm.findClass ("[" ++ FieldType.int.toString) = some (zcI E) := (hK.2 0 (zcI E, .int) rfl).2
  have eA : cA = zcG E := Option.some.inj (fA.symm.trans g1)
  have eC : comp = zcI E := Option.some.inj (fC.symm.trans g2)
  rw [eA, eC] at X' step
  generalize hF : Jvm.Free.Multi.fill (T.setVm vm₁) (zcG E) (zcI E) 4 64 (defaultValue .int) 4 = F at X' step
  have hTh : (T.setVm vm₁).heap = H := hT
  obtain ⟨f1, f2, -, -⟩ := Jvm.Free.Multi.fill_facts (T.setVm vm₁) (zcG E) (zcI E) 4 64 (defaultValue .int) 4
  rw [hF, hTh] at f1 f2
  rw [zr_four] at f2
  have hold : ∀ x : Nat, x < H.size → F.heap[x]? = H[x]? := fun x hx => by
    have := Jvm.Free.Multi.fill_old (T.setVm vm₁) (zcG E) (zcI E) 4 64 (defaultValue .int) (a := x) (by rw [hTh]; exact hx) 4
    rw [hF, hTh] at this
    exact this
  have hrow : ∀ j : Nat, j < 4 → F.heap[H.size + 1 + j]? = some (vp_cell (zcI E) (64, .inl (fun _ => 0))) := fun j hj => by
    have := Jvm.Free.Multi.fill_inner (T.setVm vm₁) (zcG E) (zcI E) 4 64 (defaultValue .int) 4 j hj
    rw [hF, hTh, zr_inner] at this
    exact this
  have hP1 := (hP.kept (fun k9 x hx => hold x.1 ((hP k9 x hx).lt))).app (w2 := [(H.size, zg E 4 (fun j => if j = 0 then some (H.size + 1 + 0) else if j = 1 then some (H.size + 1 + 1) else if j = 2 then some (H.size + 1 + 2) else some (H.size + 1 + 3))), (H.size + 1 + 0, zi E 64 (fun _ => 0)), (H.size + 1 + 1, zi E 64 (fun _ => 0)), (H.size + 1 + 2, zi E 64 (fun _ => 0)), (H.size + 1 + 3, zi E 64 (fun _ => 0))]) (fun k9 x hx => by
    have h0 : k9 < 5 := (List.getElem?_eq_some_iff.mp hx).1
    rcases (show k9 = 0 ∨ k9 = 1 ∨ k9 = 2 ∨ k9 = 3 ∨ k9 = 4 by omega) with rfl | rfl | rfl | rfl | rfl
    · cases hx
      exact f2
    · cases hx
      exact hrow 0 (by decide)
    · cases hx
      exact hrow 1 (by decide)
    · cases hx
      exact hrow 2 (by decide)
    · cases hx
      exact hrow 3 (by decide))
  have hD1 := zr_D (h0 := H.size) (new := [(H.size, zg E 4 (fun j => if j = 0 then some (H.size + 1 + 0) else if j = 1 then some (H.size + 1 + 1) else if j = 2 then some (H.size + 1 + 2) else some (H.size + 1 + 3))), (H.size + 1 + 0, zi E 64 (fun _ => 0)), (H.size + 1 + 1, zi E 64 (fun _ => 0)), (H.size + 1 + 2, zi E 64 (fun _ => 0)), (H.size + 1 + 3, zi E 64 (fun _ => 0))]) hD (fun k9 x hx => (hP k9 x hx).lt) (fun k9 x hx => by
    have h0 : k9 < 5 := (List.getElem?_eq_some_iff.mp hx).1
    rcases (show k9 = 0 ∨ k9 = 1 ∨ k9 = 2 ∨ k9 = 3 ∨ k9 = 4 by omega) with rfl | rfl | rfl | rfl | rfl
    · cases hx
      rfl
    · cases hx
      rfl
    · cases hx
      rfl
    · cases hx
      rfl
    · cases hx
      rfl) (fun q9 h9 => hA q9 (Nat.le_trans hS.1 h9))
  obtain ⟨t, a1, b1⟩ := k H.size (H.size + 1 + 0) (H.size + 1 + 1) (H.size + 1 + 2) (H.size + 1 + 3) F.heap locs ls hP1 hD1 ⟨by rw [f1]; have := hS.1; omega, fun x h1 h2 => (hold x (Nat.lt_of_lt_of_le h1 hS.1)).trans (hS.2.1 x h1 h2), hS.2.2⟩ hl F rfl X'
  refine ⟨t, step t ?_, b1⟩
  have e9 : T.heap.size = H.size := by rw [hT]
  rw [e9]
  exact a1
end ZMNR
