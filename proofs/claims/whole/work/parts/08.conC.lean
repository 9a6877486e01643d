/-- a row with room for cap, behind whose first n come the pairs P -/
def rwN (cap n : Nat) (P : List (Int32 × Int32)) : Nat := if n + P.length ≤ cap then n + P.length else cap
def rwK (cap n : Nat) (f : Nat → Int32) (P : List (Int32 × Int32)) : Nat → Int32 := fun j => if n ≤ j ∧ j < cap ∧ j - n < P.length then (P.getD (j - n) (0, 0)).1 else f j
def rwV (cap n : Nat) (f : Nat → Int32) (P : List (Int32 × Int32)) : Nat → Int32 := fun j => if n ≤ j ∧ j < cap ∧ j - n < P.length then (P.getD (j - n) (0, 0)).2 else f j
theorem rwN_le {cap n : Nat} {P : List (Int32 × Int32)} (_ : n ≤ cap) : rwN cap n P ≤ cap := by unfold rwN; split <;> omega
theorem rwN_0 {cap n : Nat} (h : n ≤ cap) : rwN cap n [] = n := by unfold rwN; rw [if_pos (by simpa using h)]; rfl
theorem rwK_0 {cap n : Nat} {f : Nat → Int32} : rwK cap n f [] = f := by funext j; unfold rwK; rw [if_neg (fun q => absurd q.2.2 (Nat.not_lt_zero _))]
theorem rwV_0 {cap n : Nat} {f : Nat → Int32} : rwV cap n f [] = f := by funext j; unfold rwV; rw [if_neg (fun q => absurd q.2.2 (Nat.not_lt_zero _))]
theorem rwN_s {cap n : Nat} {P : List (Int32 × Int32)} {x : Int32 × Int32} (h : n ≤ cap) : rwN cap n (P ++ [x]) = capN cap (rwN cap n P) := by
  unfold rwN capN
  rw [List.length_append, List.length_singleton]
  split <;> split <;> split <;> omega
theorem getD_snoc {P : List (Int32 × Int32)} {x d : Int32 × Int32} {i : Nat} (h : i < P.length + 1) : (P ++ [x]).getD i d = if i < P.length then P.getD i d else x := by
  by_cases hi : i < P.length
  · rw [if_pos hi, List.getD_eq_getElem?_getD, List.getD_eq_getElem?_getD, List.getElem?_append_left hi]
  · rw [if_neg hi]
    have : i = P.length := by omega
    subst this
    simp
theorem rwK_s {cap n : Nat} {f : Nat → Int32} {P : List (Int32 × Int32)} {x : Int32 × Int32} (h : n ≤ cap) : rwK cap n f (P ++ [x]) = capU cap (rwN cap n P) (rwK cap n f P) x.1 := by
  funext j
  have hl : (P ++ [x]).length = P.length + 1 := by simp
  by_cases hc : n + P.length < cap
  · have hN : rwN cap n P = n + P.length := by unfold rwN; rw [if_pos (by omega)]
    rw [hN, capU_t hc]
    show rwK cap n f (P ++ [x]) j = if j = n + P.length then x.1 else rwK cap n f P j
    unfold rwK
    rw [hl]
    by_cases hj : j = n + P.length
    · rw [if_pos hj, if_pos ⟨by omega, by omega, by omega⟩, getD_snoc (by omega), if_neg (by omega)]
    · rw [if_neg hj]
      by_cases hin : n ≤ j ∧ j < cap ∧ j - n < P.length
      · rw [if_pos hin, if_pos ⟨hin.1, hin.2.1, by omega⟩, getD_snoc (by omega), if_pos hin.2.2]
      · rw [if_neg hin, if_neg (fun q => hin ⟨q.1, q.2.1, by omega⟩)]
  · have hN : rwN cap n P = cap := by unfold rwN; split <;> omega
    rw [hN, capU_f (Nat.le_refl cap)]
    unfold rwK
    rw [hl]
    by_cases hin : n ≤ j ∧ j < cap ∧ j - n < P.length
    · rw [if_pos hin, if_pos ⟨hin.1, hin.2.1, by omega⟩, getD_snoc (by omega), if_pos hin.2.2]
    · rw [if_neg hin, if_neg (fun q => hin ⟨q.1, q.2.1, by omega⟩)]
theorem rwV_s {cap n : Nat} {f : Nat → Int32} {P : List (Int32 × Int32)} {x : Int32 × Int32} (h : n ≤ cap) : rwV cap n f (P ++ [x]) = capU cap (rwN cap n P) (rwV cap n f P) x.2 := by
  funext j
  have hl : (P ++ [x]).length = P.length + 1 := by simp
  by_cases hc : n + P.length < cap
  · have hN : rwN cap n P = n + P.length := by unfold rwN; rw [if_pos (by omega)]
    rw [hN, capU_t hc]
    show rwV cap n f (P ++ [x]) j = if j = n + P.length then x.2 else rwV cap n f P j
    unfold rwV
    rw [hl]
    by_cases hj : j = n + P.length
    · rw [if_pos hj, if_pos ⟨by omega, by omega, by omega⟩, getD_snoc (by omega), if_neg (by omega)]
    · rw [if_neg hj]
      by_cases hin : n ≤ j ∧ j < cap ∧ j - n < P.length
      · rw [if_pos hin, if_pos ⟨hin.1, hin.2.1, by omega⟩, getD_snoc (by omega), if_pos hin.2.2]
      · rw [if_neg hin, if_neg (fun q => hin ⟨q.1, q.2.1, by omega⟩)]
  · have hN : rwN cap n P = cap := by unfold rwN; split <;> omega
    rw [hN, capU_f (Nat.le_refl cap)]
    unfold rwV
    rw [hl]
    by_cases hin : n ≤ j ∧ j < cap ∧ j - n < P.length
    · rw [if_pos hin, if_pos ⟨hin.1, hin.2.1, by omega⟩, getD_snoc (by omega), if_pos hin.2.2]
    · rw [if_neg hin, if_neg (fun q => hin ⟨q.1, q.2.1, by omega⟩)]
theorem argV_at (a b d : Int32) (ar : Nat → Int32) (j : Nat) (hj : j < 3) : upd (upd (upd ar 0 a) 1 b) 2 d j = argV a b d j := by
  rcases (show j = 0 ∨ j = 1 ∨ j = 2 by omega) with rfl | rfl | rfl <;> simp [upd, argV]
/-- the steps of all calls that have not failed, by kind -/
def stpU (stp : Nat → Nat) (kd : Nat) (R : aT) : Nat → Nat := if R.1 = 0 then stp else va_up stp kd (stp kd + R.2.2.1)
set_option maxHeartbeats 4000000 in
set_option maxRecDepth 100000 in
theorem call (l_ : Launch) (E : zE) (m : Nat) (ma : Nat) (ml : Nat) (ms : Nat) (mp : Nat) (mt : Nat) (h : Nat) (an : Int32) (em : Nat) (ar : Nat → Int32) (lo : Nat → Int32) (st : Nat → Int32) (mpk : Nat) (mpv : Nat) (f : Nat → Int32) (g : Nat → Int32) (n : Nat) (stp : Nat → Nat) (p : Nat) (po : Nat) (pn : Nat) (kd : Nat) (op : Nat → Int32) (nn : Nat → Int32) (len : Nat) (a : Int32) (b : Int32) (d : Int32) (hG : Good kd op nn len) (hkd : kd < 4) (hlen : len ≤ 64) (hn : n ≤ 600) : zMi l_ E yX3_call (zTs yX3_call cX3_call 9 (some .int)) ({ frames := 3, cells := 0, slots := 0, locals := 69 } : Room) [.ref m, .ref p, .int a, .int b, .int d] [(m, zo 3 [.ref ma, .ref ml, .ref ms, .int (nI h), .int an, .ref mp, .int (nI em), .ref mt]), (ma, zi E 3 ar), (ml, zi E 4 lo), (ms, zi E 8 st), (mp, zo 4 [.ref mpk, .ref mpv, .int (nI n)]), (mpk, zi E 600 f), (mpv, zi E 600 g), (mt, zi E 4 (zn stp)), (p, zo 5 [.int (nI kd), .ref po, .ref pn, .int (nI len)]), (po, zi E 64 op), (pn, zi E 64 nn)] (fun r_ w_ => ∃ h2 : Nat, ∃ an2 : Int32, ∃ ar2 : Nat → Int32, ∃ lo2 : Nat → Int32, ∃ st2 : Nat → Int32, (r_ = (nI ((callR op nn a b d).1)) ∧ w_ = [(m, zo 3 [.ref ma, .ref ml, .ref ms, .int (nI h2), .int an2, .ref mp, .int (nI ((callR op nn a b d).2.2.2.length)), .ref mt]), (ma, zi E 3 ar2), (ml, zi E 4 lo2), (ms, zi E 8 st2), (mp, zo 4 [.ref mpk, .ref mpv, .int (nI (rwN 600 n (callR op nn a b d).2.2.2))]), (mpk, zi E 600 (rwK 600 n f (callR op nn a b d).2.2.2)), (mpv, zi E 600 (rwV 600 n g (callR op nn a b d).2.2.2)), (mt, zi E 4 (zn (stpU stp kd (callR op nn a b d)))), (p, zo 5 [.int (nI kd), .ref po, .ref pn, .int (nI len)]), (po, zi E 64 op), (pn, zi E 64 nn)]) ∧ (h2 ≤ 8) ∧ ((callR op nn a b d).1 ≠ 0 → an2 = (callR op nn a b d).2.1)) 0 0 := by
  refine zMi.of (cc := cX3_call) (nL := 9) (ret := (some .int)) (by decide) rfl (Nat.le_of_ble_eq_true rfl) ?_
  intro p_ e_ s_ m_ args_ below_ meth_ c_ A_ C0 hin0
  have C0 : zC E p_ s_ m_ args_ meth_ c_ cX3_call 9 (some .int) RX3 (zTs yX3_call cX3_call 9 (some .int)) A_ := C0
  refine z_eqL (L1 := [(0, .ref m), (1, .ref p), (2, .int a), (3, .int b), (4, .int d)]) rfl ?_
  refine z_aload_n 1 C0 0 dX3_call_0 rfl rfl rfl ?_
  refine z_iload_n 2 C0 2 dX3_call_1 rfl rfl rfl ?_
  refine z_iload_n 3 C0 3 dX3_call_2 rfl rfl rfl ?_
  refine z_iload 5 C0 4 dX3_call_3 rfl rfl ?_
  refine z_callVv 8 C0 [0, 1, 2] [3, 4, 5, 6, 7, 8, 9, 10] [(ms, zi E 8 st), (mp, zo 4 [.ref mpk, .ref mpv, .int (nI n)]), (mpk, zi E 600 f), (mpv, zi E 600 g), (mt, zi E 4 (zn stp)), (p, zo 5 [.int (nI kd), .ref po, .ref pn, .int (nI len)]), (po, zi E 64 op), (pn, zi E 64 nn)] 0 0 (As := [.int a, .int b, .int d]) (T := TX3) (N := 8) (C := RX3) (ci := 3) (n := 3) 0 (begin l_ E m ma ml ms mp mt h an em ar lo a b d ) (zGIV (fun _ => zTs_in) wk_347 wk_344 wk_345 wk_346 wk_18) rfl ⟨rfl, by decide, by decide, by decide +kernel⟩ rfl rfl rfl rfl (by decide) rfl rfl (Nat.le_of_ble_eq_true rfl) ⟨by decide, by decide⟩ rfl rfl ⟨by decide, by decide⟩ ⟨by decide, by decide⟩ dX3_call_5 rfl (fun w5 hB5 => ?_)
  obtain rfl := hB5
  refine z_perm [8, 9, 10, 0, 1, 2, 3, 4, 5, 6, 7] [(m, zo 3 [.ref ma, .ref ml, .ref ms, .int (nI 0), .int an, .ref mp, .int (nI 0), .ref mt]), (ma, zi E 3 (upd (upd (upd ar 0 a) 1 b) 2 d)), (ml, zi E 4 (fun _ => 0)), (ms, zi E 8 st), (mp, zo 4 [.ref mpk, .ref mpv, .int (nI n)]), (mpk, zi E 600 f), (mpv, zi E 600 g), (mt, zi E 4 (zn stp)), (p, zo 5 [.int (nI kd), .ref po, .ref pn, .int (nI len)]), (po, zi E 64 op), (pn, zi E 64 nn)] (by decide) rfl ?_
  generalize har1 : upd (upd (upd ar 0 a) 1 b) 2 d = ar1
  refine z_eq (L1 := [(0, .ref m), (1, .ref p), (2, .int a), (3, .int b), (4, .int d)]) (st1 := []) (w1 := [(m, zo 3 [.ref ma, .ref ml, .ref ms, .int (nI 0), .int an, .ref mp, .int (nI (([] : List (Int32 × Int32)).length)), .ref mt]), (ma, zi E 3 ar1), (ml, zi E 4 (fun _ => 0)), (ms, zi E 8 st), (mp, zo 4 [.ref mpk, .ref mpv, .int (nI (rwN 600 n ([] : List (Int32 × Int32))))]), (mpk, zi E 600 (rwK 600 n f ([] : List (Int32 × Int32)))), (mpv, zi E 600 (rwV 600 n g ([] : List (Int32 × Int32)))), (mt, zi E 4 (zn stp)), (p, zo 5 [.int (nI kd), .ref po, .ref pn, .int (nI len)]), (po, zi E 64 op), (pn, zi E 64 nn)]) rfl rfl (by rw [rwK_0, rwV_0, rwN_0 hn]; rfl) ?_
  refine z_iconst 9 C0 (v := (nI 0)) dX3_call_8 rfl rfl ?_
  refine z_istore 11 C0 [1, 2, 3, 4, 5, 0] [(0, .ref m), (1, .ref p), (2, .int a), (3, .int b), (4, .int d), (5, .int (nI 0))] dX3_call_9 rfl (by decide) rfl ?_
  refine z_iconst 12 C0 (v := (nI 1)) dX3_call_11 rfl rfl ?_
  refine z_istore 14 C0 [1, 2, 3, 4, 5, 6, 0] [(0, .ref m), (1, .ref p), (2, .int a), (3, .int b), (4, .int d), (5, .int (nI 0)), (6, .int (nI 1))] dX3_call_12 rfl (by decide) rfl ?_
  have CUT14 : ∀ (N14 : Nat) (k : Nat) (fu : Nat) (i : Nat) (h : Nat) (lo : Nat → Int32) (st : Nat → Int32) (P : List (Int32 × Int32)), (fu + k = 300) → (Rch kd op nn len i h) → (P.length ≤ 20) → (mRun op nn ar1 fu k i h st lo P = (callR op nn a b d)) → fu + 1 < N14 → Z E p_ l_ e_ ({ frames := 3, cells := 0, slots := 0, locals := 69 } : Room) s_ m_ args_ below_ meth_ c_ (MQ below_ (va_Qi (fun r_ w_ => ∃ h2 : Nat, ∃ an2 : Int32, ∃ ar2 : Nat → Int32, ∃ lo2 : Nat → Int32, ∃ st2 : Nat → Int32, (r_ = (nI ((callR op nn a b d).1)) ∧ w_ = [(m, zo 3 [.ref ma, .ref ml, .ref ms, .int (nI h2), .int an2, .ref mp, .int (nI ((callR op nn a b d).2.2.2.length)), .ref mt]), (ma, zi E 3 ar2), (ml, zi E 4 lo2), (ms, zi E 8 st2), (mp, zo 4 [.ref mpk, .ref mpv, .int (nI (rwN 600 n (callR op nn a b d).2.2.2))]), (mpk, zi E 600 (rwK 600 n f (callR op nn a b d).2.2.2)), (mpv, zi E 600 (rwV 600 n g (callR op nn a b d).2.2.2)), (mt, zi E 4 (zn (stpU stp kd (callR op nn a b d)))), (p, zo 5 [.int (nI kd), .ref po, .ref pn, .int (nI len)]), (po, zi E 64 op), (pn, zi E 64 nn)]) ∧ (h2 ≤ 8) ∧ ((callR op nn a b d).1 ≠ 0 → an2 = (callR op nn a b d).2.1)) (zPost E A_) A_) args_ s_ 0 0 A_) A_ 9 14 [(0, .ref m), (1, .ref p), (5, .int (nI i)), (6, .int (nI (k + 1)))] [] [(m, zo 3 [.ref ma, .ref ml, .ref ms, .int (nI h), .int an, .ref mp, .int (nI (P.length)), .ref mt]), (ma, zi E 3 ar1), (ml, zi E 4 lo), (ms, zi E 8 st), (mp, zo 4 [.ref mpk, .ref mpv, .int (nI (rwN 600 n P))]), (mpk, zi E 600 (rwK 600 n f P)), (mpv, zi E 600 (rwV 600 n g P)), (mt, zi E 4 (zn stp)), (p, zo 5 [.int (nI kd), .ref po, .ref pn, .int (nI len)]), (po, zi E 64 op), (pn, zi E 64 nn)] 0 0 := by
    intro N14
    induction N14 with
    | zero => intro k fu i h lo st P hfu hR hP hM hm14; exact absurd hm14 (Nat.not_lt_zero _)
    | succ N14 ih14 =>
      intro k fu i h lo st P hfu hR hP hM hm14
      refine z_iload 16 C0 3 dX3_call_14 rfl rfl ?_
      refine z_sipush 19 C0 (v := (nI 300)) dX3_call_16 rfl rfl ?_
      refine z_icmp_gtN 22 173 C0 (by omega) (by decide) dX3_call_19 rfl (by decide) (fun k19 => ?_) (fun k19 => ?_)
      · skip
        refine z_iconst 174 C0 (v := (nI 0)) dX3_call_173 rfl rfl ?_
        have hh8 := (hG.at hR).2.1
        have hres : (callR op nn a b d) = (0, 0, 0, P) := by rw [← hM, show fu = 0 by omega]; rfl
        exact z_iret C0 rfl dX3_call_174 ⟨h, an, ar1, lo, st, ⟨(by rw [hres]), (by rw [hres]; rfl)⟩, (by omega), (fun q => absurd (by rw [hres]) q)⟩ (by decide) (by decide)
      · skip
        obtain ⟨fu, rfl⟩ : ∃ z, fu = z + 1 := ⟨fu - 1, by omega⟩
        refine z_aload_n 23 C0 1 dX3_call_22 rfl rfl rfl ?_
        refine z_iload 25 C0 2 dX3_call_23 rfl rfl ?_
        refine z_callVi 28 C0 [8] [0, 1, 2, 3, 4, 5, 6, 7, 9, 10] [(m, zo 3 [.ref ma, .ref ml, .ref ms, .int (nI h), .int an, .ref mp, .int (nI (P.length)), .ref mt]), (ma, zi E 3 ar1), (ml, zi E 4 lo), (ms, zi E 8 st), (mp, zo 4 [.ref mpk, .ref mpv, .int (nI (rwN 600 n P))]), (mpk, zi E 600 (rwK 600 n f P)), (mpv, zi E 600 (rwV 600 n g P)), (mt, zi E 4 (zn stp)), (po, zi E 64 op), (pn, zi E 64 nn)] 0 0 (As := [.int (nI i)]) (T := TX5) (N := 4) (C := RX5) (ci := 5) (n := 1) 0 (has_n l_ E p po pn kd len i (by have := (hG.at hR).1; omega) (by omega)) (zGIV (fun _ => zTs_in) wk_280 wk_348 wk_278 wk_279 wk_15) rfl ⟨rfl, by decide, by decide, by decide +kernel⟩ rfl rfl rfl rfl (by decide) rfl rfl (Nat.le_of_ble_eq_true rfl) ⟨by decide, by decide⟩ rfl rfl ⟨by decide, by decide⟩ ⟨by decide, by decide⟩ dX3_call_25 rfl (fun r25 w25 hB25 => ?_)
        obtain ⟨rfl, rfl⟩ := hB25
        refine z_perm [0, 1, 2, 3, 4, 5, 6, 7, 10, 8, 9] [(m, zo 3 [.ref ma, .ref ml, .ref ms, .int (nI h), .int an, .ref mp, .int (nI (P.length)), .ref mt]), (ma, zi E 3 ar1), (ml, zi E 4 lo), (ms, zi E 8 st), (mp, zo 4 [.ref mpk, .ref mpv, .int (nI (rwN 600 n P))]), (mpk, zi E 600 (rwK 600 n f P)), (mpv, zi E 600 (rwV 600 n g P)), (mt, zi E 4 (zn stp)), (p, zo 5 [.int (nI kd), .ref po, .ref pn, .int (nI len)]), (po, zi E 64 op), (pn, zi E 64 nn)] (by decide) rfl ?_
        refine z_if_eqP 31 173 C0 dX3_call_28 rfl (by decide) (fun k28 => absurd k28 (fun q => q (hG.at hR).1)) (fun k28 => ?_)
        obtain ⟨hi, hh8, o, ho⟩ := hG.at hR
        have hop := ho.1.2.1
        rcases le18 ho.1.1 with rfl | rfl | rfl | rfl | rfl | rfl | rfl | rfl | rfl | rfl | rfl | rfl | rfl | rfl | rfl | rfl | rfl | rfl | rfl
        · skip
          have hnd : 0 ≤ h := by have := ho.2.2.1; simpa [pNeed, nNeed] using this
          have hup : h + 1 - 0 ≤ 8 := ho.2.2.2
          have hcl : (nn i).toNatClampNeg = (nn i).toNatClampNeg := rfl
          refine z_aload_n 32 C0 1 dX3_call_31 rfl rfl rfl ?_
          refine z_get 35 C0 8 1 wz_5 rfl (by decide) (zTs_in wk_71) dX3_call_32 rfl rfl rfl ?_
          refine z_iload 37 C0 2 dX3_call_35 rfl rfl ?_
          refine z_ialdN 38 C0 9 (v := (nI 0)) dX3_call_37 rfl rfl (by omega) (by decide) hop ?_
          refine z_istore 40 C0 [1, 2, 3, 4, 0] [(0, .ref m), (1, .ref p), (5, .int (nI i)), (6, .int (nI (k + 1))), (7, .int (nI 0))] dX3_call_38 rfl (by decide) rfl ?_
          refine z_aload_n 41 C0 1 dX3_call_40 rfl rfl rfl ?_
          refine z_get 44 C0 8 2 wz_5 rfl (by decide) (zTs_in wk_74) dX3_call_41 rfl rfl rfl ?_
          refine z_iload 46 C0 2 dX3_call_44 rfl rfl ?_
          refine z_ialdN 47 C0 10 (v := (nn i)) dX3_call_46 rfl rfl (by omega) (by decide) rfl ?_
          refine z_istore 49 C0 [1, 2, 3, 4, 5, 0] [(0, .ref m), (1, .ref p), (5, .int (nI i)), (6, .int (nI (k + 1))), (7, .int (nI 0)), (8, .int (nn i))] dX3_call_47 rfl (by decide) rfl ?_
          refine z_iload 51 C0 4 dX3_call_49 rfl rfl ?_
          refine z_bipush 53 C0 (v := (nI 17)) dX3_call_51 rfl rfl ?_
          refine z_icmp_eqN 56 63 C0 (by decide) (by decide) dX3_call_53 rfl (by decide) (fun k53 => absurd k53 (by omega)) (fun k53 => ?_)
          refine z_iload 58 C0 4 dX3_call_56 rfl rfl ?_
          refine z_bipush 60 C0 (v := (nI 18)) dX3_call_58 rfl rfl ?_
          refine z_icmp_neN 63 98 C0 (by decide) (by decide) dX3_call_60 rfl (by decide) (fun k60 => ?_) (fun k60 => absurd k60 (by omega))
          refine z_iload 100 C0 4 dX3_call_98 rfl rfl ?_
          refine z_bipush 102 C0 (v := (nI 16)) dX3_call_100 rfl rfl ?_
          refine z_icmp_neN 105 116 C0 (by decide) (by decide) dX3_call_102 rfl (by decide) (fun k102 => ?_) (fun k102 => absurd k102 (by omega))
          refine z_iload 118 C0 4 dX3_call_116 rfl rfl ?_
          refine z_callSNi 121 C0 [] [0, 1, 2, 3, 4, 5, 6, 7, 8, 9, 10] [(m, zo 3 [.ref ma, .ref ml, .ref ms, .int (nI h), .int an, .ref mp, .int (nI (P.length)), .ref mt]), (ma, zi E 3 ar1), (ml, zi E 4 lo), (ms, zi E 8 st), (mp, zo 4 [.ref mpk, .ref mpv, .int (nI (rwN 600 n P))]), (mpk, zi E 600 (rwK 600 n f P)), (mpv, zi E 600 (rwV 600 n g P)), (mt, zi E 4 (zn stp)), (p, zo 5 [.int (nI kd), .ref po, .ref pn, .int (nI len)]), (po, zi E 64 op), (pn, zi E 64 nn)] 0 0 (As := [.int (nI 0)]) (n := 1) (isJump l_ E 0 (by omega)) (zTs_good (fun _ => zTs_in) wk_276) rfl C0.2.2.2.2.2.2.2.2.2.1.1.2.2.2.2.1 (zTs_in wk_12) (zTs_in wk_275) ⟨by decide, by decide, by decide +kernel⟩ rfl rfl (by decide) rfl rfl (Nat.le_of_ble_eq_true rfl) ⟨by decide, by decide⟩ rfl rfl ⟨by decide, by decide⟩ ⟨by decide, by decide⟩ dX3_call_118 rfl (fun r118 w118 hB118 => ?_)
          obtain ⟨rfl, rfl⟩ := hB118
          refine z_perm [0, 1, 2, 3, 4, 5, 6, 7, 8, 9, 10] [(m, zo 3 [.ref ma, .ref ml, .ref ms, .int (nI h), .int an, .ref mp, .int (nI (P.length)), .ref mt]), (ma, zi E 3 ar1), (ml, zi E 4 lo), (ms, zi E 8 st), (mp, zo 4 [.ref mpk, .ref mpv, .int (nI (rwN 600 n P))]), (mpk, zi E 600 (rwK 600 n f P)), (mpv, zi E 600 (rwV 600 n g P)), (mt, zi E 4 (zn stp)), (p, zo 5 [.int (nI kd), .ref po, .ref pn, .int (nI len)]), (po, zi E 64 op), (pn, zi E 64 nn)] (by decide) rfl ?_
          refine z_if_eqP 124 139 C0 dX3_call_121 rfl (by decide) (fun k121 => ?_) (fun k121 => absurd k121 (by omega))
          refine z_iload 141 C0 4 dX3_call_139 rfl rfl ?_
          refine z_callSNi 144 C0 [] [0, 1, 2, 3, 4, 5, 6, 7, 8, 9, 10] [(m, zo 3 [.ref ma, .ref ml, .ref ms, .int (nI h), .int an, .ref mp, .int (nI (P.length)), .ref mt]), (ma, zi E 3 ar1), (ml, zi E 4 lo), (ms, zi E 8 st), (mp, zo 4 [.ref mpk, .ref mpv, .int (nI (rwN 600 n P))]), (mpk, zi E 600 (rwK 600 n f P)), (mpv, zi E 600 (rwV 600 n g P)), (mt, zi E 4 (zn stp)), (p, zo 5 [.int (nI kd), .ref po, .ref pn, .int (nI len)]), (po, zi E 64 op), (pn, zi E 64 nn)] 0 0 (As := [.int (nI 0)]) (n := 1) (isComb l_ E 0 (by omega)) (zTs_good (fun _ => zTs_in) wk_360) rfl C0.2.2.2.2.2.2.2.2.2.1.1.2.2.2.2.2 (zTs_in wk_12) (zTs_in wk_359) ⟨by decide, by decide, by decide +kernel⟩ rfl rfl (by decide) rfl rfl (Nat.le_of_ble_eq_true rfl) ⟨by decide, by decide⟩ rfl rfl ⟨by decide, by decide⟩ ⟨by decide, by decide⟩ dX3_call_141 rfl (fun r141 w141 hB141 => ?_)
          obtain ⟨rfl, rfl⟩ := hB141
          refine z_perm [0, 1, 2, 3, 4, 5, 6, 7, 8, 9, 10] [(m, zo 3 [.ref ma, .ref ml, .ref ms, .int (nI h), .int an, .ref mp, .int (nI (P.length)), .ref mt]), (ma, zi E 3 ar1), (ml, zi E 4 lo), (ms, zi E 8 st), (mp, zo 4 [.ref mpk, .ref mpv, .int (nI (rwN 600 n P))]), (mpk, zi E 600 (rwK 600 n f P)), (mpv, zi E 600 (rwV 600 n g P)), (mt, zi E 4 (zn stp)), (p, zo 5 [.int (nI kd), .ref po, .ref pn, .int (nI len)]), (po, zi E 64 op), (pn, zi E 64 nn)] (by decide) rfl ?_
          refine z_if_eqP 147 156 C0 dX3_call_144 rfl (by decide) (fun k144 => ?_) (fun k144 => absurd k144 (by omega))
          refine z_aload_n 157 C0 0 dX3_call_156 rfl rfl rfl ?_
          refine z_iload 159 C0 4 dX3_call_157 rfl rfl ?_
          refine z_iload 161 C0 5 dX3_call_159 rfl rfl ?_
          refine z_callVv 164 C0 [0, 1, 2, 3, 4, 5, 6] [7, 8, 9, 10] [(mt, zi E 4 (zn stp)), (p, zo 5 [.int (nI kd), .ref po, .ref pn, .int (nI len)]), (po, zi E 64 op), (pn, zi E 64 nn)] 0 0 (As := [.int (nI 0), .int (nn i)]) (T := TX3) (N := 8) (C := RX3) (ci := 3) (n := 2) 0 (move0 l_ E m ma ml ms mp mt h an (P.length) ar1 lo st mpk mpv (rwK 600 n f P) (rwV 600 n g P) (rwN 600 n P) (nn i) (by omega) (by omega)) (zGIV (fun _ => zTs_in) wk_375 wk_372 wk_373 wk_374 wk_18) rfl ⟨rfl, by decide, by decide, by decide +kernel⟩ rfl rfl rfl rfl (by decide) rfl rfl (Nat.le_of_ble_eq_true rfl) ⟨by decide, by decide⟩ rfl rfl ⟨by decide, by decide⟩ ⟨by decide, by decide⟩ dX3_call_161 rfl (fun w161 hB161 => ?_)
          obtain rfl := hB161
          refine z_perm [4, 5, 6, 7, 8, 9, 10, 0, 1, 2, 3] [(m, zo 3 [.ref ma, .ref ml, .ref ms, .int (nI (h + 1)), .int an, .ref mp, .int (nI (P.length)), .ref mt]), (ma, zi E 3 ar1), (ml, zi E 4 lo), (ms, zi E 8 (upd st h (nn i))), (mp, zo 4 [.ref mpk, .ref mpv, .int (nI (rwN 600 n P))]), (mpk, zi E 600 (rwK 600 n f P)), (mpv, zi E 600 (rwV 600 n g P)), (mt, zi E 4 (zn stp)), (p, zo 5 [.int (nI kd), .ref po, .ref pn, .int (nI len)]), (po, zi E 64 op), (pn, zi E 64 nn)] (by decide) rfl ?_
          refine z_iinc 167 C0 2 [1, 2, 0, 3, 4, 5] [(0, .ref m), (1, .ref p), (5, .int (nI (i + 1))), (6, .int (nI (k + 1))), (7, .int (nI 0)), (8, .int (nn i))] (v := (nI (i + 1))) dX3_call_164 rfl rfl (z_incN _ _) (by decide) rfl ?_
          refine z_iinc 170 C0 3 [1, 2, 3, 0, 4, 5] [(0, .ref m), (1, .ref p), (5, .int (nI (i + 1))), (6, .int (nI (k + 2))), (7, .int (nI 0)), (8, .int (nn i))] (v := (nI (k + 2))) dX3_call_167 rfl rfl ((z_incN (k + 1) 1).trans (congrArg nI (by omega))) (by decide) rfl ?_
          refine z_goto 14 C0 dX3_call_170 (by decide) ?_
          refine z_loc [0, 1, 2, 3] [(0, .ref m), (1, .ref p), (5, .int (nI (i + 1))), (6, .int (nI (k + 2)))] rfl ?_
          exact ih14 (k + 1) fu (i + 1) (h + 1) lo (upd st h (nn i)) P (by omega) (hR.next ho ⟨by decide, by decide, by decide⟩) hP ((mRun_step hop (by decide) (by decide) (by decide) (fun q => absurd q.1 (by decide)) hcl).symm.trans hM) (by omega)
        · skip
          have hnd : 0 ≤ h := by have := ho.2.2.1; simpa [pNeed, nNeed] using this
          have hup : h + 1 - 0 ≤ 8 := ho.2.2.2
          obtain ⟨j, hj, hnn⟩ := ho.1.2.2.2.2.1 rfl
          have hj3 : j < 3 := by have := nArg_le kd; omega
          have hcl : (nn i).toNatClampNeg = j := by rw [hnn]; exact nI_clamp (by omega)
          refine z_aload_n 32 C0 1 dX3_call_31 rfl rfl rfl ?_
          refine z_get 35 C0 8 1 wz_5 rfl (by decide) (zTs_in wk_71) dX3_call_32 rfl rfl rfl ?_
          refine z_iload 37 C0 2 dX3_call_35 rfl rfl ?_
          refine z_ialdN 38 C0 9 (v := (nI 1)) dX3_call_37 rfl rfl (by omega) (by decide) hop ?_
          refine z_istore 40 C0 [1, 2, 3, 4, 0] [(0, .ref m), (1, .ref p), (5, .int (nI i)), (6, .int (nI (k + 1))), (7, .int (nI 1))] dX3_call_38 rfl (by decide) rfl ?_
          refine z_aload_n 41 C0 1 dX3_call_40 rfl rfl rfl ?_
          refine z_get 44 C0 8 2 wz_5 rfl (by decide) (zTs_in wk_74) dX3_call_41 rfl rfl rfl ?_
          refine z_iload 46 C0 2 dX3_call_44 rfl rfl ?_
          refine z_ialdN 47 C0 10 (v := (nI j)) dX3_call_46 rfl rfl (by omega) (by decide) hnn ?_
          refine z_istore 49 C0 [1, 2, 3, 4, 5, 0] [(0, .ref m), (1, .ref p), (5, .int (nI i)), (6, .int (nI (k + 1))), (7, .int (nI 1)), (8, .int (nI j))] dX3_call_47 rfl (by decide) rfl ?_
          refine z_iload 51 C0 4 dX3_call_49 rfl rfl ?_
          refine z_bipush 53 C0 (v := (nI 17)) dX3_call_51 rfl rfl ?_
          refine z_icmp_eqN 56 63 C0 (by decide) (by decide) dX3_call_53 rfl (by decide) (fun k53 => absurd k53 (by omega)) (fun k53 => ?_)
          refine z_iload 58 C0 4 dX3_call_56 rfl rfl ?_
          refine z_bipush 60 C0 (v := (nI 18)) dX3_call_58 rfl rfl ?_
          refine z_icmp_neN 63 98 C0 (by decide) (by decide) dX3_call_60 rfl (by decide) (fun k60 => ?_) (fun k60 => absurd k60 (by omega))
          refine z_iload 100 C0 4 dX3_call_98 rfl rfl ?_
          refine z_bipush 102 C0 (v := (nI 16)) dX3_call_100 rfl rfl ?_
          refine z_icmp_neN 105 116 C0 (by decide) (by decide) dX3_call_102 rfl (by decide) (fun k102 => ?_) (fun k102 => absurd k102 (by omega))
          refine z_iload 118 C0 4 dX3_call_116 rfl rfl ?_
          refine z_callSNi 121 C0 [] [0, 1, 2, 3, 4, 5, 6, 7, 8, 9, 10] [(m, zo 3 [.ref ma, .ref ml, .ref ms, .int (nI h), .int an, .ref mp, .int (nI (P.length)), .ref mt]), (ma, zi E 3 ar1), (ml, zi E 4 lo), (ms, zi E 8 st), (mp, zo 4 [.ref mpk, .ref mpv, .int (nI (rwN 600 n P))]), (mpk, zi E 600 (rwK 600 n f P)), (mpv, zi E 600 (rwV 600 n g P)), (mt, zi E 4 (zn stp)), (p, zo 5 [.int (nI kd), .ref po, .ref pn, .int (nI len)]), (po, zi E 64 op), (pn, zi E 64 nn)] 0 0 (As := [.int (nI 1)]) (n := 1) (isJump l_ E 1 (by omega)) (zTs_good (fun _ => zTs_in) wk_276) rfl C0.2.2.2.2.2.2.2.2.2.1.1.2.2.2.2.1 (zTs_in wk_12) (zTs_in wk_275) ⟨by decide, by decide, by decide +kernel⟩ rfl rfl (by decide) rfl rfl (Nat.le_of_ble_eq_true rfl) ⟨by decide, by decide⟩ rfl rfl ⟨by decide, by decide⟩ ⟨by decide, by decide⟩ dX3_call_118 rfl (fun r118 w118 hB118 => ?_)
          obtain ⟨rfl, rfl⟩ := hB118
          refine z_perm [0, 1, 2, 3, 4, 5, 6, 7, 8, 9, 10] [(m, zo 3 [.ref ma, .ref ml, .ref ms, .int (nI h), .int an, .ref mp, .int (nI (P.length)), .ref mt]), (ma, zi E 3 ar1), (ml, zi E 4 lo), (ms, zi E 8 st), (mp, zo 4 [.ref mpk, .ref mpv, .int (nI (rwN 600 n P))]), (mpk, zi E 600 (rwK 600 n f P)), (mpv, zi E 600 (rwV 600 n g P)), (mt, zi E 4 (zn stp)), (p, zo 5 [.int (nI kd), .ref po, .ref pn, .int (nI len)]), (po, zi E 64 op), (pn, zi E 64 nn)] (by decide) rfl ?_
          refine z_if_eqP 124 139 C0 dX3_call_121 rfl (by decide) (fun k121 => ?_) (fun k121 => absurd k121 (by omega))
          refine z_iload 141 C0 4 dX3_call_139 rfl rfl ?_
          refine z_callSNi 144 C0 [] [0, 1, 2, 3, 4, 5, 6, 7, 8, 9, 10] [(m, zo 3 [.ref ma, .ref ml, .ref ms, .int (nI h), .int an, .ref mp, .int (nI (P.length)), .ref mt]), (ma, zi E 3 ar1), (ml, zi E 4 lo), (ms, zi E 8 st), (mp, zo 4 [.ref mpk, .ref mpv, .int (nI (rwN 600 n P))]), (mpk, zi E 600 (rwK 600 n f P)), (mpv, zi E 600 (rwV 600 n g P)), (mt, zi E 4 (zn stp)), (p, zo 5 [.int (nI kd), .ref po, .ref pn, .int (nI len)]), (po, zi E 64 op), (pn, zi E 64 nn)] 0 0 (As := [.int (nI 1)]) (n := 1) (isComb l_ E 1 (by omega)) (zTs_good (fun _ => zTs_in) wk_360) rfl C0.2.2.2.2.2.2.2.2.2.1.1.2.2.2.2.2 (zTs_in wk_12) (zTs_in wk_359) ⟨by decide, by decide, by decide +kernel⟩ rfl rfl (by decide) rfl rfl (Nat.le_of_ble_eq_true rfl) ⟨by decide, by decide⟩ rfl rfl ⟨by decide, by decide⟩ ⟨by decide, by decide⟩ dX3_call_141 rfl (fun r141 w141 hB141 => ?_)
          obtain ⟨rfl, rfl⟩ := hB141
          refine z_perm [0, 1, 2, 3, 4, 5, 6, 7, 8, 9, 10] [(m, zo 3 [.ref ma, .ref ml, .ref ms, .int (nI h), .int an, .ref mp, .int (nI (P.length)), .ref mt]), (ma, zi E 3 ar1), (ml, zi E 4 lo), (ms, zi E 8 st), (mp, zo 4 [.ref mpk, .ref mpv, .int (nI (rwN 600 n P))]), (mpk, zi E 600 (rwK 600 n f P)), (mpv, zi E 600 (rwV 600 n g P)), (mt, zi E 4 (zn stp)), (p, zo 5 [.int (nI kd), .ref po, .ref pn, .int (nI len)]), (po, zi E 64 op), (pn, zi E 64 nn)] (by decide) rfl ?_
          refine z_if_eqP 147 156 C0 dX3_call_144 rfl (by decide) (fun k144 => ?_) (fun k144 => absurd k144 (by omega))
          refine z_aload_n 157 C0 0 dX3_call_156 rfl rfl rfl ?_
          refine z_iload 159 C0 4 dX3_call_157 rfl rfl ?_
          refine z_iload 161 C0 5 dX3_call_159 rfl rfl ?_
          refine z_callVv 164 C0 [0, 1, 2, 3, 4, 5, 6] [7, 8, 9, 10] [(mt, zi E 4 (zn stp)), (p, zo 5 [.int (nI kd), .ref po, .ref pn, .int (nI len)]), (po, zi E 64 op), (pn, zi E 64 nn)] 0 0 (As := [.int (nI 1), .int (nI j)]) (T := TX3) (N := 8) (C := RX3) (ci := 3) (n := 2) 0 (move1 l_ E m ma ml ms mp mt h an (P.length) ar1 lo st mpk mpv (rwK 600 n f P) (rwV 600 n g P) (rwN 600 n P) j (by omega) (by omega) (by omega)) (zGIV (fun _ => zTs_in) wk_375 wk_372 wk_373 wk_374 wk_18) rfl ⟨rfl, by decide, by decide, by decide +kernel⟩ rfl rfl rfl rfl (by decide) rfl rfl (Nat.le_of_ble_eq_true rfl) ⟨by decide, by decide⟩ rfl rfl ⟨by decide, by decide⟩ ⟨by decide, by decide⟩ dX3_call_161 rfl (fun w161 hB161 => ?_)
          obtain rfl := hB161
          refine z_perm [4, 5, 6, 7, 8, 9, 10, 0, 1, 2, 3] [(m, zo 3 [.ref ma, .ref ml, .ref ms, .int (nI (h + 1)), .int an, .ref mp, .int (nI (P.length)), .ref mt]), (ma, zi E 3 ar1), (ml, zi E 4 lo), (ms, zi E 8 (upd st h (ar1 j))), (mp, zo 4 [.ref mpk, .ref mpv, .int (nI (rwN 600 n P))]), (mpk, zi E 600 (rwK 600 n f P)), (mpv, zi E 600 (rwV 600 n g P)), (mt, zi E 4 (zn stp)), (p, zo 5 [.int (nI kd), .ref po, .ref pn, .int (nI len)]), (po, zi E 64 op), (pn, zi E 64 nn)] (by decide) rfl ?_
          refine z_iinc 167 C0 2 [1, 2, 0, 3, 4, 5] [(0, .ref m), (1, .ref p), (5, .int (nI (i + 1))), (6, .int (nI (k + 1))), (7, .int (nI 1)), (8, .int (nI j))] (v := (nI (i + 1))) dX3_call_164 rfl rfl (z_incN _ _) (by decide) rfl ?_
          refine z_iinc 170 C0 3 [1, 2, 3, 0, 4, 5] [(0, .ref m), (1, .ref p), (5, .int (nI (i + 1))), (6, .int (nI (k + 2))), (7, .int (nI 1)), (8, .int (nI j))] (v := (nI (k + 2))) dX3_call_167 rfl rfl ((z_incN (k + 1) 1).trans (congrArg nI (by omega))) (by decide) rfl ?_
          refine z_goto 14 C0 dX3_call_170 (by decide) ?_
          refine z_loc [0, 1, 2, 3] [(0, .ref m), (1, .ref p), (5, .int (nI (i + 1))), (6, .int (nI (k + 2)))] rfl ?_
          exact ih14 (k + 1) fu (i + 1) (h + 1) lo (upd st h (ar1 j)) P (by omega) (hR.next ho ⟨by decide, by decide, by decide⟩) hP ((mRun_step hop (by decide) (by decide) (by decide) (fun q => absurd q.1 (by decide)) hcl).symm.trans hM) (by omega)
        · skip
          have hnd : 0 ≤ h := by have := ho.2.2.1; simpa [pNeed, nNeed] using this
          have hup : h + 1 - 0 ≤ 8 := ho.2.2.2
          obtain ⟨j, hj, hnn⟩ := ho.1.2.2.2.2.2.1 (by omega)
          have hcl : (nn i).toNatClampNeg = j := by rw [hnn]; exact nI_clamp (by omega)
          refine z_aload_n 32 C0 1 dX3_call_31 rfl rfl rfl ?_
          refine z_get 35 C0 8 1 wz_5 rfl (by decide) (zTs_in wk_71) dX3_call_32 rfl rfl rfl ?_
          refine z_iload 37 C0 2 dX3_call_35 rfl rfl ?_
          refine z_ialdN 38 C0 9 (v := (nI 2)) dX3_call_37 rfl rfl (by omega) (by decide) hop ?_
          refine z_istore 40 C0 [1, 2, 3, 4, 0] [(0, .ref m), (1, .ref p), (5, .int (nI i)), (6, .int (nI (k + 1))), (7, .int (nI 2))] dX3_call_38 rfl (by decide) rfl ?_
          refine z_aload_n 41 C0 1 dX3_call_40 rfl rfl rfl ?_
          refine z_get 44 C0 8 2 wz_5 rfl (by decide) (zTs_in wk_74) dX3_call_41 rfl rfl rfl ?_
          refine z_iload 46 C0 2 dX3_call_44 rfl rfl ?_
          refine z_ialdN 47 C0 10 (v := (nI j)) dX3_call_46 rfl rfl (by omega) (by decide) hnn ?_
          refine z_istore 49 C0 [1, 2, 3, 4, 5, 0] [(0, .ref m), (1, .ref p), (5, .int (nI i)), (6, .int (nI (k + 1))), (7, .int (nI 2)), (8, .int (nI j))] dX3_call_47 rfl (by decide) rfl ?_
          refine z_iload 51 C0 4 dX3_call_49 rfl rfl ?_
          refine z_bipush 53 C0 (v := (nI 17)) dX3_call_51 rfl rfl ?_
          refine z_icmp_eqN 56 63 C0 (by decide) (by decide) dX3_call_53 rfl (by decide) (fun k53 => absurd k53 (by omega)) (fun k53 => ?_)
          refine z_iload 58 C0 4 dX3_call_56 rfl rfl ?_
          refine z_bipush 60 C0 (v := (nI 18)) dX3_call_58 rfl rfl ?_
          refine z_icmp_neN 63 98 C0 (by decide) (by decide) dX3_call_60 rfl (by decide) (fun k60 => ?_) (fun k60 => absurd k60 (by omega))
          refine z_iload 100 C0 4 dX3_call_98 rfl rfl ?_
          refine z_bipush 102 C0 (v := (nI 16)) dX3_call_100 rfl rfl ?_
          refine z_icmp_neN 105 116 C0 (by decide) (by decide) dX3_call_102 rfl (by decide) (fun k102 => ?_) (fun k102 => absurd k102 (by omega))
          refine z_iload 118 C0 4 dX3_call_116 rfl rfl ?_
          refine z_callSNi 121 C0 [] [0, 1, 2, 3, 4, 5, 6, 7, 8, 9, 10] [(m, zo 3 [.ref ma, .ref ml, .ref ms, .int (nI h), .int an, .ref mp, .int (nI (P.length)), .ref mt]), (ma, zi E 3 ar1), (ml, zi E 4 lo), (ms, zi E 8 st), (mp, zo 4 [.ref mpk, .ref mpv, .int (nI (rwN 600 n P))]), (mpk, zi E 600 (rwK 600 n f P)), (mpv, zi E 600 (rwV 600 n g P)), (mt, zi E 4 (zn stp)), (p, zo 5 [.int (nI kd), .ref po, .ref pn, .int (nI len)]), (po, zi E 64 op), (pn, zi E 64 nn)] 0 0 (As := [.int (nI 2)]) (n := 1) (isJump l_ E 2 (by omega)) (zTs_good (fun _ => zTs_in) wk_276) rfl C0.2.2.2.2.2.2.2.2.2.1.1.2.2.2.2.1 (zTs_in wk_12) (zTs_in wk_275) ⟨by decide, by decide, by decide +kernel⟩ rfl rfl (by decide) rfl rfl (Nat.le_of_ble_eq_true rfl) ⟨by decide, by decide⟩ rfl rfl ⟨by decide, by decide⟩ ⟨by decide, by decide⟩ dX3_call_118 rfl (fun r118 w118 hB118 => ?_)
          obtain ⟨rfl, rfl⟩ := hB118
          refine z_perm [0, 1, 2, 3, 4, 5, 6, 7, 8, 9, 10] [(m, zo 3 [.ref ma, .ref ml, .ref ms, .int (nI h), .int an, .ref mp, .int (nI (P.length)), .ref mt]), (ma, zi E 3 ar1), (ml, zi E 4 lo), (ms, zi E 8 st), (mp, zo 4 [.ref mpk, .ref mpv, .int (nI (rwN 600 n P))]), (mpk, zi E 600 (rwK 600 n f P)), (mpv, zi E 600 (rwV 600 n g P)), (mt, zi E 4 (zn stp)), (p, zo 5 [.int (nI kd), .ref po, .ref pn, .int (nI len)]), (po, zi E 64 op), (pn, zi E 64 nn)] (by decide) rfl ?_
          refine z_if_eqP 124 139 C0 dX3_call_121 rfl (by decide) (fun k121 => ?_) (fun k121 => absurd k121 (by omega))
          refine z_iload 141 C0 4 dX3_call_139 rfl rfl ?_
          refine z_callSNi 144 C0 [] [0, 1, 2, 3, 4, 5, 6, 7, 8, 9, 10] [(m, zo 3 [.ref ma, .ref ml, .ref ms, .int (nI h), .int an, .ref mp, .int (nI (P.length)), .ref mt]), (ma, zi E 3 ar1), (ml, zi E 4 lo), (ms, zi E 8 st), (mp, zo 4 [.ref mpk, .ref mpv, .int (nI (rwN 600 n P))]), (mpk, zi E 600 (rwK 600 n f P)), (mpv, zi E 600 (rwV 600 n g P)), (mt, zi E 4 (zn stp)), (p, zo 5 [.int (nI kd), .ref po, .ref pn, .int (nI len)]), (po, zi E 64 op), (pn, zi E 64 nn)] 0 0 (As := [.int (nI 2)]) (n := 1) (isComb l_ E 2 (by omega)) (zTs_good (fun _ => zTs_in) wk_360) rfl C0.2.2.2.2.2.2.2.2.2.1.1.2.2.2.2.2 (zTs_in wk_12) (zTs_in wk_359) ⟨by decide, by decide, by decide +kernel⟩ rfl rfl (by decide) rfl rfl (Nat.le_of_ble_eq_true rfl) ⟨by decide, by decide⟩ rfl rfl ⟨by decide, by decide⟩ ⟨by decide, by decide⟩ dX3_call_141 rfl (fun r141 w141 hB141 => ?_)
          obtain ⟨rfl, rfl⟩ := hB141
          refine z_perm [0, 1, 2, 3, 4, 5, 6, 7, 8, 9, 10] [(m, zo 3 [.ref ma, .ref ml, .ref ms, .int (nI h), .int an, .ref mp, .int (nI (P.length)), .ref mt]), (ma, zi E 3 ar1), (ml, zi E 4 lo), (ms, zi E 8 st), (mp, zo 4 [.ref mpk, .ref mpv, .int (nI (rwN 600 n P))]), (mpk, zi E 600 (rwK 600 n f P)), (mpv, zi E 600 (rwV 600 n g P)), (mt, zi E 4 (zn stp)), (p, zo 5 [.int (nI kd), .ref po, .ref pn, .int (nI len)]), (po, zi E 64 op), (pn, zi E 64 nn)] (by decide) rfl ?_
          refine z_if_eqP 147 156 C0 dX3_call_144 rfl (by decide) (fun k144 => ?_) (fun k144 => absurd k144 (by omega))
          refine z_aload_n 157 C0 0 dX3_call_156 rfl rfl rfl ?_
          refine z_iload 159 C0 4 dX3_call_157 rfl rfl ?_
          refine z_iload 161 C0 5 dX3_call_159 rfl rfl ?_
          refine z_callVv 164 C0 [0, 1, 2, 3, 4, 5, 6] [7, 8, 9, 10] [(mt, zi E 4 (zn stp)), (p, zo 5 [.int (nI kd), .ref po, .ref pn, .int (nI len)]), (po, zi E 64 op), (pn, zi E 64 nn)] 0 0 (As := [.int (nI 2), .int (nI j)]) (T := TX3) (N := 8) (C := RX3) (ci := 3) (n := 2) 0 (move2 l_ E m ma ml ms mp mt h an (P.length) ar1 lo st mpk mpv (rwK 600 n f P) (rwV 600 n g P) (rwN 600 n P) j (by omega) (by omega) (by omega)) (zGIV (fun _ => zTs_in) wk_375 wk_372 wk_373 wk_374 wk_18) rfl ⟨rfl, by decide, by decide, by decide +kernel⟩ rfl rfl rfl rfl (by decide) rfl rfl (Nat.le_of_ble_eq_true rfl) ⟨by decide, by decide⟩ rfl rfl ⟨by decide, by decide⟩ ⟨by decide, by decide⟩ dX3_call_161 rfl (fun w161 hB161 => ?_)
          obtain rfl := hB161
          refine z_perm [4, 5, 6, 7, 8, 9, 10, 0, 1, 2, 3] [(m, zo 3 [.ref ma, .ref ml, .ref ms, .int (nI (h + 1)), .int an, .ref mp, .int (nI (P.length)), .ref mt]), (ma, zi E 3 ar1), (ml, zi E 4 lo), (ms, zi E 8 (upd st h (lo j))), (mp, zo 4 [.ref mpk, .ref mpv, .int (nI (rwN 600 n P))]), (mpk, zi E 600 (rwK 600 n f P)), (mpv, zi E 600 (rwV 600 n g P)), (mt, zi E 4 (zn stp)), (p, zo 5 [.int (nI kd), .ref po, .ref pn, .int (nI len)]), (po, zi E 64 op), (pn, zi E 64 nn)] (by decide) rfl ?_
          refine z_iinc 167 C0 2 [1, 2, 0, 3, 4, 5] [(0, .ref m), (1, .ref p), (5, .int (nI (i + 1))), (6, .int (nI (k + 1))), (7, .int (nI 2)), (8, .int (nI j))] (v := (nI (i + 1))) dX3_call_164 rfl rfl (z_incN _ _) (by decide) rfl ?_
          refine z_iinc 170 C0 3 [1, 2, 3, 0, 4, 5] [(0, .ref m), (1, .ref p), (5, .int (nI (i + 1))), (6, .int (nI (k + 2))), (7, .int (nI 2)), (8, .int (nI j))] (v := (nI (k + 2))) dX3_call_167 rfl rfl ((z_incN (k + 1) 1).trans (congrArg nI (by omega))) (by decide) rfl ?_
          refine z_goto 14 C0 dX3_call_170 (by decide) ?_
          refine z_loc [0, 1, 2, 3] [(0, .ref m), (1, .ref p), (5, .int (nI (i + 1))), (6, .int (nI (k + 2)))] rfl ?_
          exact ih14 (k + 1) fu (i + 1) (h + 1) lo (upd st h (lo j)) P (by omega) (hR.next ho ⟨by decide, by decide, by decide⟩) hP ((mRun_step hop (by decide) (by decide) (by decide) (fun q => absurd q.1 (by decide)) hcl).symm.trans hM) (by omega)
        · skip
          have hnd : 1 ≤ h := by have := ho.2.2.1; simpa [pNeed, nNeed] using this
          have hup : h + 0 - 1 ≤ 8 := ho.2.2.2
          obtain ⟨j, hj, hnn⟩ := ho.1.2.2.2.2.2.1 (by omega)
          have hcl : (nn i).toNatClampNeg = j := by rw [hnn]; exact nI_clamp (by omega)
          refine z_aload_n 32 C0 1 dX3_call_31 rfl rfl rfl ?_
          refine z_get 35 C0 8 1 wz_5 rfl (by decide) (zTs_in wk_71) dX3_call_32 rfl rfl rfl ?_
          refine z_iload 37 C0 2 dX3_call_35 rfl rfl ?_
          refine z_ialdN 38 C0 9 (v := (nI 3)) dX3_call_37 rfl rfl (by omega) (by decide) hop ?_
          refine z_istore 40 C0 [1, 2, 3, 4, 0] [(0, .ref m), (1, .ref p), (5, .int (nI i)), (6, .int (nI (k + 1))), (7, .int (nI 3))] dX3_call_38 rfl (by decide) rfl ?_
          refine z_aload_n 41 C0 1 dX3_call_40 rfl rfl rfl ?_
          refine z_get 44 C0 8 2 wz_5 rfl (by decide) (zTs_in wk_74) dX3_call_41 rfl rfl rfl ?_
          refine z_iload 46 C0 2 dX3_call_44 rfl rfl ?_
          refine z_ialdN 47 C0 10 (v := (nI j)) dX3_call_46 rfl rfl (by omega) (by decide) hnn ?_
          refine z_istore 49 C0 [1, 2, 3, 4, 5, 0] [(0, .ref m), (1, .ref p), (5, .int (nI i)), (6, .int (nI (k + 1))), (7, .int (nI 3)), (8, .int (nI j))] dX3_call_47 rfl (by decide) rfl ?_
          refine z_iload 51 C0 4 dX3_call_49 rfl rfl ?_
          refine z_bipush 53 C0 (v := (nI 17)) dX3_call_51 rfl rfl ?_
          refine z_icmp_eqN 56 63 C0 (by decide) (by decide) dX3_call_53 rfl (by decide) (fun k53 => absurd k53 (by omega)) (fun k53 => ?_)
          refine z_iload 58 C0 4 dX3_call_56 rfl rfl ?_
          refine z_bipush 60 C0 (v := (nI 18)) dX3_call_58 rfl rfl ?_
          refine z_icmp_neN 63 98 C0 (by decide) (by decide) dX3_call_60 rfl (by decide) (fun k60 => ?_) (fun k60 => absurd k60 (by omega))
          refine z_iload 100 C0 4 dX3_call_98 rfl rfl ?_
          refine z_bipush 102 C0 (v := (nI 16)) dX3_call_100 rfl rfl ?_
          refine z_icmp_neN 105 116 C0 (by decide) (by decide) dX3_call_102 rfl (by decide) (fun k102 => ?_) (fun k102 => absurd k102 (by omega))
          refine z_iload 118 C0 4 dX3_call_116 rfl rfl ?_
          refine z_callSNi 121 C0 [] [0, 1, 2, 3, 4, 5, 6, 7, 8, 9, 10] [(m, zo 3 [.ref ma, .ref ml, .ref ms, .int (nI h), .int an, .ref mp, .int (nI (P.length)), .ref mt]), (ma, zi E 3 ar1), (ml, zi E 4 lo), (ms, zi E 8 st), (mp, zo 4 [.ref mpk, .ref mpv, .int (nI (rwN 600 n P))]), (mpk, zi E 600 (rwK 600 n f P)), (mpv, zi E 600 (rwV 600 n g P)), (mt, zi E 4 (zn stp)), (p, zo 5 [.int (nI kd), .ref po, .ref pn, .int (nI len)]), (po, zi E 64 op), (pn, zi E 64 nn)] 0 0 (As := [.int (nI 3)]) (n := 1) (isJump l_ E 3 (by omega)) (zTs_good (fun _ => zTs_in) wk_276) rfl C0.2.2.2.2.2.2.2.2.2.1.1.2.2.2.2.1 (zTs_in wk_12) (zTs_in wk_275) ⟨by decide, by decide, by decide +kernel⟩ rfl rfl (by decide) rfl rfl (Nat.le_of_ble_eq_true rfl) ⟨by decide, by decide⟩ rfl rfl ⟨by decide, by decide⟩ ⟨by decide, by decide⟩ dX3_call_118 rfl (fun r118 w118 hB118 => ?_)
          obtain ⟨rfl, rfl⟩ := hB118
          refine z_perm [0, 1, 2, 3, 4, 5, 6, 7, 8, 9, 10] [(m, zo 3 [.ref ma, .ref ml, .ref ms, .int (nI h), .int an, .ref mp, .int (nI (P.length)), .ref mt]), (ma, zi E 3 ar1), (ml, zi E 4 lo), (ms, zi E 8 st), (mp, zo 4 [.ref mpk, .ref mpv, .int (nI (rwN 600 n P))]), (mpk, zi E 600 (rwK 600 n f P)), (mpv, zi E 600 (rwV 600 n g P)), (mt, zi E 4 (zn stp)), (p, zo 5 [.int (nI kd), .ref po, .ref pn, .int (nI len)]), (po, zi E 64 op), (pn, zi E 64 nn)] (by decide) rfl ?_
          refine z_if_eqP 124 139 C0 dX3_call_121 rfl (by decide) (fun k121 => ?_) (fun k121 => absurd k121 (by omega))
          refine z_iload 141 C0 4 dX3_call_139 rfl rfl ?_
          refine z_callSNi 144 C0 [] [0, 1, 2, 3, 4, 5, 6, 7, 8, 9, 10] [(m, zo 3 [.ref ma, .ref ml, .ref ms, .int (nI h), .int an, .ref mp, .int (nI (P.length)), .ref mt]), (ma, zi E 3 ar1), (ml, zi E 4 lo), (ms, zi E 8 st), (mp, zo 4 [.ref mpk, .ref mpv, .int (nI (rwN 600 n P))]), (mpk, zi E 600 (rwK 600 n f P)), (mpv, zi E 600 (rwV 600 n g P)), (mt, zi E 4 (zn stp)), (p, zo 5 [.int (nI kd), .ref po, .ref pn, .int (nI len)]), (po, zi E 64 op), (pn, zi E 64 nn)] 0 0 (As := [.int (nI 3)]) (n := 1) (isComb l_ E 3 (by omega)) (zTs_good (fun _ => zTs_in) wk_360) rfl C0.2.2.2.2.2.2.2.2.2.1.1.2.2.2.2.2 (zTs_in wk_12) (zTs_in wk_359) ⟨by decide, by decide, by decide +kernel⟩ rfl rfl (by decide) rfl rfl (Nat.le_of_ble_eq_true rfl) ⟨by decide, by decide⟩ rfl rfl ⟨by decide, by decide⟩ ⟨by decide, by decide⟩ dX3_call_141 rfl (fun r141 w141 hB141 => ?_)
          obtain ⟨rfl, rfl⟩ := hB141
          refine z_perm [0, 1, 2, 3, 4, 5, 6, 7, 8, 9, 10] [(m, zo 3 [.ref ma, .ref ml, .ref ms, .int (nI h), .int an, .ref mp, .int (nI (P.length)), .ref mt]), (ma, zi E 3 ar1), (ml, zi E 4 lo), (ms, zi E 8 st), (mp, zo 4 [.ref mpk, .ref mpv, .int (nI (rwN 600 n P))]), (mpk, zi E 600 (rwK 600 n f P)), (mpv, zi E 600 (rwV 600 n g P)), (mt, zi E 4 (zn stp)), (p, zo 5 [.int (nI kd), .ref po, .ref pn, .int (nI len)]), (po, zi E 64 op), (pn, zi E 64 nn)] (by decide) rfl ?_
          refine z_if_eqP 147 156 C0 dX3_call_144 rfl (by decide) (fun k144 => ?_) (fun k144 => absurd k144 (by omega))
          refine z_aload_n 157 C0 0 dX3_call_156 rfl rfl rfl ?_
          refine z_iload 159 C0 4 dX3_call_157 rfl rfl ?_
          refine z_iload 161 C0 5 dX3_call_159 rfl rfl ?_
          refine z_callVv 164 C0 [0, 1, 2, 3, 4, 5, 6] [7, 8, 9, 10] [(mt, zi E 4 (zn stp)), (p, zo 5 [.int (nI kd), .ref po, .ref pn, .int (nI len)]), (po, zi E 64 op), (pn, zi E 64 nn)] 0 0 (As := [.int (nI 3), .int (nI j)]) (T := TX3) (N := 8) (C := RX3) (ci := 3) (n := 2) 0 (move3 l_ E m ma ml ms mp mt h an (P.length) ar1 lo st mpk mpv (rwK 600 n f P) (rwV 600 n g P) (rwN 600 n P) j (by omega) (by omega) (by omega)) (zGIV (fun _ => zTs_in) wk_375 wk_372 wk_373 wk_374 wk_18) rfl ⟨rfl, by decide, by decide, by decide +kernel⟩ rfl rfl rfl rfl (by decide) rfl rfl (Nat.le_of_ble_eq_true rfl) ⟨by decide, by decide⟩ rfl rfl ⟨by decide, by decide⟩ ⟨by decide, by decide⟩ dX3_call_161 rfl (fun w161 hB161 => ?_)
          obtain rfl := hB161
          refine z_perm [4, 5, 6, 7, 8, 9, 10, 0, 1, 2, 3] [(m, zo 3 [.ref ma, .ref ml, .ref ms, .int (nI (h - 1)), .int an, .ref mp, .int (nI (P.length)), .ref mt]), (ma, zi E 3 ar1), (ml, zi E 4 (upd lo j (st (h - 1)))), (ms, zi E 8 st), (mp, zo 4 [.ref mpk, .ref mpv, .int (nI (rwN 600 n P))]), (mpk, zi E 600 (rwK 600 n f P)), (mpv, zi E 600 (rwV 600 n g P)), (mt, zi E 4 (zn stp)), (p, zo 5 [.int (nI kd), .ref po, .ref pn, .int (nI len)]), (po, zi E 64 op), (pn, zi E 64 nn)] (by decide) rfl ?_
          refine z_iinc 167 C0 2 [1, 2, 0, 3, 4, 5] [(0, .ref m), (1, .ref p), (5, .int (nI (i + 1))), (6, .int (nI (k + 1))), (7, .int (nI 3)), (8, .int (nI j))] (v := (nI (i + 1))) dX3_call_164 rfl rfl (z_incN _ _) (by decide) rfl ?_
          refine z_iinc 170 C0 3 [1, 2, 3, 0, 4, 5] [(0, .ref m), (1, .ref p), (5, .int (nI (i + 1))), (6, .int (nI (k + 2))), (7, .int (nI 3)), (8, .int (nI j))] (v := (nI (k + 2))) dX3_call_167 rfl rfl ((z_incN (k + 1) 1).trans (congrArg nI (by omega))) (by decide) rfl ?_
          refine z_goto 14 C0 dX3_call_170 (by decide) ?_
          refine z_loc [0, 1, 2, 3] [(0, .ref m), (1, .ref p), (5, .int (nI (i + 1))), (6, .int (nI (k + 2)))] rfl ?_
          exact ih14 (k + 1) fu (i + 1) (h - 1) (upd lo j (st (h - 1))) st P (by omega) (hR.next ho ⟨by decide, by decide, by decide⟩) hP ((mRun_step hop (by decide) (by decide) (by decide) (fun q => absurd q.1 (by decide)) hcl).symm.trans hM) (by omega)
        · skip
          have hnd : 1 ≤ h := by have := ho.2.2.1; simpa [pNeed, nNeed] using this
          have hup : h + 1 - 0 ≤ 8 := ho.2.2.2
          have hcl : (nn i).toNatClampNeg = (nn i).toNatClampNeg := rfl
          refine z_aload_n 32 C0 1 dX3_call_31 rfl rfl rfl ?_
          refine z_get 35 C0 8 1 wz_5 rfl (by decide) (zTs_in wk_71) dX3_call_32 rfl rfl rfl ?_
          refine z_iload 37 C0 2 dX3_call_35 rfl rfl ?_
          refine z_ialdN 38 C0 9 (v := (nI 4)) dX3_call_37 rfl rfl (by omega) (by decide) hop ?_
          refine z_istore 40 C0 [1, 2, 3, 4, 0] [(0, .ref m), (1, .ref p), (5, .int (nI i)), (6, .int (nI (k + 1))), (7, .int (nI 4))] dX3_call_38 rfl (by decide) rfl ?_
          refine z_aload_n 41 C0 1 dX3_call_40 rfl rfl rfl ?_
          refine z_get 44 C0 8 2 wz_5 rfl (by decide) (zTs_in wk_74) dX3_call_41 rfl rfl rfl ?_
          refine z_iload 46 C0 2 dX3_call_44 rfl rfl ?_
          refine z_ialdN 47 C0 10 (v := (nn i)) dX3_call_46 rfl rfl (by omega) (by decide) rfl ?_
          refine z_istore 49 C0 [1, 2, 3, 4, 5, 0] [(0, .ref m), (1, .ref p), (5, .int (nI i)), (6, .int (nI (k + 1))), (7, .int (nI 4)), (8, .int (nn i))] dX3_call_47 rfl (by decide) rfl ?_
          refine z_iload 51 C0 4 dX3_call_49 rfl rfl ?_
          refine z_bipush 53 C0 (v := (nI 17)) dX3_call_51 rfl rfl ?_
          refine z_icmp_eqN 56 63 C0 (by decide) (by decide) dX3_call_53 rfl (by decide) (fun k53 => absurd k53 (by omega)) (fun k53 => ?_)
          refine z_iload 58 C0 4 dX3_call_56 rfl rfl ?_
          refine z_bipush 60 C0 (v := (nI 18)) dX3_call_58 rfl rfl ?_
          refine z_icmp_neN 63 98 C0 (by decide) (by decide) dX3_call_60 rfl (by decide) (fun k60 => ?_) (fun k60 => absurd k60 (by omega))
          refine z_iload 100 C0 4 dX3_call_98 rfl rfl ?_
          refine z_bipush 102 C0 (v := (nI 16)) dX3_call_100 rfl rfl ?_
          refine z_icmp_neN 105 116 C0 (by decide) (by decide) dX3_call_102 rfl (by decide) (fun k102 => ?_) (fun k102 => absurd k102 (by omega))
          refine z_iload 118 C0 4 dX3_call_116 rfl rfl ?_
          refine z_callSNi 121 C0 [] [0, 1, 2, 3, 4, 5, 6, 7, 8, 9, 10] [(m, zo 3 [.ref ma, .ref ml, .ref ms, .int (nI h), .int an, .ref mp, .int (nI (P.length)), .ref mt]), (ma, zi E 3 ar1), (ml, zi E 4 lo), (ms, zi E 8 st), (mp, zo 4 [.ref mpk, .ref mpv, .int (nI (rwN 600 n P))]), (mpk, zi E 600 (rwK 600 n f P)), (mpv, zi E 600 (rwV 600 n g P)), (mt, zi E 4 (zn stp)), (p, zo 5 [.int (nI kd), .ref po, .ref pn, .int (nI len)]), (po, zi E 64 op), (pn, zi E 64 nn)] 0 0 (As := [.int (nI 4)]) (n := 1) (isJump l_ E 4 (by omega)) (zTs_good (fun _ => zTs_in) wk_276) rfl C0.2.2.2.2.2.2.2.2.2.1.1.2.2.2.2.1 (zTs_in wk_12) (zTs_in wk_275) ⟨by decide, by decide, by decide +kernel⟩ rfl rfl (by decide) rfl rfl (Nat.le_of_ble_eq_true rfl) ⟨by decide, by decide⟩ rfl rfl ⟨by decide, by decide⟩ ⟨by decide, by decide⟩ dX3_call_118 rfl (fun r118 w118 hB118 => ?_)
          obtain ⟨rfl, rfl⟩ := hB118
          refine z_perm [0, 1, 2, 3, 4, 5, 6, 7, 8, 9, 10] [(m, zo 3 [.ref ma, .ref ml, .ref ms, .int (nI h), .int an, .ref mp, .int (nI (P.length)), .ref mt]), (ma, zi E 3 ar1), (ml, zi E 4 lo), (ms, zi E 8 st), (mp, zo 4 [.ref mpk, .ref mpv, .int (nI (rwN 600 n P))]), (mpk, zi E 600 (rwK 600 n f P)), (mpv, zi E 600 (rwV 600 n g P)), (mt, zi E 4 (zn stp)), (p, zo 5 [.int (nI kd), .ref po, .ref pn, .int (nI len)]), (po, zi E 64 op), (pn, zi E 64 nn)] (by decide) rfl ?_
          refine z_if_eqP 124 139 C0 dX3_call_121 rfl (by decide) (fun k121 => ?_) (fun k121 => absurd k121 (by omega))
          refine z_iload 141 C0 4 dX3_call_139 rfl rfl ?_
          refine z_callSNi 144 C0 [] [0, 1, 2, 3, 4, 5, 6, 7, 8, 9, 10] [(m, zo 3 [.ref ma, .ref ml, .ref ms, .int (nI h), .int an, .ref mp, .int (nI (P.length)), .ref mt]), (ma, zi E 3 ar1), (ml, zi E 4 lo), (ms, zi E 8 st), (mp, zo 4 [.ref mpk, .ref mpv, .int (nI (rwN 600 n P))]), (mpk, zi E 600 (rwK 600 n f P)), (mpv, zi E 600 (rwV 600 n g P)), (mt, zi E 4 (zn stp)), (p, zo 5 [.int (nI kd), .ref po, .ref pn, .int (nI len)]), (po, zi E 64 op), (pn, zi E 64 nn)] 0 0 (As := [.int (nI 4)]) (n := 1) (isComb l_ E 4 (by omega)) (zTs_good (fun _ => zTs_in) wk_360) rfl C0.2.2.2.2.2.2.2.2.2.1.1.2.2.2.2.2 (zTs_in wk_12) (zTs_in wk_359) ⟨by decide, by decide, by decide +kernel⟩ rfl rfl (by decide) rfl rfl (Nat.le_of_ble_eq_true rfl) ⟨by decide, by decide⟩ rfl rfl ⟨by decide, by decide⟩ ⟨by decide, by decide⟩ dX3_call_141 rfl (fun r141 w141 hB141 => ?_)
          obtain ⟨rfl, rfl⟩ := hB141
          refine z_perm [0, 1, 2, 3, 4, 5, 6, 7, 8, 9, 10] [(m, zo 3 [.ref ma, .ref ml, .ref ms, .int (nI h), .int an, .ref mp, .int (nI (P.length)), .ref mt]), (ma, zi E 3 ar1), (ml, zi E 4 lo), (ms, zi E 8 st), (mp, zo 4 [.ref mpk, .ref mpv, .int (nI (rwN 600 n P))]), (mpk, zi E 600 (rwK 600 n f P)), (mpv, zi E 600 (rwV 600 n g P)), (mt, zi E 4 (zn stp)), (p, zo 5 [.int (nI kd), .ref po, .ref pn, .int (nI len)]), (po, zi E 64 op), (pn, zi E 64 nn)] (by decide) rfl ?_
          refine z_if_eqP 147 156 C0 dX3_call_144 rfl (by decide) (fun k144 => ?_) (fun k144 => absurd k144 (by omega))
          refine z_aload_n 157 C0 0 dX3_call_156 rfl rfl rfl ?_
          refine z_iload 159 C0 4 dX3_call_157 rfl rfl ?_
          refine z_iload 161 C0 5 dX3_call_159 rfl rfl ?_
          refine z_callVv 164 C0 [0, 1, 2, 3, 4, 5, 6] [7, 8, 9, 10] [(mt, zi E 4 (zn stp)), (p, zo 5 [.int (nI kd), .ref po, .ref pn, .int (nI len)]), (po, zi E 64 op), (pn, zi E 64 nn)] 0 0 (As := [.int (nI 4), .int (nn i)]) (T := TX3) (N := 8) (C := RX3) (ci := 3) (n := 2) 0 (move4 l_ E m ma ml ms mp mt h an (P.length) ar1 lo st mpk mpv (rwK 600 n f P) (rwV 600 n g P) (rwN 600 n P) (nn i) (by omega) (by omega) (by omega)) (zGIV (fun _ => zTs_in) wk_375 wk_372 wk_373 wk_374 wk_18) rfl ⟨rfl, by decide, by decide, by decide +kernel⟩ rfl rfl rfl rfl (by decide) rfl rfl (Nat.le_of_ble_eq_true rfl) ⟨by decide, by decide⟩ rfl rfl ⟨by decide, by decide⟩ ⟨by decide, by decide⟩ dX3_call_161 rfl (fun w161 hB161 => ?_)
          obtain rfl := hB161
          refine z_perm [4, 5, 6, 7, 8, 9, 10, 0, 1, 2, 3] [(m, zo 3 [.ref ma, .ref ml, .ref ms, .int (nI (h + 1)), .int an, .ref mp, .int (nI (P.length)), .ref mt]), (ma, zi E 3 ar1), (ml, zi E 4 lo), (ms, zi E 8 (upd st h (st (h - 1)))), (mp, zo 4 [.ref mpk, .ref mpv, .int (nI (rwN 600 n P))]), (mpk, zi E 600 (rwK 600 n f P)), (mpv, zi E 600 (rwV 600 n g P)), (mt, zi E 4 (zn stp)), (p, zo 5 [.int (nI kd), .ref po, .ref pn, .int (nI len)]), (po, zi E 64 op), (pn, zi E 64 nn)] (by decide) rfl ?_
          refine z_iinc 167 C0 2 [1, 2, 0, 3, 4, 5] [(0, .ref m), (1, .ref p), (5, .int (nI (i + 1))), (6, .int (nI (k + 1))), (7, .int (nI 4)), (8, .int (nn i))] (v := (nI (i + 1))) dX3_call_164 rfl rfl (z_incN _ _) (by decide) rfl ?_
          refine z_iinc 170 C0 3 [1, 2, 3, 0, 4, 5] [(0, .ref m), (1, .ref p), (5, .int (nI (i + 1))), (6, .int (nI (k + 2))), (7, .int (nI 4)), (8, .int (nn i))] (v := (nI (k + 2))) dX3_call_167 rfl rfl ((z_incN (k + 1) 1).trans (congrArg nI (by omega))) (by decide) rfl ?_
          refine z_goto 14 C0 dX3_call_170 (by decide) ?_
          refine z_loc [0, 1, 2, 3] [(0, .ref m), (1, .ref p), (5, .int (nI (i + 1))), (6, .int (nI (k + 2)))] rfl ?_
          exact ih14 (k + 1) fu (i + 1) (h + 1) lo (upd st h (st (h - 1))) P (by omega) (hR.next ho ⟨by decide, by decide, by decide⟩) hP ((mRun_step hop (by decide) (by decide) (by decide) (fun q => absurd q.1 (by decide)) hcl).symm.trans hM) (by omega)
        · skip
          have hnd : 2 ≤ h := by have := ho.2.2.1; simpa [pNeed, nNeed] using this
          have hup : h + 0 - 0 ≤ 8 := ho.2.2.2
          have hcl : (nn i).toNatClampNeg = (nn i).toNatClampNeg := rfl
          refine z_aload_n 32 C0 1 dX3_call_31 rfl rfl rfl ?_
          refine z_get 35 C0 8 1 wz_5 rfl (by decide) (zTs_in wk_71) dX3_call_32 rfl rfl rfl ?_
          refine z_iload 37 C0 2 dX3_call_35 rfl rfl ?_
          refine z_ialdN 38 C0 9 (v := (nI 5)) dX3_call_37 rfl rfl (by omega) (by decide) hop ?_
          refine z_istore 40 C0 [1, 2, 3, 4, 0] [(0, .ref m), (1, .ref p), (5, .int (nI i)), (6, .int (nI (k + 1))), (7, .int (nI 5))] dX3_call_38 rfl (by decide) rfl ?_
          refine z_aload_n 41 C0 1 dX3_call_40 rfl rfl rfl ?_
          refine z_get 44 C0 8 2 wz_5 rfl (by decide) (zTs_in wk_74) dX3_call_41 rfl rfl rfl ?_
          refine z_iload 46 C0 2 dX3_call_44 rfl rfl ?_
          refine z_ialdN 47 C0 10 (v := (nn i)) dX3_call_46 rfl rfl (by omega) (by decide) rfl ?_
          refine z_istore 49 C0 [1, 2, 3, 4, 5, 0] [(0, .ref m), (1, .ref p), (5, .int (nI i)), (6, .int (nI (k + 1))), (7, .int (nI 5)), (8, .int (nn i))] dX3_call_47 rfl (by decide) rfl ?_
          refine z_iload 51 C0 4 dX3_call_49 rfl rfl ?_
          refine z_bipush 53 C0 (v := (nI 17)) dX3_call_51 rfl rfl ?_
          refine z_icmp_eqN 56 63 C0 (by decide) (by decide) dX3_call_53 rfl (by decide) (fun k53 => absurd k53 (by omega)) (fun k53 => ?_)
          refine z_iload 58 C0 4 dX3_call_56 rfl rfl ?_
          refine z_bipush 60 C0 (v := (nI 18)) dX3_call_58 rfl rfl ?_
          refine z_icmp_neN 63 98 C0 (by decide) (by decide) dX3_call_60 rfl (by decide) (fun k60 => ?_) (fun k60 => absurd k60 (by omega))
          refine z_iload 100 C0 4 dX3_call_98 rfl rfl ?_
          refine z_bipush 102 C0 (v := (nI 16)) dX3_call_100 rfl rfl ?_
          refine z_icmp_neN 105 116 C0 (by decide) (by decide) dX3_call_102 rfl (by decide) (fun k102 => ?_) (fun k102 => absurd k102 (by omega))
          refine z_iload 118 C0 4 dX3_call_116 rfl rfl ?_
          refine z_callSNi 121 C0 [] [0, 1, 2, 3, 4, 5, 6, 7, 8, 9, 10] [(m, zo 3 [.ref ma, .ref ml, .ref ms, .int (nI h), .int an, .ref mp, .int (nI (P.length)), .ref mt]), (ma, zi E 3 ar1), (ml, zi E 4 lo), (ms, zi E 8 st), (mp, zo 4 [.ref mpk, .ref mpv, .int (nI (rwN 600 n P))]), (mpk, zi E 600 (rwK 600 n f P)), (mpv, zi E 600 (rwV 600 n g P)), (mt, zi E 4 (zn stp)), (p, zo 5 [.int (nI kd), .ref po, .ref pn, .int (nI len)]), (po, zi E 64 op), (pn, zi E 64 nn)] 0 0 (As := [.int (nI 5)]) (n := 1) (isJump l_ E 5 (by omega)) (zTs_good (fun _ => zTs_in) wk_276) rfl C0.2.2.2.2.2.2.2.2.2.1.1.2.2.2.2.1 (zTs_in wk_12) (zTs_in wk_275) ⟨by decide, by decide, by decide +kernel⟩ rfl rfl (by decide) rfl rfl (Nat.le_of_ble_eq_true rfl) ⟨by decide, by decide⟩ rfl rfl ⟨by decide, by decide⟩ ⟨by decide, by decide⟩ dX3_call_118 rfl (fun r118 w118 hB118 => ?_)
          obtain ⟨rfl, rfl⟩ := hB118
          refine z_perm [0, 1, 2, 3, 4, 5, 6, 7, 8, 9, 10] [(m, zo 3 [.ref ma, .ref ml, .ref ms, .int (nI h), .int an, .ref mp, .int (nI (P.length)), .ref mt]), (ma, zi E 3 ar1), (ml, zi E 4 lo), (ms, zi E 8 st), (mp, zo 4 [.ref mpk, .ref mpv, .int (nI (rwN 600 n P))]), (mpk, zi E 600 (rwK 600 n f P)), (mpv, zi E 600 (rwV 600 n g P)), (mt, zi E 4 (zn stp)), (p, zo 5 [.int (nI kd), .ref po, .ref pn, .int (nI len)]), (po, zi E 64 op), (pn, zi E 64 nn)] (by decide) rfl ?_
          refine z_if_eqP 124 139 C0 dX3_call_121 rfl (by decide) (fun k121 => ?_) (fun k121 => absurd k121 (by omega))
          refine z_iload 141 C0 4 dX3_call_139 rfl rfl ?_
          refine z_callSNi 144 C0 [] [0, 1, 2, 3, 4, 5, 6, 7, 8, 9, 10] [(m, zo 3 [.ref ma, .ref ml, .ref ms, .int (nI h), .int an, .ref mp, .int (nI (P.length)), .ref mt]), (ma, zi E 3 ar1), (ml, zi E 4 lo), (ms, zi E 8 st), (mp, zo 4 [.ref mpk, .ref mpv, .int (nI (rwN 600 n P))]), (mpk, zi E 600 (rwK 600 n f P)), (mpv, zi E 600 (rwV 600 n g P)), (mt, zi E 4 (zn stp)), (p, zo 5 [.int (nI kd), .ref po, .ref pn, .int (nI len)]), (po, zi E 64 op), (pn, zi E 64 nn)] 0 0 (As := [.int (nI 5)]) (n := 1) (isComb l_ E 5 (by omega)) (zTs_good (fun _ => zTs_in) wk_360) rfl C0.2.2.2.2.2.2.2.2.2.1.1.2.2.2.2.2 (zTs_in wk_12) (zTs_in wk_359) ⟨by decide, by decide, by decide +kernel⟩ rfl rfl (by decide) rfl rfl (Nat.le_of_ble_eq_true rfl) ⟨by decide, by decide⟩ rfl rfl ⟨by decide, by decide⟩ ⟨by decide, by decide⟩ dX3_call_141 rfl (fun r141 w141 hB141 => ?_)
          obtain ⟨rfl, rfl⟩ := hB141
          refine z_perm [0, 1, 2, 3, 4, 5, 6, 7, 8, 9, 10] [(m, zo 3 [.ref ma, .ref ml, .ref ms, .int (nI h), .int an, .ref mp, .int (nI (P.length)), .ref mt]), (ma, zi E 3 ar1), (ml, zi E 4 lo), (ms, zi E 8 st), (mp, zo 4 [.ref mpk, .ref mpv, .int (nI (rwN 600 n P))]), (mpk, zi E 600 (rwK 600 n f P)), (mpv, zi E 600 (rwV 600 n g P)), (mt, zi E 4 (zn stp)), (p, zo 5 [.int (nI kd), .ref po, .ref pn, .int (nI len)]), (po, zi E 64 op), (pn, zi E 64 nn)] (by decide) rfl ?_
          refine z_if_eqP 147 156 C0 dX3_call_144 rfl (by decide) (fun k144 => ?_) (fun k144 => absurd k144 (by omega))
          refine z_aload_n 157 C0 0 dX3_call_156 rfl rfl rfl ?_
          refine z_iload 159 C0 4 dX3_call_157 rfl rfl ?_
          refine z_iload 161 C0 5 dX3_call_159 rfl rfl ?_
          refine z_callVv 164 C0 [0, 1, 2, 3, 4, 5, 6] [7, 8, 9, 10] [(mt, zi E 4 (zn stp)), (p, zo 5 [.int (nI kd), .ref po, .ref pn, .int (nI len)]), (po, zi E 64 op), (pn, zi E 64 nn)] 0 0 (As := [.int (nI 5), .int (nn i)]) (T := TX3) (N := 8) (C := RX3) (ci := 3) (n := 2) 0 (move5 l_ E m ma ml ms mp mt h an (P.length) ar1 lo st mpk mpv (rwK 600 n f P) (rwV 600 n g P) (rwN 600 n P) (nn i) (by omega) (by omega)) (zGIV (fun _ => zTs_in) wk_375 wk_372 wk_373 wk_374 wk_18) rfl ⟨rfl, by decide, by decide, by decide +kernel⟩ rfl rfl rfl rfl (by decide) rfl rfl (Nat.le_of_ble_eq_true rfl) ⟨by decide, by decide⟩ rfl rfl ⟨by decide, by decide⟩ ⟨by decide, by decide⟩ dX3_call_161 rfl (fun w161 hB161 => ?_)
          obtain rfl := hB161
          refine z_perm [4, 5, 6, 7, 8, 9, 10, 0, 1, 2, 3] [(m, zo 3 [.ref ma, .ref ml, .ref ms, .int (nI h), .int an, .ref mp, .int (nI (P.length)), .ref mt]), (ma, zi E 3 ar1), (ml, zi E 4 lo), (ms, zi E 8 (upd (upd st (h - 2) (st (h - 1))) (h - 1) (st (h - 2)))), (mp, zo 4 [.ref mpk, .ref mpv, .int (nI (rwN 600 n P))]), (mpk, zi E 600 (rwK 600 n f P)), (mpv, zi E 600 (rwV 600 n g P)), (mt, zi E 4 (zn stp)), (p, zo 5 [.int (nI kd), .ref po, .ref pn, .int (nI len)]), (po, zi E 64 op), (pn, zi E 64 nn)] (by decide) rfl ?_
          refine z_iinc 167 C0 2 [1, 2, 0, 3, 4, 5] [(0, .ref m), (1, .ref p), (5, .int (nI (i + 1))), (6, .int (nI (k + 1))), (7, .int (nI 5)), (8, .int (nn i))] (v := (nI (i + 1))) dX3_call_164 rfl rfl (z_incN _ _) (by decide) rfl ?_
          refine z_iinc 170 C0 3 [1, 2, 3, 0, 4, 5] [(0, .ref m), (1, .ref p), (5, .int (nI (i + 1))), (6, .int (nI (k + 2))), (7, .int (nI 5)), (8, .int (nn i))] (v := (nI (k + 2))) dX3_call_167 rfl rfl ((z_incN (k + 1) 1).trans (congrArg nI (by omega))) (by decide) rfl ?_
          refine z_goto 14 C0 dX3_call_170 (by decide) ?_
          refine z_loc [0, 1, 2, 3] [(0, .ref m), (1, .ref p), (5, .int (nI (i + 1))), (6, .int (nI (k + 2)))] rfl ?_
          exact ih14 (k + 1) fu (i + 1) h lo (upd (upd st (h - 2) (st (h - 1))) (h - 1) (st (h - 2))) P (by omega) (hR.next ho ⟨by decide, by decide, by decide⟩) hP ((mRun_step hop (by decide) (by decide) (by decide) (fun q => absurd q.1 (by decide)) hcl).symm.trans hM) (by omega)
        · skip
          have hnd : 1 ≤ h := by have := ho.2.2.1; simpa [pNeed, nNeed] using this
          have hup : h + 0 - 1 ≤ 8 := ho.2.2.2
          have hcl : (nn i).toNatClampNeg = (nn i).toNatClampNeg := rfl
          refine z_aload_n 32 C0 1 dX3_call_31 rfl rfl rfl ?_
          refine z_get 35 C0 8 1 wz_5 rfl (by decide) (zTs_in wk_71) dX3_call_32 rfl rfl rfl ?_
          refine z_iload 37 C0 2 dX3_call_35 rfl rfl ?_
          refine z_ialdN 38 C0 9 (v := (nI 6)) dX3_call_37 rfl rfl (by omega) (by decide) hop ?_
          refine z_istore 40 C0 [1, 2, 3, 4, 0] [(0, .ref m), (1, .ref p), (5, .int (nI i)), (6, .int (nI (k + 1))), (7, .int (nI 6))] dX3_call_38 rfl (by decide) rfl ?_
          refine z_aload_n 41 C0 1 dX3_call_40 rfl rfl rfl ?_
          refine z_get 44 C0 8 2 wz_5 rfl (by decide) (zTs_in wk_74) dX3_call_41 rfl rfl rfl ?_
          refine z_iload 46 C0 2 dX3_call_44 rfl rfl ?_
          refine z_ialdN 47 C0 10 (v := (nn i)) dX3_call_46 rfl rfl (by omega) (by decide) rfl ?_
          refine z_istore 49 C0 [1, 2, 3, 4, 5, 0] [(0, .ref m), (1, .ref p), (5, .int (nI i)), (6, .int (nI (k + 1))), (7, .int (nI 6)), (8, .int (nn i))] dX3_call_47 rfl (by decide) rfl ?_
          refine z_iload 51 C0 4 dX3_call_49 rfl rfl ?_
          refine z_bipush 53 C0 (v := (nI 17)) dX3_call_51 rfl rfl ?_
          refine z_icmp_eqN 56 63 C0 (by decide) (by decide) dX3_call_53 rfl (by decide) (fun k53 => absurd k53 (by omega)) (fun k53 => ?_)
          refine z_iload 58 C0 4 dX3_call_56 rfl rfl ?_
          refine z_bipush 60 C0 (v := (nI 18)) dX3_call_58 rfl rfl ?_
          refine z_icmp_neN 63 98 C0 (by decide) (by decide) dX3_call_60 rfl (by decide) (fun k60 => ?_) (fun k60 => absurd k60 (by omega))
          refine z_iload 100 C0 4 dX3_call_98 rfl rfl ?_
          refine z_bipush 102 C0 (v := (nI 16)) dX3_call_100 rfl rfl ?_
          refine z_icmp_neN 105 116 C0 (by decide) (by decide) dX3_call_102 rfl (by decide) (fun k102 => ?_) (fun k102 => absurd k102 (by omega))
          refine z_iload 118 C0 4 dX3_call_116 rfl rfl ?_
          refine z_callSNi 121 C0 [] [0, 1, 2, 3, 4, 5, 6, 7, 8, 9, 10] [(m, zo 3 [.ref ma, .ref ml, .ref ms, .int (nI h), .int an, .ref mp, .int (nI (P.length)), .ref mt]), (ma, zi E 3 ar1), (ml, zi E 4 lo), (ms, zi E 8 st), (mp, zo 4 [.ref mpk, .ref mpv, .int (nI (rwN 600 n P))]), (mpk, zi E 600 (rwK 600 n f P)), (mpv, zi E 600 (rwV 600 n g P)), (mt, zi E 4 (zn stp)), (p, zo 5 [.int (nI kd), .ref po, .ref pn, .int (nI len)]), (po, zi E 64 op), (pn, zi E 64 nn)] 0 0 (As := [.int (nI 6)]) (n := 1) (isJump l_ E 6 (by omega)) (zTs_good (fun _ => zTs_in) wk_276) rfl C0.2.2.2.2.2.2.2.2.2.1.1.2.2.2.2.1 (zTs_in wk_12) (zTs_in wk_275) ⟨by decide, by decide, by decide +kernel⟩ rfl rfl (by decide) rfl rfl (Nat.le_of_ble_eq_true rfl) ⟨by decide, by decide⟩ rfl rfl ⟨by decide, by decide⟩ ⟨by decide, by decide⟩ dX3_call_118 rfl (fun r118 w118 hB118 => ?_)
          obtain ⟨rfl, rfl⟩ := hB118
          refine z_perm [0, 1, 2, 3, 4, 5, 6, 7, 8, 9, 10] [(m, zo 3 [.ref ma, .ref ml, .ref ms, .int (nI h), .int an, .ref mp, .int (nI (P.length)), .ref mt]), (ma, zi E 3 ar1), (ml, zi E 4 lo), (ms, zi E 8 st), (mp, zo 4 [.ref mpk, .ref mpv, .int (nI (rwN 600 n P))]), (mpk, zi E 600 (rwK 600 n f P)), (mpv, zi E 600 (rwV 600 n g P)), (mt, zi E 4 (zn stp)), (p, zo 5 [.int (nI kd), .ref po, .ref pn, .int (nI len)]), (po, zi E 64 op), (pn, zi E 64 nn)] (by decide) rfl ?_
          refine z_if_eqP 124 139 C0 dX3_call_121 rfl (by decide) (fun k121 => ?_) (fun k121 => absurd k121 (by omega))
          refine z_iload 141 C0 4 dX3_call_139 rfl rfl ?_
          refine z_callSNi 144 C0 [] [0, 1, 2, 3, 4, 5, 6, 7, 8, 9, 10] [(m, zo 3 [.ref ma, .ref ml, .ref ms, .int (nI h), .int an, .ref mp, .int (nI (P.length)), .ref mt]), (ma, zi E 3 ar1), (ml, zi E 4 lo), (ms, zi E 8 st), (mp, zo 4 [.ref mpk, .ref mpv, .int (nI (rwN 600 n P))]), (mpk, zi E 600 (rwK 600 n f P)), (mpv, zi E 600 (rwV 600 n g P)), (mt, zi E 4 (zn stp)), (p, zo 5 [.int (nI kd), .ref po, .ref pn, .int (nI len)]), (po, zi E 64 op), (pn, zi E 64 nn)] 0 0 (As := [.int (nI 6)]) (n := 1) (isComb l_ E 6 (by omega)) (zTs_good (fun _ => zTs_in) wk_360) rfl C0.2.2.2.2.2.2.2.2.2.1.1.2.2.2.2.2 (zTs_in wk_12) (zTs_in wk_359) ⟨by decide, by decide, by decide +kernel⟩ rfl rfl (by decide) rfl rfl (Nat.le_of_ble_eq_true rfl) ⟨by decide, by decide⟩ rfl rfl ⟨by decide, by decide⟩ ⟨by decide, by decide⟩ dX3_call_141 rfl (fun r141 w141 hB141 => ?_)
          obtain ⟨rfl, rfl⟩ := hB141
          refine z_perm [0, 1, 2, 3, 4, 5, 6, 7, 8, 9, 10] [(m, zo 3 [.ref ma, .ref ml, .ref ms, .int (nI h), .int an, .ref mp, .int (nI (P.length)), .ref mt]), (ma, zi E 3 ar1), (ml, zi E 4 lo), (ms, zi E 8 st), (mp, zo 4 [.ref mpk, .ref mpv, .int (nI (rwN 600 n P))]), (mpk, zi E 600 (rwK 600 n f P)), (mpv, zi E 600 (rwV 600 n g P)), (mt, zi E 4 (zn stp)), (p, zo 5 [.int (nI kd), .ref po, .ref pn, .int (nI len)]), (po, zi E 64 op), (pn, zi E 64 nn)] (by decide) rfl ?_
          refine z_if_eqP 147 156 C0 dX3_call_144 rfl (by decide) (fun k144 => ?_) (fun k144 => absurd k144 (by omega))
          refine z_aload_n 157 C0 0 dX3_call_156 rfl rfl rfl ?_
          refine z_iload 159 C0 4 dX3_call_157 rfl rfl ?_
          refine z_iload 161 C0 5 dX3_call_159 rfl rfl ?_
          refine z_callVv 164 C0 [0, 1, 2, 3, 4, 5, 6] [7, 8, 9, 10] [(mt, zi E 4 (zn stp)), (p, zo 5 [.int (nI kd), .ref po, .ref pn, .int (nI len)]), (po, zi E 64 op), (pn, zi E 64 nn)] 0 0 (As := [.int (nI 6), .int (nn i)]) (T := TX3) (N := 8) (C := RX3) (ci := 3) (n := 2) 0 (move6 l_ E m ma ml ms mp mt h an (P.length) ar1 lo st mpk mpv (rwK 600 n f P) (rwV 600 n g P) (rwN 600 n P) (nn i) (by omega) (by omega)) (zGIV (fun _ => zTs_in) wk_375 wk_372 wk_373 wk_374 wk_18) rfl ⟨rfl, by decide, by decide, by decide +kernel⟩ rfl rfl rfl rfl (by decide) rfl rfl (Nat.le_of_ble_eq_true rfl) ⟨by decide, by decide⟩ rfl rfl ⟨by decide, by decide⟩ ⟨by decide, by decide⟩ dX3_call_161 rfl (fun w161 hB161 => ?_)
          obtain rfl := hB161
          refine z_perm [4, 5, 6, 7, 8, 9, 10, 0, 1, 2, 3] [(m, zo 3 [.ref ma, .ref ml, .ref ms, .int (nI (h - 1)), .int an, .ref mp, .int (nI (P.length)), .ref mt]), (ma, zi E 3 ar1), (ml, zi E 4 lo), (ms, zi E 8 st), (mp, zo 4 [.ref mpk, .ref mpv, .int (nI (rwN 600 n P))]), (mpk, zi E 600 (rwK 600 n f P)), (mpv, zi E 600 (rwV 600 n g P)), (mt, zi E 4 (zn stp)), (p, zo 5 [.int (nI kd), .ref po, .ref pn, .int (nI len)]), (po, zi E 64 op), (pn, zi E 64 nn)] (by decide) rfl ?_
          refine z_iinc 167 C0 2 [1, 2, 0, 3, 4, 5] [(0, .ref m), (1, .ref p), (5, .int (nI (i + 1))), (6, .int (nI (k + 1))), (7, .int (nI 6)), (8, .int (nn i))] (v := (nI (i + 1))) dX3_call_164 rfl rfl (z_incN _ _) (by decide) rfl ?_
          refine z_iinc 170 C0 3 [1, 2, 3, 0, 4, 5] [(0, .ref m), (1, .ref p), (5, .int (nI (i + 1))), (6, .int (nI (k + 2))), (7, .int (nI 6)), (8, .int (nn i))] (v := (nI (k + 2))) dX3_call_167 rfl rfl ((z_incN (k + 1) 1).trans (congrArg nI (by omega))) (by decide) rfl ?_
          refine z_goto 14 C0 dX3_call_170 (by decide) ?_
          refine z_loc [0, 1, 2, 3] [(0, .ref m), (1, .ref p), (5, .int (nI (i + 1))), (6, .int (nI (k + 2)))] rfl ?_
          exact ih14 (k + 1) fu (i + 1) (h - 1) lo st P (by omega) (hR.next ho ⟨by decide, by decide, by decide⟩) hP ((mRun_step hop (by decide) (by decide) (by decide) (fun q => absurd q.1 (by decide)) hcl).symm.trans hM) (by omega)
        · skip
          have hnd : 2 ≤ h := by have := ho.2.2.1; simpa [pNeed, nNeed] using this
          have hup : h + 0 - 1 ≤ 8 := ho.2.2.2
          have hcl : (nn i).toNatClampNeg = (nn i).toNatClampNeg := rfl
          refine z_aload_n 32 C0 1 dX3_call_31 rfl rfl rfl ?_
          refine z_get 35 C0 8 1 wz_5 rfl (by decide) (zTs_in wk_71) dX3_call_32 rfl rfl rfl ?_
          refine z_iload 37 C0 2 dX3_call_35 rfl rfl ?_
          refine z_ialdN 38 C0 9 (v := (nI 7)) dX3_call_37 rfl rfl (by omega) (by decide) hop ?_
          refine z_istore 40 C0 [1, 2, 3, 4, 0] [(0, .ref m), (1, .ref p), (5, .int (nI i)), (6, .int (nI (k + 1))), (7, .int (nI 7))] dX3_call_38 rfl (by decide) rfl ?_
          refine z_aload_n 41 C0 1 dX3_call_40 rfl rfl rfl ?_
          refine z_get 44 C0 8 2 wz_5 rfl (by decide) (zTs_in wk_74) dX3_call_41 rfl rfl rfl ?_
          refine z_iload 46 C0 2 dX3_call_44 rfl rfl ?_
          refine z_ialdN 47 C0 10 (v := (nn i)) dX3_call_46 rfl rfl (by omega) (by decide) rfl ?_
          refine z_istore 49 C0 [1, 2, 3, 4, 5, 0] [(0, .ref m), (1, .ref p), (5, .int (nI i)), (6, .int (nI (k + 1))), (7, .int (nI 7)), (8, .int (nn i))] dX3_call_47 rfl (by decide) rfl ?_
          refine z_iload 51 C0 4 dX3_call_49 rfl rfl ?_
          refine z_bipush 53 C0 (v := (nI 17)) dX3_call_51 rfl rfl ?_
          refine z_icmp_eqN 56 63 C0 (by decide) (by decide) dX3_call_53 rfl (by decide) (fun k53 => absurd k53 (by omega)) (fun k53 => ?_)
          refine z_iload 58 C0 4 dX3_call_56 rfl rfl ?_
          refine z_bipush 60 C0 (v := (nI 18)) dX3_call_58 rfl rfl ?_
          refine z_icmp_neN 63 98 C0 (by decide) (by decide) dX3_call_60 rfl (by decide) (fun k60 => ?_) (fun k60 => absurd k60 (by omega))
          refine z_iload 100 C0 4 dX3_call_98 rfl rfl ?_
          refine z_bipush 102 C0 (v := (nI 16)) dX3_call_100 rfl rfl ?_
          refine z_icmp_neN 105 116 C0 (by decide) (by decide) dX3_call_102 rfl (by decide) (fun k102 => ?_) (fun k102 => absurd k102 (by omega))
          refine z_iload 118 C0 4 dX3_call_116 rfl rfl ?_
          refine z_callSNi 121 C0 [] [0, 1, 2, 3, 4, 5, 6, 7, 8, 9, 10] [(m, zo 3 [.ref ma, .ref ml, .ref ms, .int (nI h), .int an, .ref mp, .int (nI (P.length)), .ref mt]), (ma, zi E 3 ar1), (ml, zi E 4 lo), (ms, zi E 8 st), (mp, zo 4 [.ref mpk, .ref mpv, .int (nI (rwN 600 n P))]), (mpk, zi E 600 (rwK 600 n f P)), (mpv, zi E 600 (rwV 600 n g P)), (mt, zi E 4 (zn stp)), (p, zo 5 [.int (nI kd), .ref po, .ref pn, .int (nI len)]), (po, zi E 64 op), (pn, zi E 64 nn)] 0 0 (As := [.int (nI 7)]) (n := 1) (isJump l_ E 7 (by omega)) (zTs_good (fun _ => zTs_in) wk_276) rfl C0.2.2.2.2.2.2.2.2.2.1.1.2.2.2.2.1 (zTs_in wk_12) (zTs_in wk_275) ⟨by decide, by decide, by decide +kernel⟩ rfl rfl (by decide) rfl rfl (Nat.le_of_ble_eq_true rfl) ⟨by decide, by decide⟩ rfl rfl ⟨by decide, by decide⟩ ⟨by decide, by decide⟩ dX3_call_118 rfl (fun r118 w118 hB118 => ?_)
          obtain ⟨rfl, rfl⟩ := hB118
          refine z_perm [0, 1, 2, 3, 4, 5, 6, 7, 8, 9, 10] [(m, zo 3 [.ref ma, .ref ml, .ref ms, .int (nI h), .int an, .ref mp, .int (nI (P.length)), .ref mt]), (ma, zi E 3 ar1), (ml, zi E 4 lo), (ms, zi E 8 st), (mp, zo 4 [.ref mpk, .ref mpv, .int (nI (rwN 600 n P))]), (mpk, zi E 600 (rwK 600 n f P)), (mpv, zi E 600 (rwV 600 n g P)), (mt, zi E 4 (zn stp)), (p, zo 5 [.int (nI kd), .ref po, .ref pn, .int (nI len)]), (po, zi E 64 op), (pn, zi E 64 nn)] (by decide) rfl ?_
          refine z_if_eqP 124 139 C0 dX3_call_121 rfl (by decide) (fun k121 => ?_) (fun k121 => absurd k121 (by omega))
          refine z_iload 141 C0 4 dX3_call_139 rfl rfl ?_
          refine z_callSNi 144 C0 [] [0, 1, 2, 3, 4, 5, 6, 7, 8, 9, 10] [(m, zo 3 [.ref ma, .ref ml, .ref ms, .int (nI h), .int an, .ref mp, .int (nI (P.length)), .ref mt]), (ma, zi E 3 ar1), (ml, zi E 4 lo), (ms, zi E 8 st), (mp, zo 4 [.ref mpk, .ref mpv, .int (nI (rwN 600 n P))]), (mpk, zi E 600 (rwK 600 n f P)), (mpv, zi E 600 (rwV 600 n g P)), (mt, zi E 4 (zn stp)), (p, zo 5 [.int (nI kd), .ref po, .ref pn, .int (nI len)]), (po, zi E 64 op), (pn, zi E 64 nn)] 0 0 (As := [.int (nI 7)]) (n := 1) (isComb l_ E 7 (by omega)) (zTs_good (fun _ => zTs_in) wk_360) rfl C0.2.2.2.2.2.2.2.2.2.1.1.2.2.2.2.2 (zTs_in wk_12) (zTs_in wk_359) ⟨by decide, by decide, by decide +kernel⟩ rfl rfl (by decide) rfl rfl (Nat.le_of_ble_eq_true rfl) ⟨by decide, by decide⟩ rfl rfl ⟨by decide, by decide⟩ ⟨by decide, by decide⟩ dX3_call_141 rfl (fun r141 w141 hB141 => ?_)
          obtain ⟨rfl, rfl⟩ := hB141
          refine z_perm [0, 1, 2, 3, 4, 5, 6, 7, 8, 9, 10] [(m, zo 3 [.ref ma, .ref ml, .ref ms, .int (nI h), .int an, .ref mp, .int (nI (P.length)), .ref mt]), (ma, zi E 3 ar1), (ml, zi E 4 lo), (ms, zi E 8 st), (mp, zo 4 [.ref mpk, .ref mpv, .int (nI (rwN 600 n P))]), (mpk, zi E 600 (rwK 600 n f P)), (mpv, zi E 600 (rwV 600 n g P)), (mt, zi E 4 (zn stp)), (p, zo 5 [.int (nI kd), .ref po, .ref pn, .int (nI len)]), (po, zi E 64 op), (pn, zi E 64 nn)] (by decide) rfl ?_
          refine z_if_eqP 147 156 C0 dX3_call_144 rfl (by decide) (fun k144 => absurd k144 (by omega)) (fun k144 => ?_)
          refine z_aload_n 148 C0 0 dX3_call_147 rfl rfl rfl ?_
          refine z_iload 150 C0 4 dX3_call_148 rfl rfl ?_
          refine z_callVv 153 C0 [0, 3] [1, 2, 4, 5, 6, 7, 8, 9, 10] [(ma, zi E 3 ar1), (ml, zi E 4 lo), (mp, zo 4 [.ref mpk, .ref mpv, .int (nI (rwN 600 n P))]), (mpk, zi E 600 (rwK 600 n f P)), (mpv, zi E 600 (rwV 600 n g P)), (mt, zi E 4 (zn stp)), (p, zo 5 [.int (nI kd), .ref po, .ref pn, .int (nI len)]), (po, zi E 64 op), (pn, zi E 64 nn)] 0 0 (As := [.int (nI 7)]) (T := TX3) (N := 8) (C := RX3) (ci := 3) (n := 1) 0 (combine l_ E m ma ml ms mp mt h an (P.length) st 7 (by omega) (by omega) (by omega) (by omega)) (zGIV (fun _ => zTs_in) wk_364 wk_361 wk_362 wk_363 wk_18) rfl ⟨rfl, by decide, by decide, by decide +kernel⟩ rfl rfl rfl rfl (by decide) rfl rfl (Nat.le_of_ble_eq_true rfl) ⟨by decide, by decide⟩ rfl rfl ⟨by decide, by decide⟩ ⟨by decide, by decide⟩ dX3_call_150 rfl (fun w150 hB150 => ?_)
          obtain rfl := hB150
          refine z_perm [9, 0, 1, 10, 2, 3, 4, 5, 6, 7, 8] [(m, zo 3 [.ref ma, .ref ml, .ref ms, .int (nI (h - 1)), .int an, .ref mp, .int (nI (P.length)), .ref mt]), (ma, zi E 3 ar1), (ml, zi E 4 lo), (ms, zi E 8 (upd st (h - 2) (cmb 7 (st (h - 2)) (st (h - 1))))), (mp, zo 4 [.ref mpk, .ref mpv, .int (nI (rwN 600 n P))]), (mpk, zi E 600 (rwK 600 n f P)), (mpv, zi E 600 (rwV 600 n g P)), (mt, zi E 4 (zn stp)), (p, zo 5 [.int (nI kd), .ref po, .ref pn, .int (nI len)]), (po, zi E 64 op), (pn, zi E 64 nn)] (by decide) rfl ?_
          refine z_goto 164 C0 dX3_call_153 (by decide) ?_
          refine z_iinc 167 C0 2 [1, 2, 0, 3, 4, 5] [(0, .ref m), (1, .ref p), (5, .int (nI (i + 1))), (6, .int (nI (k + 1))), (7, .int (nI 7)), (8, .int (nn i))] (v := (nI (i + 1))) dX3_call_164 rfl rfl (z_incN _ _) (by decide) rfl ?_
          refine z_iinc 170 C0 3 [1, 2, 3, 0, 4, 5] [(0, .ref m), (1, .ref p), (5, .int (nI (i + 1))), (6, .int (nI (k + 2))), (7, .int (nI 7)), (8, .int (nn i))] (v := (nI (k + 2))) dX3_call_167 rfl rfl ((z_incN (k + 1) 1).trans (congrArg nI (by omega))) (by decide) rfl ?_
          refine z_goto 14 C0 dX3_call_170 (by decide) ?_
          refine z_loc [0, 1, 2, 3] [(0, .ref m), (1, .ref p), (5, .int (nI (i + 1))), (6, .int (nI (k + 2)))] rfl ?_
          exact ih14 (k + 1) fu (i + 1) (h - 1) lo (upd st (h - 2) (cmb 7 (st (h - 2)) (st (h - 1)))) P (by omega) (hR.next ho ⟨by decide, by decide, by decide⟩) hP ((mRun_step hop (by decide) (by decide) (by decide) (fun q => absurd q.1 (by decide)) hcl).symm.trans hM) (by omega)
        · skip
          have hnd : 2 ≤ h := by have := ho.2.2.1; simpa [pNeed, nNeed] using this
          have hup : h + 0 - 1 ≤ 8 := ho.2.2.2
          have hcl : (nn i).toNatClampNeg = (nn i).toNatClampNeg := rfl
          refine z_aload_n 32 C0 1 dX3_call_31 rfl rfl rfl ?_
          refine z_get 35 C0 8 1 wz_5 rfl (by decide) (zTs_in wk_71) dX3_call_32 rfl rfl rfl ?_
          refine z_iload 37 C0 2 dX3_call_35 rfl rfl ?_
          refine z_ialdN 38 C0 9 (v := (nI 8)) dX3_call_37 rfl rfl (by omega) (by decide) hop ?_
          refine z_istore 40 C0 [1, 2, 3, 4, 0] [(0, .ref m), (1, .ref p), (5, .int (nI i)), (6, .int (nI (k + 1))), (7, .int (nI 8))] dX3_call_38 rfl (by decide) rfl ?_
          refine z_aload_n 41 C0 1 dX3_call_40 rfl rfl rfl ?_
          refine z_get 44 C0 8 2 wz_5 rfl (by decide) (zTs_in wk_74) dX3_call_41 rfl rfl rfl ?_
          refine z_iload 46 C0 2 dX3_call_44 rfl rfl ?_
          refine z_ialdN 47 C0 10 (v := (nn i)) dX3_call_46 rfl rfl (by omega) (by decide) rfl ?_
          refine z_istore 49 C0 [1, 2, 3, 4, 5, 0] [(0, .ref m), (1, .ref p), (5, .int (nI i)), (6, .int (nI (k + 1))), (7, .int (nI 8)), (8, .int (nn i))] dX3_call_47 rfl (by decide) rfl ?_
          refine z_iload 51 C0 4 dX3_call_49 rfl rfl ?_
          refine z_bipush 53 C0 (v := (nI 17)) dX3_call_51 rfl rfl ?_
          refine z_icmp_eqN 56 63 C0 (by decide) (by decide) dX3_call_53 rfl (by decide) (fun k53 => absurd k53 (by omega)) (fun k53 => ?_)
          refine z_iload 58 C0 4 dX3_call_56 rfl rfl ?_
          refine z_bipush 60 C0 (v := (nI 18)) dX3_call_58 rfl rfl ?_
          refine z_icmp_neN 63 98 C0 (by decide) (by decide) dX3_call_60 rfl (by decide) (fun k60 => ?_) (fun k60 => absurd k60 (by omega))
          refine z_iload 100 C0 4 dX3_call_98 rfl rfl ?_
          refine z_bipush 102 C0 (v := (nI 16)) dX3_call_100 rfl rfl ?_
          refine z_icmp_neN 105 116 C0 (by decide) (by decide) dX3_call_102 rfl (by decide) (fun k102 => ?_) (fun k102 => absurd k102 (by omega))
          refine z_iload 118 C0 4 dX3_call_116 rfl rfl ?_
          refine z_callSNi 121 C0 [] [0, 1, 2, 3, 4, 5, 6, 7, 8, 9, 10] [(m, zo 3 [.ref ma, .ref ml, .ref ms, .int (nI h), .int an, .ref mp, .int (nI (P.length)), .ref mt]), (ma, zi E 3 ar1), (ml, zi E 4 lo), (ms, zi E 8 st), (mp, zo 4 [.ref mpk, .ref mpv, .int (nI (rwN 600 n P))]), (mpk, zi E 600 (rwK 600 n f P)), (mpv, zi E 600 (rwV 600 n g P)), (mt, zi E 4 (zn stp)), (p, zo 5 [.int (nI kd), .ref po, .ref pn, .int (nI len)]), (po, zi E 64 op), (pn, zi E 64 nn)] 0 0 (As := [.int (nI 8)]) (n := 1) (isJump l_ E 8 (by omega)) (zTs_good (fun _ => zTs_in) wk_276) rfl C0.2.2.2.2.2.2.2.2.2.1.1.2.2.2.2.1 (zTs_in wk_12) (zTs_in wk_275) ⟨by decide, by decide, by decide +kernel⟩ rfl rfl (by decide) rfl rfl (Nat.le_of_ble_eq_true rfl) ⟨by decide, by decide⟩ rfl rfl ⟨by decide, by decide⟩ ⟨by decide, by decide⟩ dX3_call_118 rfl (fun r118 w118 hB118 => ?_)
          obtain ⟨rfl, rfl⟩ := hB118
          refine z_perm [0, 1, 2, 3, 4, 5, 6, 7, 8, 9, 10] [(m, zo 3 [.ref ma, .ref ml, .ref ms, .int (nI h), .int an, .ref mp, .int (nI (P.length)), .ref mt]), (ma, zi E 3 ar1), (ml, zi E 4 lo), (ms, zi E 8 st), (mp, zo 4 [.ref mpk, .ref mpv, .int (nI (rwN 600 n P))]), (mpk, zi E 600 (rwK 600 n f P)), (mpv, zi E 600 (rwV 600 n g P)), (mt, zi E 4 (zn stp)), (p, zo 5 [.int (nI kd), .ref po, .ref pn, .int (nI len)]), (po, zi E 64 op), (pn, zi E 64 nn)] (by decide) rfl ?_
          refine z_if_eqP 124 139 C0 dX3_call_121 rfl (by decide) (fun k121 => ?_) (fun k121 => absurd k121 (by omega))
          refine z_iload 141 C0 4 dX3_call_139 rfl rfl ?_
          refine z_callSNi 144 C0 [] [0, 1, 2, 3, 4, 5, 6, 7, 8, 9, 10] [(m, zo 3 [.ref ma, .ref ml, .ref ms, .int (nI h), .int an, .ref mp, .int (nI (P.length)), .ref mt]), (ma, zi E 3 ar1), (ml, zi E 4 lo), (ms, zi E 8 st), (mp, zo 4 [.ref mpk, .ref mpv, .int (nI (rwN 600 n P))]), (mpk, zi E 600 (rwK 600 n f P)), (mpv, zi E 600 (rwV 600 n g P)), (mt, zi E 4 (zn stp)), (p, zo 5 [.int (nI kd), .ref po, .ref pn, .int (nI len)]), (po, zi E 64 op), (pn, zi E 64 nn)] 0 0 (As := [.int (nI 8)]) (n := 1) (isComb l_ E 8 (by omega)) (zTs_good (fun _ => zTs_in) wk_360) rfl C0.2.2.2.2.2.2.2.2.2.1.1.2.2.2.2.2 (zTs_in wk_12) (zTs_in wk_359) ⟨by decide, by decide, by decide +kernel⟩ rfl rfl (by decide) rfl rfl (Nat.le_of_ble_eq_true rfl) ⟨by decide, by decide⟩ rfl rfl ⟨by decide, by decide⟩ ⟨by decide, by decide⟩ dX3_call_141 rfl (fun r141 w141 hB141 => ?_)
          obtain ⟨rfl, rfl⟩ := hB141
          refine z_perm [0, 1, 2, 3, 4, 5, 6, 7, 8, 9, 10] [(m, zo 3 [.ref ma, .ref ml, .ref ms, .int (nI h), .int an, .ref mp, .int (nI (P.length)), .ref mt]), (ma, zi E 3 ar1), (ml, zi E 4 lo), (ms, zi E 8 st), (mp, zo 4 [.ref mpk, .ref mpv, .int (nI (rwN 600 n P))]), (mpk, zi E 600 (rwK 600 n f P)), (mpv, zi E 600 (rwV 600 n g P)), (mt, zi E 4 (zn stp)), (p, zo 5 [.int (nI kd), .ref po, .ref pn, .int (nI len)]), (po, zi E 64 op), (pn, zi E 64 nn)] (by decide) rfl ?_
          refine z_if_eqP 147 156 C0 dX3_call_144 rfl (by decide) (fun k144 => absurd k144 (by omega)) (fun k144 => ?_)
          refine z_aload_n 148 C0 0 dX3_call_147 rfl rfl rfl ?_
          refine z_iload 150 C0 4 dX3_call_148 rfl rfl ?_
          refine z_callVv 153 C0 [0, 3] [1, 2, 4, 5, 6, 7, 8, 9, 10] [(ma, zi E 3 ar1), (ml, zi E 4 lo), (mp, zo 4 [.ref mpk, .ref mpv, .int (nI (rwN 600 n P))]), (mpk, zi E 600 (rwK 600 n f P)), (mpv, zi E 600 (rwV 600 n g P)), (mt, zi E 4 (zn stp)), (p, zo 5 [.int (nI kd), .ref po, .ref pn, .int (nI len)]), (po, zi E 64 op), (pn, zi E 64 nn)] 0 0 (As := [.int (nI 8)]) (T := TX3) (N := 8) (C := RX3) (ci := 3) (n := 1) 0 (combine l_ E m ma ml ms mp mt h an (P.length) st 8 (by omega) (by omega) (by omega) (by omega)) (zGIV (fun _ => zTs_in) wk_364 wk_361 wk_362 wk_363 wk_18) rfl ⟨rfl, by decide, by decide, by decide +kernel⟩ rfl rfl rfl rfl (by decide) rfl rfl (Nat.le_of_ble_eq_true rfl) ⟨by decide, by decide⟩ rfl rfl ⟨by decide, by decide⟩ ⟨by decide, by decide⟩ dX3_call_150 rfl (fun w150 hB150 => ?_)
          obtain rfl := hB150
          refine z_perm [9, 0, 1, 10, 2, 3, 4, 5, 6, 7, 8] [(m, zo 3 [.ref ma, .ref ml, .ref ms, .int (nI (h - 1)), .int an, .ref mp, .int (nI (P.length)), .ref mt]), (ma, zi E 3 ar1), (ml, zi E 4 lo), (ms, zi E 8 (upd st (h - 2) (cmb 8 (st (h - 2)) (st (h - 1))))), (mp, zo 4 [.ref mpk, .ref mpv, .int (nI (rwN 600 n P))]), (mpk, zi E 600 (rwK 600 n f P)), (mpv, zi E 600 (rwV 600 n g P)), (mt, zi E 4 (zn stp)), (p, zo 5 [.int (nI kd), .ref po, .ref pn, .int (nI len)]), (po, zi E 64 op), (pn, zi E 64 nn)] (by decide) rfl ?_
          refine z_goto 164 C0 dX3_call_153 (by decide) ?_
          refine z_iinc 167 C0 2 [1, 2, 0, 3, 4, 5] [(0, .ref m), (1, .ref p), (5, .int (nI (i + 1))), (6, .int (nI (k + 1))), (7, .int (nI 8)), (8, .int (nn i))] (v := (nI (i + 1))) dX3_call_164 rfl rfl (z_incN _ _) (by decide) rfl ?_
          refine z_iinc 170 C0 3 [1, 2, 3, 0, 4, 5] [(0, .ref m), (1, .ref p), (5, .int (nI (i + 1))), (6, .int (nI (k + 2))), (7, .int (nI 8)), (8, .int (nn i))] (v := (nI (k + 2))) dX3_call_167 rfl rfl ((z_incN (k + 1) 1).trans (congrArg nI (by omega))) (by decide) rfl ?_
          refine z_goto 14 C0 dX3_call_170 (by decide) ?_
          refine z_loc [0, 1, 2, 3] [(0, .ref m), (1, .ref p), (5, .int (nI (i + 1))), (6, .int (nI (k + 2)))] rfl ?_
          exact ih14 (k + 1) fu (i + 1) (h - 1) lo (upd st (h - 2) (cmb 8 (st (h - 2)) (st (h - 1)))) P (by omega) (hR.next ho ⟨by decide, by decide, by decide⟩) hP ((mRun_step hop (by decide) (by decide) (by decide) (fun q => absurd q.1 (by decide)) hcl).symm.trans hM) (by omega)
        · skip
          have hnd : 2 ≤ h := by have := ho.2.2.1; simpa [pNeed, nNeed] using this
          have hup : h + 0 - 1 ≤ 8 := ho.2.2.2
          have hcl : (nn i).toNatClampNeg = (nn i).toNatClampNeg := rfl
          refine z_aload_n 32 C0 1 dX3_call_31 rfl rfl rfl ?_
          refine z_get 35 C0 8 1 wz_5 rfl (by decide) (zTs_in wk_71) dX3_call_32 rfl rfl rfl ?_
          refine z_iload 37 C0 2 dX3_call_35 rfl rfl ?_
          refine z_ialdN 38 C0 9 (v := (nI 9)) dX3_call_37 rfl rfl (by omega) (by decide) hop ?_
          refine z_istore 40 C0 [1, 2, 3, 4, 0] [(0, .ref m), (1, .ref p), (5, .int (nI i)), (6, .int (nI (k + 1))), (7, .int (nI 9))] dX3_call_38 rfl (by decide) rfl ?_
          refine z_aload_n 41 C0 1 dX3_call_40 rfl rfl rfl ?_
          refine z_get 44 C0 8 2 wz_5 rfl (by decide) (zTs_in wk_74) dX3_call_41 rfl rfl rfl ?_
          refine z_iload 46 C0 2 dX3_call_44 rfl rfl ?_
          refine z_ialdN 47 C0 10 (v := (nn i)) dX3_call_46 rfl rfl (by omega) (by decide) rfl ?_
          refine z_istore 49 C0 [1, 2, 3, 4, 5, 0] [(0, .ref m), (1, .ref p), (5, .int (nI i)), (6, .int (nI (k + 1))), (7, .int (nI 9)), (8, .int (nn i))] dX3_call_47 rfl (by decide) rfl ?_
          refine z_iload 51 C0 4 dX3_call_49 rfl rfl ?_
          refine z_bipush 53 C0 (v := (nI 17)) dX3_call_51 rfl rfl ?_
          refine z_icmp_eqN 56 63 C0 (by decide) (by decide) dX3_call_53 rfl (by decide) (fun k53 => absurd k53 (by omega)) (fun k53 => ?_)
          refine z_iload 58 C0 4 dX3_call_56 rfl rfl ?_
          refine z_bipush 60 C0 (v := (nI 18)) dX3_call_58 rfl rfl ?_
          refine z_icmp_neN 63 98 C0 (by decide) (by decide) dX3_call_60 rfl (by decide) (fun k60 => ?_) (fun k60 => absurd k60 (by omega))
          refine z_iload 100 C0 4 dX3_call_98 rfl rfl ?_
          refine z_bipush 102 C0 (v := (nI 16)) dX3_call_100 rfl rfl ?_
          refine z_icmp_neN 105 116 C0 (by decide) (by decide) dX3_call_102 rfl (by decide) (fun k102 => ?_) (fun k102 => absurd k102 (by omega))
          refine z_iload 118 C0 4 dX3_call_116 rfl rfl ?_
          refine z_callSNi 121 C0 [] [0, 1, 2, 3, 4, 5, 6, 7, 8, 9, 10] [(m, zo 3 [.ref ma, .ref ml, .ref ms, .int (nI h), .int an, .ref mp, .int (nI (P.length)), .ref mt]), (ma, zi E 3 ar1), (ml, zi E 4 lo), (ms, zi E 8 st), (mp, zo 4 [.ref mpk, .ref mpv, .int (nI (rwN 600 n P))]), (mpk, zi E 600 (rwK 600 n f P)), (mpv, zi E 600 (rwV 600 n g P)), (mt, zi E 4 (zn stp)), (p, zo 5 [.int (nI kd), .ref po, .ref pn, .int (nI len)]), (po, zi E 64 op), (pn, zi E 64 nn)] 0 0 (As := [.int (nI 9)]) (n := 1) (isJump l_ E 9 (by omega)) (zTs_good (fun _ => zTs_in) wk_276) rfl C0.2.2.2.2.2.2.2.2.2.1.1.2.2.2.2.1 (zTs_in wk_12) (zTs_in wk_275) ⟨by decide, by decide, by decide +kernel⟩ rfl rfl (by decide) rfl rfl (Nat.le_of_ble_eq_true rfl) ⟨by decide, by decide⟩ rfl rfl ⟨by decide, by decide⟩ ⟨by decide, by decide⟩ dX3_call_118 rfl (fun r118 w118 hB118 => ?_)
          obtain ⟨rfl, rfl⟩ := hB118
          refine z_perm [0, 1, 2, 3, 4, 5, 6, 7, 8, 9, 10] [(m, zo 3 [.ref ma, .ref ml, .ref ms, .int (nI h), .int an, .ref mp, .int (nI (P.length)), .ref mt]), (ma, zi E 3 ar1), (ml, zi E 4 lo), (ms, zi E 8 st), (mp, zo 4 [.ref mpk, .ref mpv, .int (nI (rwN 600 n P))]), (mpk, zi E 600 (rwK 600 n f P)), (mpv, zi E 600 (rwV 600 n g P)), (mt, zi E 4 (zn stp)), (p, zo 5 [.int (nI kd), .ref po, .ref pn, .int (nI len)]), (po, zi E 64 op), (pn, zi E 64 nn)] (by decide) rfl ?_
          refine z_if_eqP 124 139 C0 dX3_call_121 rfl (by decide) (fun k121 => ?_) (fun k121 => absurd k121 (by omega))
          refine z_iload 141 C0 4 dX3_call_139 rfl rfl ?_
          refine z_callSNi 144 C0 [] [0, 1, 2, 3, 4, 5, 6, 7, 8, 9, 10] [(m, zo 3 [.ref ma, .ref ml, .ref ms, .int (nI h), .int an, .ref mp, .int (nI (P.length)), .ref mt]), (ma, zi E 3 ar1), (ml, zi E 4 lo), (ms, zi E 8 st), (mp, zo 4 [.ref mpk, .ref mpv, .int (nI (rwN 600 n P))]), (mpk, zi E 600 (rwK 600 n f P)), (mpv, zi E 600 (rwV 600 n g P)), (mt, zi E 4 (zn stp)), (p, zo 5 [.int (nI kd), .ref po, .ref pn, .int (nI len)]), (po, zi E 64 op), (pn, zi E 64 nn)] 0 0 (As := [.int (nI 9)]) (n := 1) (isComb l_ E 9 (by omega)) (zTs_good (fun _ => zTs_in) wk_360) rfl C0.2.2.2.2.2.2.2.2.2.1.1.2.2.2.2.2 (zTs_in wk_12) (zTs_in wk_359) ⟨by decide, by decide, by decide +kernel⟩ rfl rfl (by decide) rfl rfl (Nat.le_of_ble_eq_true rfl) ⟨by decide, by decide⟩ rfl rfl ⟨by decide, by decide⟩ ⟨by decide, by decide⟩ dX3_call_141 rfl (fun r141 w141 hB141 => ?_)
          obtain ⟨rfl, rfl⟩ := hB141
          refine z_perm [0, 1, 2, 3, 4, 5, 6, 7, 8, 9, 10] [(m, zo 3 [.ref ma, .ref ml, .ref ms, .int (nI h), .int an, .ref mp, .int (nI (P.length)), .ref mt]), (ma, zi E 3 ar1), (ml, zi E 4 lo), (ms, zi E 8 st), (mp, zo 4 [.ref mpk, .ref mpv, .int (nI (rwN 600 n P))]), (mpk, zi E 600 (rwK 600 n f P)), (mpv, zi E 600 (rwV 600 n g P)), (mt, zi E 4 (zn stp)), (p, zo 5 [.int (nI kd), .ref po, .ref pn, .int (nI len)]), (po, zi E 64 op), (pn, zi E 64 nn)] (by decide) rfl ?_
          refine z_if_eqP 147 156 C0 dX3_call_144 rfl (by decide) (fun k144 => absurd k144 (by omega)) (fun k144 => ?_)
          refine z_aload_n 148 C0 0 dX3_call_147 rfl rfl rfl ?_
          refine z_iload 150 C0 4 dX3_call_148 rfl rfl ?_
          refine z_callVv 153 C0 [0, 3] [1, 2, 4, 5, 6, 7, 8, 9, 10] [(ma, zi E 3 ar1), (ml, zi E 4 lo), (mp, zo 4 [.ref mpk, .ref mpv, .int (nI (rwN 600 n P))]), (mpk, zi E 600 (rwK 600 n f P)), (mpv, zi E 600 (rwV 600 n g P)), (mt, zi E 4 (zn stp)), (p, zo 5 [.int (nI kd), .ref po, .ref pn, .int (nI len)]), (po, zi E 64 op), (pn, zi E 64 nn)] 0 0 (As := [.int (nI 9)]) (T := TX3) (N := 8) (C := RX3) (ci := 3) (n := 1) 0 (combine l_ E m ma ml ms mp mt h an (P.length) st 9 (by omega) (by omega) (by omega) (by omega)) (zGIV (fun _ => zTs_in) wk_364 wk_361 wk_362 wk_363 wk_18) rfl ⟨rfl, by decide, by decide, by decide +kernel⟩ rfl rfl rfl rfl (by decide) rfl rfl (Nat.le_of_ble_eq_true rfl) ⟨by decide, by decide⟩ rfl rfl ⟨by decide, by decide⟩ ⟨by decide, by decide⟩ dX3_call_150 rfl (fun w150 hB150 => ?_)
          obtain rfl := hB150
          refine z_perm [9, 0, 1, 10, 2, 3, 4, 5, 6, 7, 8] [(m, zo 3 [.ref ma, .ref ml, .ref ms, .int (nI (h - 1)), .int an, .ref mp, .int (nI (P.length)), .ref mt]), (ma, zi E 3 ar1), (ml, zi E 4 lo), (ms, zi E 8 (upd st (h - 2) (cmb 9 (st (h - 2)) (st (h - 1))))), (mp, zo 4 [.ref mpk, .ref mpv, .int (nI (rwN 600 n P))]), (mpk, zi E 600 (rwK 600 n f P)), (mpv, zi E 600 (rwV 600 n g P)), (mt, zi E 4 (zn stp)), (p, zo 5 [.int (nI kd), .ref po, .ref pn, .int (nI len)]), (po, zi E 64 op), (pn, zi E 64 nn)] (by decide) rfl ?_
          refine z_goto 164 C0 dX3_call_153 (by decide) ?_
          refine z_iinc 167 C0 2 [1, 2, 0, 3, 4, 5] [(0, .ref m), (1, .ref p), (5, .int (nI (i + 1))), (6, .int (nI (k + 1))), (7, .int (nI 9)), (8, .int (nn i))] (v := (nI (i + 1))) dX3_call_164 rfl rfl (z_incN _ _) (by decide) rfl ?_
          refine z_iinc 170 C0 3 [1, 2, 3, 0, 4, 5] [(0, .ref m), (1, .ref p), (5, .int (nI (i + 1))), (6, .int (nI (k + 2))), (7, .int (nI 9)), (8, .int (nn i))] (v := (nI (k + 2))) dX3_call_167 rfl rfl ((z_incN (k + 1) 1).trans (congrArg nI (by omega))) (by decide) rfl ?_
          refine z_goto 14 C0 dX3_call_170 (by decide) ?_
          refine z_loc [0, 1, 2, 3] [(0, .ref m), (1, .ref p), (5, .int (nI (i + 1))), (6, .int (nI (k + 2)))] rfl ?_
          exact ih14 (k + 1) fu (i + 1) (h - 1) lo (upd st (h - 2) (cmb 9 (st (h - 2)) (st (h - 1)))) P (by omega) (hR.next ho ⟨by decide, by decide, by decide⟩) hP ((mRun_step hop (by decide) (by decide) (by decide) (fun q => absurd q.1 (by decide)) hcl).symm.trans hM) (by omega)
        · skip
          have hnd : 2 ≤ h := by have := ho.2.2.1; simpa [pNeed, nNeed] using this
          have hup : h + 0 - 1 ≤ 8 := ho.2.2.2
          have hcl : (nn i).toNatClampNeg = (nn i).toNatClampNeg := rfl
          refine z_aload_n 32 C0 1 dX3_call_31 rfl rfl rfl ?_
          refine z_get 35 C0 8 1 wz_5 rfl (by decide) (zTs_in wk_71) dX3_call_32 rfl rfl rfl ?_
          refine z_iload 37 C0 2 dX3_call_35 rfl rfl ?_
          refine z_ialdN 38 C0 9 (v := (nI 10)) dX3_call_37 rfl rfl (by omega) (by decide) hop ?_
          refine z_istore 40 C0 [1, 2, 3, 4, 0] [(0, .ref m), (1, .ref p), (5, .int (nI i)), (6, .int (nI (k + 1))), (7, .int (nI 10))] dX3_call_38 rfl (by decide) rfl ?_
          refine z_aload_n 41 C0 1 dX3_call_40 rfl rfl rfl ?_
          refine z_get 44 C0 8 2 wz_5 rfl (by decide) (zTs_in wk_74) dX3_call_41 rfl rfl rfl ?_
          refine z_iload 46 C0 2 dX3_call_44 rfl rfl ?_
          refine z_ialdN 47 C0 10 (v := (nn i)) dX3_call_46 rfl rfl (by omega) (by decide) rfl ?_
          refine z_istore 49 C0 [1, 2, 3, 4, 5, 0] [(0, .ref m), (1, .ref p), (5, .int (nI i)), (6, .int (nI (k + 1))), (7, .int (nI 10)), (8, .int (nn i))] dX3_call_47 rfl (by decide) rfl ?_
          refine z_iload 51 C0 4 dX3_call_49 rfl rfl ?_
          refine z_bipush 53 C0 (v := (nI 17)) dX3_call_51 rfl rfl ?_
          refine z_icmp_eqN 56 63 C0 (by decide) (by decide) dX3_call_53 rfl (by decide) (fun k53 => absurd k53 (by omega)) (fun k53 => ?_)
          refine z_iload 58 C0 4 dX3_call_56 rfl rfl ?_
          refine z_bipush 60 C0 (v := (nI 18)) dX3_call_58 rfl rfl ?_
          refine z_icmp_neN 63 98 C0 (by decide) (by decide) dX3_call_60 rfl (by decide) (fun k60 => ?_) (fun k60 => absurd k60 (by omega))
          refine z_iload 100 C0 4 dX3_call_98 rfl rfl ?_
          refine z_bipush 102 C0 (v := (nI 16)) dX3_call_100 rfl rfl ?_
          refine z_icmp_neN 105 116 C0 (by decide) (by decide) dX3_call_102 rfl (by decide) (fun k102 => ?_) (fun k102 => absurd k102 (by omega))
          refine z_iload 118 C0 4 dX3_call_116 rfl rfl ?_
          refine z_callSNi 121 C0 [] [0, 1, 2, 3, 4, 5, 6, 7, 8, 9, 10] [(m, zo 3 [.ref ma, .ref ml, .ref ms, .int (nI h), .int an, .ref mp, .int (nI (P.length)), .ref mt]), (ma, zi E 3 ar1), (ml, zi E 4 lo), (ms, zi E 8 st), (mp, zo 4 [.ref mpk, .ref mpv, .int (nI (rwN 600 n P))]), (mpk, zi E 600 (rwK 600 n f P)), (mpv, zi E 600 (rwV 600 n g P)), (mt, zi E 4 (zn stp)), (p, zo 5 [.int (nI kd), .ref po, .ref pn, .int (nI len)]), (po, zi E 64 op), (pn, zi E 64 nn)] 0 0 (As := [.int (nI 10)]) (n := 1) (isJump l_ E 10 (by omega)) (zTs_good (fun _ => zTs_in) wk_276) rfl C0.2.2.2.2.2.2.2.2.2.1.1.2.2.2.2.1 (zTs_in wk_12) (zTs_in wk_275) ⟨by decide, by decide, by decide +kernel⟩ rfl rfl (by decide) rfl rfl (Nat.le_of_ble_eq_true rfl) ⟨by decide, by decide⟩ rfl rfl ⟨by decide, by decide⟩ ⟨by decide, by decide⟩ dX3_call_118 rfl (fun r118 w118 hB118 => ?_)
          obtain ⟨rfl, rfl⟩ := hB118
          refine z_perm [0, 1, 2, 3, 4, 5, 6, 7, 8, 9, 10] [(m, zo 3 [.ref ma, .ref ml, .ref ms, .int (nI h), .int an, .ref mp, .int (nI (P.length)), .ref mt]), (ma, zi E 3 ar1), (ml, zi E 4 lo), (ms, zi E 8 st), (mp, zo 4 [.ref mpk, .ref mpv, .int (nI (rwN 600 n P))]), (mpk, zi E 600 (rwK 600 n f P)), (mpv, zi E 600 (rwV 600 n g P)), (mt, zi E 4 (zn stp)), (p, zo 5 [.int (nI kd), .ref po, .ref pn, .int (nI len)]), (po, zi E 64 op), (pn, zi E 64 nn)] (by decide) rfl ?_
          refine z_if_eqP 124 139 C0 dX3_call_121 rfl (by decide) (fun k121 => ?_) (fun k121 => absurd k121 (by omega))
          refine z_iload 141 C0 4 dX3_call_139 rfl rfl ?_
          refine z_callSNi 144 C0 [] [0, 1, 2, 3, 4, 5, 6, 7, 8, 9, 10] [(m, zo 3 [.ref ma, .ref ml, .ref ms, .int (nI h), .int an, .ref mp, .int (nI (P.length)), .ref mt]), (ma, zi E 3 ar1), (ml, zi E 4 lo), (ms, zi E 8 st), (mp, zo 4 [.ref mpk, .ref mpv, .int (nI (rwN 600 n P))]), (mpk, zi E 600 (rwK 600 n f P)), (mpv, zi E 600 (rwV 600 n g P)), (mt, zi E 4 (zn stp)), (p, zo 5 [.int (nI kd), .ref po, .ref pn, .int (nI len)]), (po, zi E 64 op), (pn, zi E 64 nn)] 0 0 (As := [.int (nI 10)]) (n := 1) (isComb l_ E 10 (by omega)) (zTs_good (fun _ => zTs_in) wk_360) rfl C0.2.2.2.2.2.2.2.2.2.1.1.2.2.2.2.2 (zTs_in wk_12) (zTs_in wk_359) ⟨by decide, by decide, by decide +kernel⟩ rfl rfl (by decide) rfl rfl (Nat.le_of_ble_eq_true rfl) ⟨by decide, by decide⟩ rfl rfl ⟨by decide, by decide⟩ ⟨by decide, by decide⟩ dX3_call_141 rfl (fun r141 w141 hB141 => ?_)
          obtain ⟨rfl, rfl⟩ := hB141
          refine z_perm [0, 1, 2, 3, 4, 5, 6, 7, 8, 9, 10] [(m, zo 3 [.ref ma, .ref ml, .ref ms, .int (nI h), .int an, .ref mp, .int (nI (P.length)), .ref mt]), (ma, zi E 3 ar1), (ml, zi E 4 lo), (ms, zi E 8 st), (mp, zo 4 [.ref mpk, .ref mpv, .int (nI (rwN 600 n P))]), (mpk, zi E 600 (rwK 600 n f P)), (mpv, zi E 600 (rwV 600 n g P)), (mt, zi E 4 (zn stp)), (p, zo 5 [.int (nI kd), .ref po, .ref pn, .int (nI len)]), (po, zi E 64 op), (pn, zi E 64 nn)] (by decide) rfl ?_
          refine z_if_eqP 147 156 C0 dX3_call_144 rfl (by decide) (fun k144 => absurd k144 (by omega)) (fun k144 => ?_)
          refine z_aload_n 148 C0 0 dX3_call_147 rfl rfl rfl ?_
          refine z_iload 150 C0 4 dX3_call_148 rfl rfl ?_
          refine z_callVv 153 C0 [0, 3] [1, 2, 4, 5, 6, 7, 8, 9, 10] [(ma, zi E 3 ar1), (ml, zi E 4 lo), (mp, zo 4 [.ref mpk, .ref mpv, .int (nI (rwN 600 n P))]), (mpk, zi E 600 (rwK 600 n f P)), (mpv, zi E 600 (rwV 600 n g P)), (mt, zi E 4 (zn stp)), (p, zo 5 [.int (nI kd), .ref po, .ref pn, .int (nI len)]), (po, zi E 64 op), (pn, zi E 64 nn)] 0 0 (As := [.int (nI 10)]) (T := TX3) (N := 8) (C := RX3) (ci := 3) (n := 1) 0 (combine l_ E m ma ml ms mp mt h an (P.length) st 10 (by omega) (by omega) (by omega) (by omega)) (zGIV (fun _ => zTs_in) wk_364 wk_361 wk_362 wk_363 wk_18) rfl ⟨rfl, by decide, by decide, by decide +kernel⟩ rfl rfl rfl rfl (by decide) rfl rfl (Nat.le_of_ble_eq_true rfl) ⟨by decide, by decide⟩ rfl rfl ⟨by decide, by decide⟩ ⟨by decide, by decide⟩ dX3_call_150 rfl (fun w150 hB150 => ?_)
          obtain rfl := hB150
          refine z_perm [9, 0, 1, 10, 2, 3, 4, 5, 6, 7, 8] [(m, zo 3 [.ref ma, .ref ml, .ref ms, .int (nI (h - 1)), .int an, .ref mp, .int (nI (P.length)), .ref mt]), (ma, zi E 3 ar1), (ml, zi E 4 lo), (ms, zi E 8 (upd st (h - 2) (cmb 10 (st (h - 2)) (st (h - 1))))), (mp, zo 4 [.ref mpk, .ref mpv, .int (nI (rwN 600 n P))]), (mpk, zi E 600 (rwK 600 n f P)), (mpv, zi E 600 (rwV 600 n g P)), (mt, zi E 4 (zn stp)), (p, zo 5 [.int (nI kd), .ref po, .ref pn, .int (nI len)]), (po, zi E 64 op), (pn, zi E 64 nn)] (by decide) rfl ?_
          refine z_goto 164 C0 dX3_call_153 (by decide) ?_
          refine z_iinc 167 C0 2 [1, 2, 0, 3, 4, 5] [(0, .ref m), (1, .ref p), (5, .int (nI (i + 1))), (6, .int (nI (k + 1))), (7, .int (nI 10)), (8, .int (nn i))] (v := (nI (i + 1))) dX3_call_164 rfl rfl (z_incN _ _) (by decide) rfl ?_
          refine z_iinc 170 C0 3 [1, 2, 3, 0, 4, 5] [(0, .ref m), (1, .ref p), (5, .int (nI (i + 1))), (6, .int (nI (k + 2))), (7, .int (nI 10)), (8, .int (nn i))] (v := (nI (k + 2))) dX3_call_167 rfl rfl ((z_incN (k + 1) 1).trans (congrArg nI (by omega))) (by decide) rfl ?_
          refine z_goto 14 C0 dX3_call_170 (by decide) ?_
          refine z_loc [0, 1, 2, 3] [(0, .ref m), (1, .ref p), (5, .int (nI (i + 1))), (6, .int (nI (k + 2)))] rfl ?_
          exact ih14 (k + 1) fu (i + 1) (h - 1) lo (upd st (h - 2) (cmb 10 (st (h - 2)) (st (h - 1)))) P (by omega) (hR.next ho ⟨by decide, by decide, by decide⟩) hP ((mRun_step hop (by decide) (by decide) (by decide) (fun q => absurd q.1 (by decide)) hcl).symm.trans hM) (by omega)
        · skip
          have hnd : 2 ≤ h := by have := ho.2.2.1; simpa [pNeed, nNeed] using this
          have hup : h + 0 - 1 ≤ 8 := ho.2.2.2
          have hcl : (nn i).toNatClampNeg = (nn i).toNatClampNeg := rfl
          refine z_aload_n 32 C0 1 dX3_call_31 rfl rfl rfl ?_
          refine z_get 35 C0 8 1 wz_5 rfl (by decide) (zTs_in wk_71) dX3_call_32 rfl rfl rfl ?_
          refine z_iload 37 C0 2 dX3_call_35 rfl rfl ?_
          refine z_ialdN 38 C0 9 (v := (nI 11)) dX3_call_37 rfl rfl (by omega) (by decide) hop ?_
          refine z_istore 40 C0 [1, 2, 3, 4, 0] [(0, .ref m), (1, .ref p), (5, .int (nI i)), (6, .int (nI (k + 1))), (7, .int (nI 11))] dX3_call_38 rfl (by decide) rfl ?_
          refine z_aload_n 41 C0 1 dX3_call_40 rfl rfl rfl ?_
          refine z_get 44 C0 8 2 wz_5 rfl (by decide) (zTs_in wk_74) dX3_call_41 rfl rfl rfl ?_
          refine z_iload 46 C0 2 dX3_call_44 rfl rfl ?_
          refine z_ialdN 47 C0 10 (v := (nn i)) dX3_call_46 rfl rfl (by omega) (by decide) rfl ?_
          refine z_istore 49 C0 [1, 2, 3, 4, 5, 0] [(0, .ref m), (1, .ref p), (5, .int (nI i)), (6, .int (nI (k + 1))), (7, .int (nI 11)), (8, .int (nn i))] dX3_call_47 rfl (by decide) rfl ?_
          refine z_iload 51 C0 4 dX3_call_49 rfl rfl ?_
          refine z_bipush 53 C0 (v := (nI 17)) dX3_call_51 rfl rfl ?_
          refine z_icmp_eqN 56 63 C0 (by decide) (by decide) dX3_call_53 rfl (by decide) (fun k53 => absurd k53 (by omega)) (fun k53 => ?_)
          refine z_iload 58 C0 4 dX3_call_56 rfl rfl ?_
          refine z_bipush 60 C0 (v := (nI 18)) dX3_call_58 rfl rfl ?_
          refine z_icmp_neN 63 98 C0 (by decide) (by decide) dX3_call_60 rfl (by decide) (fun k60 => ?_) (fun k60 => absurd k60 (by omega))
          refine z_iload 100 C0 4 dX3_call_98 rfl rfl ?_
          refine z_bipush 102 C0 (v := (nI 16)) dX3_call_100 rfl rfl ?_
          refine z_icmp_neN 105 116 C0 (by decide) (by decide) dX3_call_102 rfl (by decide) (fun k102 => ?_) (fun k102 => absurd k102 (by omega))
          refine z_iload 118 C0 4 dX3_call_116 rfl rfl ?_
          refine z_callSNi 121 C0 [] [0, 1, 2, 3, 4, 5, 6, 7, 8, 9, 10] [(m, zo 3 [.ref ma, .ref ml, .ref ms, .int (nI h), .int an, .ref mp, .int (nI (P.length)), .ref mt]), (ma, zi E 3 ar1), (ml, zi E 4 lo), (ms, zi E 8 st), (mp, zo 4 [.ref mpk, .ref mpv, .int (nI (rwN 600 n P))]), (mpk, zi E 600 (rwK 600 n f P)), (mpv, zi E 600 (rwV 600 n g P)), (mt, zi E 4 (zn stp)), (p, zo 5 [.int (nI kd), .ref po, .ref pn, .int (nI len)]), (po, zi E 64 op), (pn, zi E 64 nn)] 0 0 (As := [.int (nI 11)]) (n := 1) (isJump l_ E 11 (by omega)) (zTs_good (fun _ => zTs_in) wk_276) rfl C0.2.2.2.2.2.2.2.2.2.1.1.2.2.2.2.1 (zTs_in wk_12) (zTs_in wk_275) ⟨by decide, by decide, by decide +kernel⟩ rfl rfl (by decide) rfl rfl (Nat.le_of_ble_eq_true rfl) ⟨by decide, by decide⟩ rfl rfl ⟨by decide, by decide⟩ ⟨by decide, by decide⟩ dX3_call_118 rfl (fun r118 w118 hB118 => ?_)
          obtain ⟨rfl, rfl⟩ := hB118
          refine z_perm [0, 1, 2, 3, 4, 5, 6, 7, 8, 9, 10] [(m, zo 3 [.ref ma, .ref ml, .ref ms, .int (nI h), .int an, .ref mp, .int (nI (P.length)), .ref mt]), (ma, zi E 3 ar1), (ml, zi E 4 lo), (ms, zi E 8 st), (mp, zo 4 [.ref mpk, .ref mpv, .int (nI (rwN 600 n P))]), (mpk, zi E 600 (rwK 600 n f P)), (mpv, zi E 600 (rwV 600 n g P)), (mt, zi E 4 (zn stp)), (p, zo 5 [.int (nI kd), .ref po, .ref pn, .int (nI len)]), (po, zi E 64 op), (pn, zi E 64 nn)] (by decide) rfl ?_
          refine z_if_eqP 124 139 C0 dX3_call_121 rfl (by decide) (fun k121 => ?_) (fun k121 => absurd k121 (by omega))
          refine z_iload 141 C0 4 dX3_call_139 rfl rfl ?_
          refine z_callSNi 144 C0 [] [0, 1, 2, 3, 4, 5, 6, 7, 8, 9, 10] [(m, zo 3 [.ref ma, .ref ml, .ref ms, .int (nI h), .int an, .ref mp, .int (nI (P.length)), .ref mt]), (ma, zi E 3 ar1), (ml, zi E 4 lo), (ms, zi E 8 st), (mp, zo 4 [.ref mpk, .ref mpv, .int (nI (rwN 600 n P))]), (mpk, zi E 600 (rwK 600 n f P)), (mpv, zi E 600 (rwV 600 n g P)), (mt, zi E 4 (zn stp)), (p, zo 5 [.int (nI kd), .ref po, .ref pn, .int (nI len)]), (po, zi E 64 op), (pn, zi E 64 nn)] 0 0 (As := [.int (nI 11)]) (n := 1) (isComb l_ E 11 (by omega)) (zTs_good (fun _ => zTs_in) wk_360) rfl C0.2.2.2.2.2.2.2.2.2.1.1.2.2.2.2.2 (zTs_in wk_12) (zTs_in wk_359) ⟨by decide, by decide, by decide +kernel⟩ rfl rfl (by decide) rfl rfl (Nat.le_of_ble_eq_true rfl) ⟨by decide, by decide⟩ rfl rfl ⟨by decide, by decide⟩ ⟨by decide, by decide⟩ dX3_call_141 rfl (fun r141 w141 hB141 => ?_)
          obtain ⟨rfl, rfl⟩ := hB141
          refine z_perm [0, 1, 2, 3, 4, 5, 6, 7, 8, 9, 10] [(m, zo 3 [.ref ma, .ref ml, .ref ms, .int (nI h), .int an, .ref mp, .int (nI (P.length)), .ref mt]), (ma, zi E 3 ar1), (ml, zi E 4 lo), (ms, zi E 8 st), (mp, zo 4 [.ref mpk, .ref mpv, .int (nI (rwN 600 n P))]), (mpk, zi E 600 (rwK 600 n f P)), (mpv, zi E 600 (rwV 600 n g P)), (mt, zi E 4 (zn stp)), (p, zo 5 [.int (nI kd), .ref po, .ref pn, .int (nI len)]), (po, zi E 64 op), (pn, zi E 64 nn)] (by decide) rfl ?_
          refine z_if_eqP 147 156 C0 dX3_call_144 rfl (by decide) (fun k144 => absurd k144 (by omega)) (fun k144 => ?_)
          refine z_aload_n 148 C0 0 dX3_call_147 rfl rfl rfl ?_
          refine z_iload 150 C0 4 dX3_call_148 rfl rfl ?_
          refine z_callVv 153 C0 [0, 3] [1, 2, 4, 5, 6, 7, 8, 9, 10] [(ma, zi E 3 ar1), (ml, zi E 4 lo), (mp, zo 4 [.ref mpk, .ref mpv, .int (nI (rwN 600 n P))]), (mpk, zi E 600 (rwK 600 n f P)), (mpv, zi E 600 (rwV 600 n g P)), (mt, zi E 4 (zn stp)), (p, zo 5 [.int (nI kd), .ref po, .ref pn, .int (nI len)]), (po, zi E 64 op), (pn, zi E 64 nn)] 0 0 (As := [.int (nI 11)]) (T := TX3) (N := 8) (C := RX3) (ci := 3) (n := 1) 0 (combine l_ E m ma ml ms mp mt h an (P.length) st 11 (by omega) (by omega) (by omega) (by omega)) (zGIV (fun _ => zTs_in) wk_364 wk_361 wk_362 wk_363 wk_18) rfl ⟨rfl, by decide, by decide, by decide +kernel⟩ rfl rfl rfl rfl (by decide) rfl rfl (Nat.le_of_ble_eq_true rfl) ⟨by decide, by decide⟩ rfl rfl ⟨by decide, by decide⟩ ⟨by decide, by decide⟩ dX3_call_150 rfl (fun w150 hB150 => ?_)
          obtain rfl := hB150
          refine z_perm [9, 0, 1, 10, 2, 3, 4, 5, 6, 7, 8] [(m, zo 3 [.ref ma, .ref ml, .ref ms, .int (nI (h - 1)), .int an, .ref mp, .int (nI (P.length)), .ref mt]), (ma, zi E 3 ar1), (ml, zi E 4 lo), (ms, zi E 8 (upd st (h - 2) (cmb 11 (st (h - 2)) (st (h - 1))))), (mp, zo 4 [.ref mpk, .ref mpv, .int (nI (rwN 600 n P))]), (mpk, zi E 600 (rwK 600 n f P)), (mpv, zi E 600 (rwV 600 n g P)), (mt, zi E 4 (zn stp)), (p, zo 5 [.int (nI kd), .ref po, .ref pn, .int (nI len)]), (po, zi E 64 op), (pn, zi E 64 nn)] (by decide) rfl ?_
          refine z_goto 164 C0 dX3_call_153 (by decide) ?_
          refine z_iinc 167 C0 2 [1, 2, 0, 3, 4, 5] [(0, .ref m), (1, .ref p), (5, .int (nI (i + 1))), (6, .int (nI (k + 1))), (7, .int (nI 11)), (8, .int (nn i))] (v := (nI (i + 1))) dX3_call_164 rfl rfl (z_incN _ _) (by decide) rfl ?_
          refine z_iinc 170 C0 3 [1, 2, 3, 0, 4, 5] [(0, .ref m), (1, .ref p), (5, .int (nI (i + 1))), (6, .int (nI (k + 2))), (7, .int (nI 11)), (8, .int (nn i))] (v := (nI (k + 2))) dX3_call_167 rfl rfl ((z_incN (k + 1) 1).trans (congrArg nI (by omega))) (by decide) rfl ?_
          refine z_goto 14 C0 dX3_call_170 (by decide) ?_
          refine z_loc [0, 1, 2, 3] [(0, .ref m), (1, .ref p), (5, .int (nI (i + 1))), (6, .int (nI (k + 2)))] rfl ?_
          exact ih14 (k + 1) fu (i + 1) (h - 1) lo (upd st (h - 2) (cmb 11 (st (h - 2)) (st (h - 1)))) P (by omega) (hR.next ho ⟨by decide, by decide, by decide⟩) hP ((mRun_step hop (by decide) (by decide) (by decide) (fun q => absurd q.1 (by decide)) hcl).symm.trans hM) (by omega)
        · skip
          have hnd : 2 ≤ h := by have := ho.2.2.1; simpa [pNeed, nNeed] using this
          have hup : h + 0 - 1 ≤ 8 := ho.2.2.2
          have hcl : (nn i).toNatClampNeg = (nn i).toNatClampNeg := rfl
          refine z_aload_n 32 C0 1 dX3_call_31 rfl rfl rfl ?_
          refine z_get 35 C0 8 1 wz_5 rfl (by decide) (zTs_in wk_71) dX3_call_32 rfl rfl rfl ?_
          refine z_iload 37 C0 2 dX3_call_35 rfl rfl ?_
          refine z_ialdN 38 C0 9 (v := (nI 12)) dX3_call_37 rfl rfl (by omega) (by decide) hop ?_
          refine z_istore 40 C0 [1, 2, 3, 4, 0] [(0, .ref m), (1, .ref p), (5, .int (nI i)), (6, .int (nI (k + 1))), (7, .int (nI 12))] dX3_call_38 rfl (by decide) rfl ?_
          refine z_aload_n 41 C0 1 dX3_call_40 rfl rfl rfl ?_
          refine z_get 44 C0 8 2 wz_5 rfl (by decide) (zTs_in wk_74) dX3_call_41 rfl rfl rfl ?_
          refine z_iload 46 C0 2 dX3_call_44 rfl rfl ?_
          refine z_ialdN 47 C0 10 (v := (nn i)) dX3_call_46 rfl rfl (by omega) (by decide) rfl ?_
          refine z_istore 49 C0 [1, 2, 3, 4, 5, 0] [(0, .ref m), (1, .ref p), (5, .int (nI i)), (6, .int (nI (k + 1))), (7, .int (nI 12)), (8, .int (nn i))] dX3_call_47 rfl (by decide) rfl ?_
          refine z_iload 51 C0 4 dX3_call_49 rfl rfl ?_
          refine z_bipush 53 C0 (v := (nI 17)) dX3_call_51 rfl rfl ?_
          refine z_icmp_eqN 56 63 C0 (by decide) (by decide) dX3_call_53 rfl (by decide) (fun k53 => absurd k53 (by omega)) (fun k53 => ?_)
          refine z_iload 58 C0 4 dX3_call_56 rfl rfl ?_
          refine z_bipush 60 C0 (v := (nI 18)) dX3_call_58 rfl rfl ?_
          refine z_icmp_neN 63 98 C0 (by decide) (by decide) dX3_call_60 rfl (by decide) (fun k60 => ?_) (fun k60 => absurd k60 (by omega))
          refine z_iload 100 C0 4 dX3_call_98 rfl rfl ?_
          refine z_bipush 102 C0 (v := (nI 16)) dX3_call_100 rfl rfl ?_
          refine z_icmp_neN 105 116 C0 (by decide) (by decide) dX3_call_102 rfl (by decide) (fun k102 => ?_) (fun k102 => absurd k102 (by omega))
          refine z_iload 118 C0 4 dX3_call_116 rfl rfl ?_
          refine z_callSNi 121 C0 [] [0, 1, 2, 3, 4, 5, 6, 7, 8, 9, 10] [(m, zo 3 [.ref ma, .ref ml, .ref ms, .int (nI h), .int an, .ref mp, .int (nI (P.length)), .ref mt]), (ma, zi E 3 ar1), (ml, zi E 4 lo), (ms, zi E 8 st), (mp, zo 4 [.ref mpk, .ref mpv, .int (nI (rwN 600 n P))]), (mpk, zi E 600 (rwK 600 n f P)), (mpv, zi E 600 (rwV 600 n g P)), (mt, zi E 4 (zn stp)), (p, zo 5 [.int (nI kd), .ref po, .ref pn, .int (nI len)]), (po, zi E 64 op), (pn, zi E 64 nn)] 0 0 (As := [.int (nI 12)]) (n := 1) (isJump l_ E 12 (by omega)) (zTs_good (fun _ => zTs_in) wk_276) rfl C0.2.2.2.2.2.2.2.2.2.1.1.2.2.2.2.1 (zTs_in wk_12) (zTs_in wk_275) ⟨by decide, by decide, by decide +kernel⟩ rfl rfl (by decide) rfl rfl (Nat.le_of_ble_eq_true rfl) ⟨by decide, by decide⟩ rfl rfl ⟨by decide, by decide⟩ ⟨by decide, by decide⟩ dX3_call_118 rfl (fun r118 w118 hB118 => ?_)
          obtain ⟨rfl, rfl⟩ := hB118
          refine z_perm [0, 1, 2, 3, 4, 5, 6, 7, 8, 9, 10] [(m, zo 3 [.ref ma, .ref ml, .ref ms, .int (nI h), .int an, .ref mp, .int (nI (P.length)), .ref mt]), (ma, zi E 3 ar1), (ml, zi E 4 lo), (ms, zi E 8 st), (mp, zo 4 [.ref mpk, .ref mpv, .int (nI (rwN 600 n P))]), (mpk, zi E 600 (rwK 600 n f P)), (mpv, zi E 600 (rwV 600 n g P)), (mt, zi E 4 (zn stp)), (p, zo 5 [.int (nI kd), .ref po, .ref pn, .int (nI len)]), (po, zi E 64 op), (pn, zi E 64 nn)] (by decide) rfl ?_
          refine z_if_eqP 124 139 C0 dX3_call_121 rfl (by decide) (fun k121 => ?_) (fun k121 => absurd k121 (by omega))
          refine z_iload 141 C0 4 dX3_call_139 rfl rfl ?_
          refine z_callSNi 144 C0 [] [0, 1, 2, 3, 4, 5, 6, 7, 8, 9, 10] [(m, zo 3 [.ref ma, .ref ml, .ref ms, .int (nI h), .int an, .ref mp, .int (nI (P.length)), .ref mt]), (ma, zi E 3 ar1), (ml, zi E 4 lo), (ms, zi E 8 st), (mp, zo 4 [.ref mpk, .ref mpv, .int (nI (rwN 600 n P))]), (mpk, zi E 600 (rwK 600 n f P)), (mpv, zi E 600 (rwV 600 n g P)), (mt, zi E 4 (zn stp)), (p, zo 5 [.int (nI kd), .ref po, .ref pn, .int (nI len)]), (po, zi E 64 op), (pn, zi E 64 nn)] 0 0 (As := [.int (nI 12)]) (n := 1) (isComb l_ E 12 (by omega)) (zTs_good (fun _ => zTs_in) wk_360) rfl C0.2.2.2.2.2.2.2.2.2.1.1.2.2.2.2.2 (zTs_in wk_12) (zTs_in wk_359) ⟨by decide, by decide, by decide +kernel⟩ rfl rfl (by decide) rfl rfl (Nat.le_of_ble_eq_true rfl) ⟨by decide, by decide⟩ rfl rfl ⟨by decide, by decide⟩ ⟨by decide, by decide⟩ dX3_call_141 rfl (fun r141 w141 hB141 => ?_)
          obtain ⟨rfl, rfl⟩ := hB141
          refine z_perm [0, 1, 2, 3, 4, 5, 6, 7, 8, 9, 10] [(m, zo 3 [.ref ma, .ref ml, .ref ms, .int (nI h), .int an, .ref mp, .int (nI (P.length)), .ref mt]), (ma, zi E 3 ar1), (ml, zi E 4 lo), (ms, zi E 8 st), (mp, zo 4 [.ref mpk, .ref mpv, .int (nI (rwN 600 n P))]), (mpk, zi E 600 (rwK 600 n f P)), (mpv, zi E 600 (rwV 600 n g P)), (mt, zi E 4 (zn stp)), (p, zo 5 [.int (nI kd), .ref po, .ref pn, .int (nI len)]), (po, zi E 64 op), (pn, zi E 64 nn)] (by decide) rfl ?_
          refine z_if_eqP 147 156 C0 dX3_call_144 rfl (by decide) (fun k144 => absurd k144 (by omega)) (fun k144 => ?_)
          refine z_aload_n 148 C0 0 dX3_call_147 rfl rfl rfl ?_
          refine z_iload 150 C0 4 dX3_call_148 rfl rfl ?_
          refine z_callVv 153 C0 [0, 3] [1, 2, 4, 5, 6, 7, 8, 9, 10] [(ma, zi E 3 ar1), (ml, zi E 4 lo), (mp, zo 4 [.ref mpk, .ref mpv, .int (nI (rwN 600 n P))]), (mpk, zi E 600 (rwK 600 n f P)), (mpv, zi E 600 (rwV 600 n g P)), (mt, zi E 4 (zn stp)), (p, zo 5 [.int (nI kd), .ref po, .ref pn, .int (nI len)]), (po, zi E 64 op), (pn, zi E 64 nn)] 0 0 (As := [.int (nI 12)]) (T := TX3) (N := 8) (C := RX3) (ci := 3) (n := 1) 0 (combine l_ E m ma ml ms mp mt h an (P.length) st 12 (by omega) (by omega) (by omega) (by omega)) (zGIV (fun _ => zTs_in) wk_364 wk_361 wk_362 wk_363 wk_18) rfl ⟨rfl, by decide, by decide, by decide +kernel⟩ rfl rfl rfl rfl (by decide) rfl rfl (Nat.le_of_ble_eq_true rfl) ⟨by decide, by decide⟩ rfl rfl ⟨by decide, by decide⟩ ⟨by decide, by decide⟩ dX3_call_150 rfl (fun w150 hB150 => ?_)
          obtain rfl := hB150
          refine z_perm [9, 0, 1, 10, 2, 3, 4, 5, 6, 7, 8] [(m, zo 3 [.ref ma, .ref ml, .ref ms, .int (nI (h - 1)), .int an, .ref mp, .int (nI (P.length)), .ref mt]), (ma, zi E 3 ar1), (ml, zi E 4 lo), (ms, zi E 8 (upd st (h - 2) (cmb 12 (st (h - 2)) (st (h - 1))))), (mp, zo 4 [.ref mpk, .ref mpv, .int (nI (rwN 600 n P))]), (mpk, zi E 600 (rwK 600 n f P)), (mpv, zi E 600 (rwV 600 n g P)), (mt, zi E 4 (zn stp)), (p, zo 5 [.int (nI kd), .ref po, .ref pn, .int (nI len)]), (po, zi E 64 op), (pn, zi E 64 nn)] (by decide) rfl ?_
          refine z_goto 164 C0 dX3_call_153 (by decide) ?_
          refine z_iinc 167 C0 2 [1, 2, 0, 3, 4, 5] [(0, .ref m), (1, .ref p), (5, .int (nI (i + 1))), (6, .int (nI (k + 1))), (7, .int (nI 12)), (8, .int (nn i))] (v := (nI (i + 1))) dX3_call_164 rfl rfl (z_incN _ _) (by decide) rfl ?_
          refine z_iinc 170 C0 3 [1, 2, 3, 0, 4, 5] [(0, .ref m), (1, .ref p), (5, .int (nI (i + 1))), (6, .int (nI (k + 2))), (7, .int (nI 12)), (8, .int (nn i))] (v := (nI (k + 2))) dX3_call_167 rfl rfl ((z_incN (k + 1) 1).trans (congrArg nI (by omega))) (by decide) rfl ?_
          refine z_goto 14 C0 dX3_call_170 (by decide) ?_
          refine z_loc [0, 1, 2, 3] [(0, .ref m), (1, .ref p), (5, .int (nI (i + 1))), (6, .int (nI (k + 2)))] rfl ?_
          exact ih14 (k + 1) fu (i + 1) (h - 1) lo (upd st (h - 2) (cmb 12 (st (h - 2)) (st (h - 1)))) P (by omega) (hR.next ho ⟨by decide, by decide, by decide⟩) hP ((mRun_step hop (by decide) (by decide) (by decide) (fun q => absurd q.1 (by decide)) hcl).symm.trans hM) (by omega)
        · skip
          have hnd : 2 ≤ h := by have := ho.2.2.1; simpa [pNeed, nNeed] using this
          have hup : h + 0 - 1 ≤ 8 := ho.2.2.2
          have hcl : (nn i).toNatClampNeg = (nn i).toNatClampNeg := rfl
          refine z_aload_n 32 C0 1 dX3_call_31 rfl rfl rfl ?_
          refine z_get 35 C0 8 1 wz_5 rfl (by decide) (zTs_in wk_71) dX3_call_32 rfl rfl rfl ?_
          refine z_iload 37 C0 2 dX3_call_35 rfl rfl ?_
          refine z_ialdN 38 C0 9 (v := (nI 13)) dX3_call_37 rfl rfl (by omega) (by decide) hop ?_
          refine z_istore 40 C0 [1, 2, 3, 4, 0] [(0, .ref m), (1, .ref p), (5, .int (nI i)), (6, .int (nI (k + 1))), (7, .int (nI 13))] dX3_call_38 rfl (by decide) rfl ?_
          refine z_aload_n 41 C0 1 dX3_call_40 rfl rfl rfl ?_
          refine z_get 44 C0 8 2 wz_5 rfl (by decide) (zTs_in wk_74) dX3_call_41 rfl rfl rfl ?_
          refine z_iload 46 C0 2 dX3_call_44 rfl rfl ?_
          refine z_ialdN 47 C0 10 (v := (nn i)) dX3_call_46 rfl rfl (by omega) (by decide) rfl ?_
          refine z_istore 49 C0 [1, 2, 3, 4, 5, 0] [(0, .ref m), (1, .ref p), (5, .int (nI i)), (6, .int (nI (k + 1))), (7, .int (nI 13)), (8, .int (nn i))] dX3_call_47 rfl (by decide) rfl ?_
          refine z_iload 51 C0 4 dX3_call_49 rfl rfl ?_
          refine z_bipush 53 C0 (v := (nI 17)) dX3_call_51 rfl rfl ?_
          refine z_icmp_eqN 56 63 C0 (by decide) (by decide) dX3_call_53 rfl (by decide) (fun k53 => absurd k53 (by omega)) (fun k53 => ?_)
          refine z_iload 58 C0 4 dX3_call_56 rfl rfl ?_
          refine z_bipush 60 C0 (v := (nI 18)) dX3_call_58 rfl rfl ?_
          refine z_icmp_neN 63 98 C0 (by decide) (by decide) dX3_call_60 rfl (by decide) (fun k60 => ?_) (fun k60 => absurd k60 (by omega))
          refine z_iload 100 C0 4 dX3_call_98 rfl rfl ?_
          refine z_bipush 102 C0 (v := (nI 16)) dX3_call_100 rfl rfl ?_
          refine z_icmp_neN 105 116 C0 (by decide) (by decide) dX3_call_102 rfl (by decide) (fun k102 => ?_) (fun k102 => absurd k102 (by omega))
          refine z_iload 118 C0 4 dX3_call_116 rfl rfl ?_
          refine z_callSNi 121 C0 [] [0, 1, 2, 3, 4, 5, 6, 7, 8, 9, 10] [(m, zo 3 [.ref ma, .ref ml, .ref ms, .int (nI h), .int an, .ref mp, .int (nI (P.length)), .ref mt]), (ma, zi E 3 ar1), (ml, zi E 4 lo), (ms, zi E 8 st), (mp, zo 4 [.ref mpk, .ref mpv, .int (nI (rwN 600 n P))]), (mpk, zi E 600 (rwK 600 n f P)), (mpv, zi E 600 (rwV 600 n g P)), (mt, zi E 4 (zn stp)), (p, zo 5 [.int (nI kd), .ref po, .ref pn, .int (nI len)]), (po, zi E 64 op), (pn, zi E 64 nn)] 0 0 (As := [.int (nI 13)]) (n := 1) (isJump l_ E 13 (by omega)) (zTs_good (fun _ => zTs_in) wk_276) rfl C0.2.2.2.2.2.2.2.2.2.1.1.2.2.2.2.1 (zTs_in wk_12) (zTs_in wk_275) ⟨by decide, by decide, by decide +kernel⟩ rfl rfl (by decide) rfl rfl (Nat.le_of_ble_eq_true rfl) ⟨by decide, by decide⟩ rfl rfl ⟨by decide, by decide⟩ ⟨by decide, by decide⟩ dX3_call_118 rfl (fun r118 w118 hB118 => ?_)
          obtain ⟨rfl, rfl⟩ := hB118
          refine z_perm [0, 1, 2, 3, 4, 5, 6, 7, 8, 9, 10] [(m, zo 3 [.ref ma, .ref ml, .ref ms, .int (nI h), .int an, .ref mp, .int (nI (P.length)), .ref mt]), (ma, zi E 3 ar1), (ml, zi E 4 lo), (ms, zi E 8 st), (mp, zo 4 [.ref mpk, .ref mpv, .int (nI (rwN 600 n P))]), (mpk, zi E 600 (rwK 600 n f P)), (mpv, zi E 600 (rwV 600 n g P)), (mt, zi E 4 (zn stp)), (p, zo 5 [.int (nI kd), .ref po, .ref pn, .int (nI len)]), (po, zi E 64 op), (pn, zi E 64 nn)] (by decide) rfl ?_
          refine z_if_eqP 124 139 C0 dX3_call_121 rfl (by decide) (fun k121 => ?_) (fun k121 => absurd k121 (by omega))
          refine z_iload 141 C0 4 dX3_call_139 rfl rfl ?_
          refine z_callSNi 144 C0 [] [0, 1, 2, 3, 4, 5, 6, 7, 8, 9, 10] [(m, zo 3 [.ref ma, .ref ml, .ref ms, .int (nI h), .int an, .ref mp, .int (nI (P.length)), .ref mt]), (ma, zi E 3 ar1), (ml, zi E 4 lo), (ms, zi E 8 st), (mp, zo 4 [.ref mpk, .ref mpv, .int (nI (rwN 600 n P))]), (mpk, zi E 600 (rwK 600 n f P)), (mpv, zi E 600 (rwV 600 n g P)), (mt, zi E 4 (zn stp)), (p, zo 5 [.int (nI kd), .ref po, .ref pn, .int (nI len)]), (po, zi E 64 op), (pn, zi E 64 nn)] 0 0 (As := [.int (nI 13)]) (n := 1) (isComb l_ E 13 (by omega)) (zTs_good (fun _ => zTs_in) wk_360) rfl C0.2.2.2.2.2.2.2.2.2.1.1.2.2.2.2.2 (zTs_in wk_12) (zTs_in wk_359) ⟨by decide, by decide, by decide +kernel⟩ rfl rfl (by decide) rfl rfl (Nat.le_of_ble_eq_true rfl) ⟨by decide, by decide⟩ rfl rfl ⟨by decide, by decide⟩ ⟨by decide, by decide⟩ dX3_call_141 rfl (fun r141 w141 hB141 => ?_)
          obtain ⟨rfl, rfl⟩ := hB141
          refine z_perm [0, 1, 2, 3, 4, 5, 6, 7, 8, 9, 10] [(m, zo 3 [.ref ma, .ref ml, .ref ms, .int (nI h), .int an, .ref mp, .int (nI (P.length)), .ref mt]), (ma, zi E 3 ar1), (ml, zi E 4 lo), (ms, zi E 8 st), (mp, zo 4 [.ref mpk, .ref mpv, .int (nI (rwN 600 n P))]), (mpk, zi E 600 (rwK 600 n f P)), (mpv, zi E 600 (rwV 600 n g P)), (mt, zi E 4 (zn stp)), (p, zo 5 [.int (nI kd), .ref po, .ref pn, .int (nI len)]), (po, zi E 64 op), (pn, zi E 64 nn)] (by decide) rfl ?_
          refine z_if_eqP 147 156 C0 dX3_call_144 rfl (by decide) (fun k144 => absurd k144 (by omega)) (fun k144 => ?_)
          refine z_aload_n 148 C0 0 dX3_call_147 rfl rfl rfl ?_
          refine z_iload 150 C0 4 dX3_call_148 rfl rfl ?_
          refine z_callVv 153 C0 [0, 3] [1, 2, 4, 5, 6, 7, 8, 9, 10] [(ma, zi E 3 ar1), (ml, zi E 4 lo), (mp, zo 4 [.ref mpk, .ref mpv, .int (nI (rwN 600 n P))]), (mpk, zi E 600 (rwK 600 n f P)), (mpv, zi E 600 (rwV 600 n g P)), (mt, zi E 4 (zn stp)), (p, zo 5 [.int (nI kd), .ref po, .ref pn, .int (nI len)]), (po, zi E 64 op), (pn, zi E 64 nn)] 0 0 (As := [.int (nI 13)]) (T := TX3) (N := 8) (C := RX3) (ci := 3) (n := 1) 0 (combine l_ E m ma ml ms mp mt h an (P.length) st 13 (by omega) (by omega) (by omega) (by omega)) (zGIV (fun _ => zTs_in) wk_364 wk_361 wk_362 wk_363 wk_18) rfl ⟨rfl, by decide, by decide, by decide +kernel⟩ rfl rfl rfl rfl (by decide) rfl rfl (Nat.le_of_ble_eq_true rfl) ⟨by decide, by decide⟩ rfl rfl ⟨by decide, by decide⟩ ⟨by decide, by decide⟩ dX3_call_150 rfl (fun w150 hB150 => ?_)
          obtain rfl := hB150
          refine z_perm [9, 0, 1, 10, 2, 3, 4, 5, 6, 7, 8] [(m, zo 3 [.ref ma, .ref ml, .ref ms, .int (nI (h - 1)), .int an, .ref mp, .int (nI (P.length)), .ref mt]), (ma, zi E 3 ar1), (ml, zi E 4 lo), (ms, zi E 8 (upd st (h - 2) (cmb 13 (st (h - 2)) (st (h - 1))))), (mp, zo 4 [.ref mpk, .ref mpv, .int (nI (rwN 600 n P))]), (mpk, zi E 600 (rwK 600 n f P)), (mpv, zi E 600 (rwV 600 n g P)), (mt, zi E 4 (zn stp)), (p, zo 5 [.int (nI kd), .ref po, .ref pn, .int (nI len)]), (po, zi E 64 op), (pn, zi E 64 nn)] (by decide) rfl ?_
          refine z_goto 164 C0 dX3_call_153 (by decide) ?_
          refine z_iinc 167 C0 2 [1, 2, 0, 3, 4, 5] [(0, .ref m), (1, .ref p), (5, .int (nI (i + 1))), (6, .int (nI (k + 1))), (7, .int (nI 13)), (8, .int (nn i))] (v := (nI (i + 1))) dX3_call_164 rfl rfl (z_incN _ _) (by decide) rfl ?_
          refine z_iinc 170 C0 3 [1, 2, 3, 0, 4, 5] [(0, .ref m), (1, .ref p), (5, .int (nI (i + 1))), (6, .int (nI (k + 2))), (7, .int (nI 13)), (8, .int (nn i))] (v := (nI (k + 2))) dX3_call_167 rfl rfl ((z_incN (k + 1) 1).trans (congrArg nI (by omega))) (by decide) rfl ?_
          refine z_goto 14 C0 dX3_call_170 (by decide) ?_
          refine z_loc [0, 1, 2, 3] [(0, .ref m), (1, .ref p), (5, .int (nI (i + 1))), (6, .int (nI (k + 2)))] rfl ?_
          exact ih14 (k + 1) fu (i + 1) (h - 1) lo (upd st (h - 2) (cmb 13 (st (h - 2)) (st (h - 1)))) P (by omega) (hR.next ho ⟨by decide, by decide, by decide⟩) hP ((mRun_step hop (by decide) (by decide) (by decide) (fun q => absurd q.1 (by decide)) hcl).symm.trans hM) (by omega)
        · skip
          have hnd : 0 ≤ h := by have := ho.2.2.1; simpa [pNeed, nNeed] using this
          have hup : h + 0 - 0 ≤ 8 := ho.2.2.2
          obtain ⟨j, hj, hnn⟩ := ho.1.2.2.2.2.2.2 (by omega)
          have hcl : (nn i).toNatClampNeg = j := by rw [hnn]; exact nI_clamp (by omega)
          refine z_aload_n 32 C0 1 dX3_call_31 rfl rfl rfl ?_
          refine z_get 35 C0 8 1 wz_5 rfl (by decide) (zTs_in wk_71) dX3_call_32 rfl rfl rfl ?_
          refine z_iload 37 C0 2 dX3_call_35 rfl rfl ?_
          refine z_ialdN 38 C0 9 (v := (nI 14)) dX3_call_37 rfl rfl (by omega) (by decide) hop ?_
          refine z_istore 40 C0 [1, 2, 3, 4, 0] [(0, .ref m), (1, .ref p), (5, .int (nI i)), (6, .int (nI (k + 1))), (7, .int (nI 14))] dX3_call_38 rfl (by decide) rfl ?_
          refine z_aload_n 41 C0 1 dX3_call_40 rfl rfl rfl ?_
          refine z_get 44 C0 8 2 wz_5 rfl (by decide) (zTs_in wk_74) dX3_call_41 rfl rfl rfl ?_
          refine z_iload 46 C0 2 dX3_call_44 rfl rfl ?_
          refine z_ialdN 47 C0 10 (v := (nI j)) dX3_call_46 rfl rfl (by omega) (by decide) hnn ?_
          refine z_istore 49 C0 [1, 2, 3, 4, 5, 0] [(0, .ref m), (1, .ref p), (5, .int (nI i)), (6, .int (nI (k + 1))), (7, .int (nI 14)), (8, .int (nI j))] dX3_call_47 rfl (by decide) rfl ?_
          refine z_iload 51 C0 4 dX3_call_49 rfl rfl ?_
          refine z_bipush 53 C0 (v := (nI 17)) dX3_call_51 rfl rfl ?_
          refine z_icmp_eqN 56 63 C0 (by decide) (by decide) dX3_call_53 rfl (by decide) (fun k53 => absurd k53 (by omega)) (fun k53 => ?_)
          refine z_iload 58 C0 4 dX3_call_56 rfl rfl ?_
          refine z_bipush 60 C0 (v := (nI 18)) dX3_call_58 rfl rfl ?_
          refine z_icmp_neN 63 98 C0 (by decide) (by decide) dX3_call_60 rfl (by decide) (fun k60 => ?_) (fun k60 => absurd k60 (by omega))
          refine z_iload 100 C0 4 dX3_call_98 rfl rfl ?_
          refine z_bipush 102 C0 (v := (nI 16)) dX3_call_100 rfl rfl ?_
          refine z_icmp_neN 105 116 C0 (by decide) (by decide) dX3_call_102 rfl (by decide) (fun k102 => ?_) (fun k102 => absurd k102 (by omega))
          refine z_iload 118 C0 4 dX3_call_116 rfl rfl ?_
          refine z_callSNi 121 C0 [] [0, 1, 2, 3, 4, 5, 6, 7, 8, 9, 10] [(m, zo 3 [.ref ma, .ref ml, .ref ms, .int (nI h), .int an, .ref mp, .int (nI (P.length)), .ref mt]), (ma, zi E 3 ar1), (ml, zi E 4 lo), (ms, zi E 8 st), (mp, zo 4 [.ref mpk, .ref mpv, .int (nI (rwN 600 n P))]), (mpk, zi E 600 (rwK 600 n f P)), (mpv, zi E 600 (rwV 600 n g P)), (mt, zi E 4 (zn stp)), (p, zo 5 [.int (nI kd), .ref po, .ref pn, .int (nI len)]), (po, zi E 64 op), (pn, zi E 64 nn)] 0 0 (As := [.int (nI 14)]) (n := 1) (isJump l_ E 14 (by omega)) (zTs_good (fun _ => zTs_in) wk_276) rfl C0.2.2.2.2.2.2.2.2.2.1.1.2.2.2.2.1 (zTs_in wk_12) (zTs_in wk_275) ⟨by decide, by decide, by decide +kernel⟩ rfl rfl (by decide) rfl rfl (Nat.le_of_ble_eq_true rfl) ⟨by decide, by decide⟩ rfl rfl ⟨by decide, by decide⟩ ⟨by decide, by decide⟩ dX3_call_118 rfl (fun r118 w118 hB118 => ?_)
          obtain ⟨rfl, rfl⟩ := hB118
          refine z_perm [0, 1, 2, 3, 4, 5, 6, 7, 8, 9, 10] [(m, zo 3 [.ref ma, .ref ml, .ref ms, .int (nI h), .int an, .ref mp, .int (nI (P.length)), .ref mt]), (ma, zi E 3 ar1), (ml, zi E 4 lo), (ms, zi E 8 st), (mp, zo 4 [.ref mpk, .ref mpv, .int (nI (rwN 600 n P))]), (mpk, zi E 600 (rwK 600 n f P)), (mpv, zi E 600 (rwV 600 n g P)), (mt, zi E 4 (zn stp)), (p, zo 5 [.int (nI kd), .ref po, .ref pn, .int (nI len)]), (po, zi E 64 op), (pn, zi E 64 nn)] (by decide) rfl ?_
          refine z_if_eqP 124 139 C0 dX3_call_121 rfl (by decide) (fun k121 => absurd k121 (by omega)) (fun k121 => ?_)
          refine z_aload_n 125 C0 0 dX3_call_124 rfl rfl rfl ?_
          refine z_iload 127 C0 4 dX3_call_125 rfl rfl ?_
          refine z_iload 129 C0 5 dX3_call_127 rfl rfl ?_
          refine z_iload 131 C0 2 dX3_call_129 rfl rfl ?_
          refine z_callVi 134 C0 [0, 3] [1, 2, 4, 5, 6, 7, 8, 9, 10] [(ma, zi E 3 ar1), (ml, zi E 4 lo), (mp, zo 4 [.ref mpk, .ref mpv, .int (nI (rwN 600 n P))]), (mpk, zi E 600 (rwK 600 n f P)), (mpv, zi E 600 (rwV 600 n g P)), (mt, zi E 4 (zn stp)), (p, zo 5 [.int (nI kd), .ref po, .ref pn, .int (nI len)]), (po, zi E 64 op), (pn, zi E 64 nn)] 0 0 (As := [.int (nI 14), .int (nI j), .int (nI i)]) (T := TX3) (N := 8) (C := RX3) (ci := 3) (n := 3) 0 (jump14 l_ E m ma ml ms mp mt h an (P.length) st (nI j) i (by omega)) (zGIV (fun _ => zTs_in) wk_357 wk_354 wk_355 wk_356 wk_18) rfl ⟨rfl, by decide, by decide, by decide +kernel⟩ rfl rfl rfl rfl (by decide) rfl rfl (Nat.le_of_ble_eq_true rfl) ⟨by decide, by decide⟩ rfl rfl ⟨by decide, by decide⟩ ⟨by decide, by decide⟩ dX3_call_131 rfl (fun r131 w131 hB131 => ?_)
          obtain ⟨rfl, rfl⟩ := hB131
          refine z_perm [9, 0, 1, 10, 2, 3, 4, 5, 6, 7, 8] [(m, zo 3 [.ref ma, .ref ml, .ref ms, .int (nI h), .int an, .ref mp, .int (nI (P.length)), .ref mt]), (ma, zi E 3 ar1), (ml, zi E 4 lo), (ms, zi E 8 st), (mp, zo 4 [.ref mpk, .ref mpv, .int (nI (rwN 600 n P))]), (mpk, zi E 600 (rwK 600 n f P)), (mpv, zi E 600 (rwV 600 n g P)), (mt, zi E 4 (zn stp)), (p, zo 5 [.int (nI kd), .ref po, .ref pn, .int (nI len)]), (po, zi E 64 op), (pn, zi E 64 nn)] (by decide) rfl ?_
          refine z_istore 136 C0 [1, 2, 0, 3, 4, 5] [(0, .ref m), (1, .ref p), (5, .int (nI j)), (6, .int (nI (k + 1))), (7, .int (nI 14)), (8, .int (nI j))] dX3_call_134 rfl (by decide) rfl ?_
          refine z_goto 167 C0 dX3_call_136 (by decide) ?_
          refine z_iinc 170 C0 3 [1, 2, 3, 0, 4, 5] [(0, .ref m), (1, .ref p), (5, .int (nI j)), (6, .int (nI (k + 2))), (7, .int (nI 14)), (8, .int (nI j))] (v := (nI (k + 2))) dX3_call_167 rfl rfl ((z_incN (k + 1) 1).trans (congrArg nI (by omega))) (by decide) rfl ?_
          refine z_goto 14 C0 dX3_call_170 (by decide) ?_
          refine z_loc [0, 1, 2, 3] [(0, .ref m), (1, .ref p), (5, .int (nI j)), (6, .int (nI (k + 2)))] rfl ?_
          exact ih14 (k + 1) fu j h lo st P (by omega) (hR.jump ho (by omega) hj hnn) hP ((mRun_step hop (by decide) (by decide) (by decide) (fun q => absurd q.1 (by decide)) hcl).symm.trans hM) (by omega)
        · skip
          have hnd : 1 ≤ h := by have := ho.2.2.1; simpa [pNeed, nNeed] using this
          have hup : h + 0 - 1 ≤ 8 := ho.2.2.2
          obtain ⟨j, hj, hnn⟩ := ho.1.2.2.2.2.2.2 (by omega)
          have hcl : (nn i).toNatClampNeg = j := by rw [hnn]; exact nI_clamp (by omega)
          refine z_aload_n 32 C0 1 dX3_call_31 rfl rfl rfl ?_
          refine z_get 35 C0 8 1 wz_5 rfl (by decide) (zTs_in wk_71) dX3_call_32 rfl rfl rfl ?_
          refine z_iload 37 C0 2 dX3_call_35 rfl rfl ?_
          refine z_ialdN 38 C0 9 (v := (nI 15)) dX3_call_37 rfl rfl (by omega) (by decide) hop ?_
          refine z_istore 40 C0 [1, 2, 3, 4, 0] [(0, .ref m), (1, .ref p), (5, .int (nI i)), (6, .int (nI (k + 1))), (7, .int (nI 15))] dX3_call_38 rfl (by decide) rfl ?_
          refine z_aload_n 41 C0 1 dX3_call_40 rfl rfl rfl ?_
          refine z_get 44 C0 8 2 wz_5 rfl (by decide) (zTs_in wk_74) dX3_call_41 rfl rfl rfl ?_
          refine z_iload 46 C0 2 dX3_call_44 rfl rfl ?_
          refine z_ialdN 47 C0 10 (v := (nI j)) dX3_call_46 rfl rfl (by omega) (by decide) hnn ?_
          refine z_istore 49 C0 [1, 2, 3, 4, 5, 0] [(0, .ref m), (1, .ref p), (5, .int (nI i)), (6, .int (nI (k + 1))), (7, .int (nI 15)), (8, .int (nI j))] dX3_call_47 rfl (by decide) rfl ?_
          refine z_iload 51 C0 4 dX3_call_49 rfl rfl ?_
          refine z_bipush 53 C0 (v := (nI 17)) dX3_call_51 rfl rfl ?_
          refine z_icmp_eqN 56 63 C0 (by decide) (by decide) dX3_call_53 rfl (by decide) (fun k53 => absurd k53 (by omega)) (fun k53 => ?_)
          refine z_iload 58 C0 4 dX3_call_56 rfl rfl ?_
          refine z_bipush 60 C0 (v := (nI 18)) dX3_call_58 rfl rfl ?_
          refine z_icmp_neN 63 98 C0 (by decide) (by decide) dX3_call_60 rfl (by decide) (fun k60 => ?_) (fun k60 => absurd k60 (by omega))
          refine z_iload 100 C0 4 dX3_call_98 rfl rfl ?_
          refine z_bipush 102 C0 (v := (nI 16)) dX3_call_100 rfl rfl ?_
          refine z_icmp_neN 105 116 C0 (by decide) (by decide) dX3_call_102 rfl (by decide) (fun k102 => ?_) (fun k102 => absurd k102 (by omega))
          refine z_iload 118 C0 4 dX3_call_116 rfl rfl ?_
          refine z_callSNi 121 C0 [] [0, 1, 2, 3, 4, 5, 6, 7, 8, 9, 10] [(m, zo 3 [.ref ma, .ref ml, .ref ms, .int (nI h), .int an, .ref mp, .int (nI (P.length)), .ref mt]), (ma, zi E 3 ar1), (ml, zi E 4 lo), (ms, zi E 8 st), (mp, zo 4 [.ref mpk, .ref mpv, .int (nI (rwN 600 n P))]), (mpk, zi E 600 (rwK 600 n f P)), (mpv, zi E 600 (rwV 600 n g P)), (mt, zi E 4 (zn stp)), (p, zo 5 [.int (nI kd), .ref po, .ref pn, .int (nI len)]), (po, zi E 64 op), (pn, zi E 64 nn)] 0 0 (As := [.int (nI 15)]) (n := 1) (isJump l_ E 15 (by omega)) (zTs_good (fun _ => zTs_in) wk_276) rfl C0.2.2.2.2.2.2.2.2.2.1.1.2.2.2.2.1 (zTs_in wk_12) (zTs_in wk_275) ⟨by decide, by decide, by decide +kernel⟩ rfl rfl (by decide) rfl rfl (Nat.le_of_ble_eq_true rfl) ⟨by decide, by decide⟩ rfl rfl ⟨by decide, by decide⟩ ⟨by decide, by decide⟩ dX3_call_118 rfl (fun r118 w118 hB118 => ?_)
          obtain ⟨rfl, rfl⟩ := hB118
          refine z_perm [0, 1, 2, 3, 4, 5, 6, 7, 8, 9, 10] [(m, zo 3 [.ref ma, .ref ml, .ref ms, .int (nI h), .int an, .ref mp, .int (nI (P.length)), .ref mt]), (ma, zi E 3 ar1), (ml, zi E 4 lo), (ms, zi E 8 st), (mp, zo 4 [.ref mpk, .ref mpv, .int (nI (rwN 600 n P))]), (mpk, zi E 600 (rwK 600 n f P)), (mpv, zi E 600 (rwV 600 n g P)), (mt, zi E 4 (zn stp)), (p, zo 5 [.int (nI kd), .ref po, .ref pn, .int (nI len)]), (po, zi E 64 op), (pn, zi E 64 nn)] (by decide) rfl ?_
          refine z_if_eqP 124 139 C0 dX3_call_121 rfl (by decide) (fun k121 => absurd k121 (by omega)) (fun k121 => ?_)
          refine z_aload_n 125 C0 0 dX3_call_124 rfl rfl rfl ?_
          refine z_iload 127 C0 4 dX3_call_125 rfl rfl ?_
          refine z_iload 129 C0 5 dX3_call_127 rfl rfl ?_
          refine z_iload 131 C0 2 dX3_call_129 rfl rfl ?_
          refine z_callVi 134 C0 [0, 3] [1, 2, 4, 5, 6, 7, 8, 9, 10] [(ma, zi E 3 ar1), (ml, zi E 4 lo), (mp, zo 4 [.ref mpk, .ref mpv, .int (nI (rwN 600 n P))]), (mpk, zi E 600 (rwK 600 n f P)), (mpv, zi E 600 (rwV 600 n g P)), (mt, zi E 4 (zn stp)), (p, zo 5 [.int (nI kd), .ref po, .ref pn, .int (nI len)]), (po, zi E 64 op), (pn, zi E 64 nn)] 0 0 (As := [.int (nI 15), .int (nI j), .int (nI i)]) (T := TX3) (N := 8) (C := RX3) (ci := 3) (n := 3) 0 (jump15 l_ E m ma ml ms mp mt h an (P.length) st (nI j) i (by omega)) (zGIV (fun _ => zTs_in) wk_357 wk_354 wk_355 wk_356 wk_18) rfl ⟨rfl, by decide, by decide, by decide +kernel⟩ rfl rfl rfl rfl (by decide) rfl rfl (Nat.le_of_ble_eq_true rfl) ⟨by decide, by decide⟩ rfl rfl ⟨by decide, by decide⟩ ⟨by decide, by decide⟩ dX3_call_131 rfl (fun r131 w131 hB131 => ?_)
          obtain ⟨rfl, rfl⟩ := hB131
          refine z_perm [9, 0, 1, 10, 2, 3, 4, 5, 6, 7, 8] [(m, zo 3 [.ref ma, .ref ml, .ref ms, .int (nI (h - 1)), .int an, .ref mp, .int (nI (P.length)), .ref mt]), (ma, zi E 3 ar1), (ml, zi E 4 lo), (ms, zi E 8 st), (mp, zo 4 [.ref mpk, .ref mpv, .int (nI (rwN 600 n P))]), (mpk, zi E 600 (rwK 600 n f P)), (mpv, zi E 600 (rwV 600 n g P)), (mt, zi E 4 (zn stp)), (p, zo 5 [.int (nI kd), .ref po, .ref pn, .int (nI len)]), (po, zi E 64 op), (pn, zi E 64 nn)] (by decide) rfl ?_
          by_cases hz : popV h st = 0
          · skip
            refine z_eq (L1 := [(0, .ref m), (1, .ref p), (5, .int (nI i)), (6, .int (nI (k + 1))), (7, .int (nI 15)), (8, .int (nI j))]) (st1 := [.int (nI j)]) (w1 := [(m, zo 3 [.ref ma, .ref ml, .ref ms, .int (nI (h - 1)), .int an, .ref mp, .int (nI (P.length)), .ref mt]), (ma, zi E 3 ar1), (ml, zi E 4 lo), (ms, zi E 8 st), (mp, zo 4 [.ref mpk, .ref mpv, .int (nI (rwN 600 n P))]), (mpk, zi E 600 (rwK 600 n f P)), (mpv, zi E 600 (rwV 600 n g P)), (mt, zi E 4 (zn stp)), (p, zo 5 [.int (nI kd), .ref po, .ref pn, .int (nI len)]), (po, zi E 64 op), (pn, zi E 64 nn)]) rfl (by rw [if_pos hz]) rfl ?_
            refine z_istore 136 C0 [1, 2, 0, 3, 4, 5] [(0, .ref m), (1, .ref p), (5, .int (nI j)), (6, .int (nI (k + 1))), (7, .int (nI 15)), (8, .int (nI j))] dX3_call_134 rfl (by decide) rfl ?_
            refine z_goto 167 C0 dX3_call_136 (by decide) ?_
            refine z_iinc 170 C0 3 [1, 2, 3, 0, 4, 5] [(0, .ref m), (1, .ref p), (5, .int (nI j)), (6, .int (nI (k + 2))), (7, .int (nI 15)), (8, .int (nI j))] (v := (nI (k + 2))) dX3_call_167 rfl rfl ((z_incN (k + 1) 1).trans (congrArg nI (by omega))) (by decide) rfl ?_
            refine z_goto 14 C0 dX3_call_170 (by decide) ?_
            refine z_loc [0, 1, 2, 3] [(0, .ref m), (1, .ref p), (5, .int (nI j)), (6, .int (nI (k + 2)))] rfl ?_
            exact ih14 (k + 1) fu j (h - 1) lo st P (by omega) (hR.jump ho (by omega) hj hnn) hP ((by rw [mRun_step hop (by decide) (by decide) (by decide) (fun q => absurd q.1 (by decide)) hcl] at hM; unfold aAt at hM; rw [if_neg (by decide), if_pos rfl, if_pos hz] at hM; exact hM)) (by omega)
          · skip
            refine z_eq (L1 := [(0, .ref m), (1, .ref p), (5, .int (nI i)), (6, .int (nI (k + 1))), (7, .int (nI 15)), (8, .int (nI j))]) (st1 := [.int (nI (i + 1))]) (w1 := [(m, zo 3 [.ref ma, .ref ml, .ref ms, .int (nI (h - 1)), .int an, .ref mp, .int (nI (P.length)), .ref mt]), (ma, zi E 3 ar1), (ml, zi E 4 lo), (ms, zi E 8 st), (mp, zo 4 [.ref mpk, .ref mpv, .int (nI (rwN 600 n P))]), (mpk, zi E 600 (rwK 600 n f P)), (mpv, zi E 600 (rwV 600 n g P)), (mt, zi E 4 (zn stp)), (p, zo 5 [.int (nI kd), .ref po, .ref pn, .int (nI len)]), (po, zi E 64 op), (pn, zi E 64 nn)]) rfl (by rw [if_neg hz]) rfl ?_
            refine z_istore 136 C0 [1, 2, 0, 3, 4, 5] [(0, .ref m), (1, .ref p), (5, .int (nI (i + 1))), (6, .int (nI (k + 1))), (7, .int (nI 15)), (8, .int (nI j))] dX3_call_134 rfl (by decide) rfl ?_
            refine z_goto 167 C0 dX3_call_136 (by decide) ?_
            refine z_iinc 170 C0 3 [1, 2, 3, 0, 4, 5] [(0, .ref m), (1, .ref p), (5, .int (nI (i + 1))), (6, .int (nI (k + 2))), (7, .int (nI 15)), (8, .int (nI j))] (v := (nI (k + 2))) dX3_call_167 rfl rfl ((z_incN (k + 1) 1).trans (congrArg nI (by omega))) (by decide) rfl ?_
            refine z_goto 14 C0 dX3_call_170 (by decide) ?_
            refine z_loc [0, 1, 2, 3] [(0, .ref m), (1, .ref p), (5, .int (nI (i + 1))), (6, .int (nI (k + 2)))] rfl ?_
            exact ih14 (k + 1) fu (i + 1) (h - 1) lo st P (by omega) (hR.next ho ⟨by decide, by decide, by decide⟩) hP ((by rw [mRun_step hop (by decide) (by decide) (by decide) (fun q => absurd q.1 (by decide)) hcl] at hM; unfold aAt at hM; rw [if_neg (by decide), if_pos rfl, if_neg hz] at hM; exact hM)) (by omega)
        · skip
          have hnd : 2 ≤ h := by have := ho.2.2.1; simpa [pNeed, nNeed] using this
          have hup : h + 0 - 2 ≤ 8 := ho.2.2.2
          have hcl : (nn i).toNatClampNeg = (nn i).toNatClampNeg := rfl
          refine z_aload_n 32 C0 1 dX3_call_31 rfl rfl rfl ?_
          refine z_get 35 C0 8 1 wz_5 rfl (by decide) (zTs_in wk_71) dX3_call_32 rfl rfl rfl ?_
          refine z_iload 37 C0 2 dX3_call_35 rfl rfl ?_
          refine z_ialdN 38 C0 9 (v := (nI 16)) dX3_call_37 rfl rfl (by omega) (by decide) hop ?_
          refine z_istore 40 C0 [1, 2, 3, 4, 0] [(0, .ref m), (1, .ref p), (5, .int (nI i)), (6, .int (nI (k + 1))), (7, .int (nI 16))] dX3_call_38 rfl (by decide) rfl ?_
          refine z_aload_n 41 C0 1 dX3_call_40 rfl rfl rfl ?_
          refine z_get 44 C0 8 2 wz_5 rfl (by decide) (zTs_in wk_74) dX3_call_41 rfl rfl rfl ?_
          refine z_iload 46 C0 2 dX3_call_44 rfl rfl ?_
          refine z_ialdN 47 C0 10 (v := (nn i)) dX3_call_46 rfl rfl (by omega) (by decide) rfl ?_
          refine z_istore 49 C0 [1, 2, 3, 4, 5, 0] [(0, .ref m), (1, .ref p), (5, .int (nI i)), (6, .int (nI (k + 1))), (7, .int (nI 16)), (8, .int (nn i))] dX3_call_47 rfl (by decide) rfl ?_
          refine z_iload 51 C0 4 dX3_call_49 rfl rfl ?_
          refine z_bipush 53 C0 (v := (nI 17)) dX3_call_51 rfl rfl ?_
          refine z_icmp_eqN 56 63 C0 (by decide) (by decide) dX3_call_53 rfl (by decide) (fun k53 => absurd k53 (by omega)) (fun k53 => ?_)
          refine z_iload 58 C0 4 dX3_call_56 rfl rfl ?_
          refine z_bipush 60 C0 (v := (nI 18)) dX3_call_58 rfl rfl ?_
          refine z_icmp_neN 63 98 C0 (by decide) (by decide) dX3_call_60 rfl (by decide) (fun k60 => ?_) (fun k60 => absurd k60 (by omega))
          refine z_iload 100 C0 4 dX3_call_98 rfl rfl ?_
          refine z_bipush 102 C0 (v := (nI 16)) dX3_call_100 rfl rfl ?_
          refine z_icmp_neN 105 116 C0 (by decide) (by decide) dX3_call_102 rfl (by decide) (fun k102 => absurd k102 (by omega)) (fun k102 => ?_)
          refine z_aload_n 106 C0 0 dX3_call_105 rfl rfl rfl ?_
          refine z_get 109 C0 0 6 wz_3 rfl (by decide) (zTs_in wk_127) dX3_call_106 rfl rfl rfl ?_
          refine z_bipush 111 C0 (v := (nI 20)) dX3_call_109 rfl rfl ?_
          refine z_icmp_ltN 114 116 C0 (by omega) (by decide) dX3_call_111 rfl (by decide) (fun k111 => ?_) (fun k111 => ?_)
          · skip
            refine z_iload 118 C0 4 dX3_call_116 rfl rfl ?_
            refine z_callSNi 121 C0 [] [0, 1, 2, 3, 4, 5, 6, 7, 8, 9, 10] [(m, zo 3 [.ref ma, .ref ml, .ref ms, .int (nI h), .int an, .ref mp, .int (nI (P.length)), .ref mt]), (ma, zi E 3 ar1), (ml, zi E 4 lo), (ms, zi E 8 st), (mp, zo 4 [.ref mpk, .ref mpv, .int (nI (rwN 600 n P))]), (mpk, zi E 600 (rwK 600 n f P)), (mpv, zi E 600 (rwV 600 n g P)), (mt, zi E 4 (zn stp)), (p, zo 5 [.int (nI kd), .ref po, .ref pn, .int (nI len)]), (po, zi E 64 op), (pn, zi E 64 nn)] 0 0 (As := [.int (nI 16)]) (n := 1) (isJump l_ E 16 (by omega)) (zTs_good (fun _ => zTs_in) wk_276) rfl C0.2.2.2.2.2.2.2.2.2.1.1.2.2.2.2.1 (zTs_in wk_12) (zTs_in wk_275) ⟨by decide, by decide, by decide +kernel⟩ rfl rfl (by decide) rfl rfl (Nat.le_of_ble_eq_true rfl) ⟨by decide, by decide⟩ rfl rfl ⟨by decide, by decide⟩ ⟨by decide, by decide⟩ dX3_call_118 rfl (fun r118 w118 hB118 => ?_)
            obtain ⟨rfl, rfl⟩ := hB118
            refine z_perm [0, 1, 2, 3, 4, 5, 6, 7, 8, 9, 10] [(m, zo 3 [.ref ma, .ref ml, .ref ms, .int (nI h), .int an, .ref mp, .int (nI (P.length)), .ref mt]), (ma, zi E 3 ar1), (ml, zi E 4 lo), (ms, zi E 8 st), (mp, zo 4 [.ref mpk, .ref mpv, .int (nI (rwN 600 n P))]), (mpk, zi E 600 (rwK 600 n f P)), (mpv, zi E 600 (rwV 600 n g P)), (mt, zi E 4 (zn stp)), (p, zo 5 [.int (nI kd), .ref po, .ref pn, .int (nI len)]), (po, zi E 64 op), (pn, zi E 64 nn)] (by decide) rfl ?_
            refine z_if_eqP 124 139 C0 dX3_call_121 rfl (by decide) (fun k121 => ?_) (fun k121 => absurd k121 (by omega))
            refine z_iload 141 C0 4 dX3_call_139 rfl rfl ?_
            refine z_callSNi 144 C0 [] [0, 1, 2, 3, 4, 5, 6, 7, 8, 9, 10] [(m, zo 3 [.ref ma, .ref ml, .ref ms, .int (nI h), .int an, .ref mp, .int (nI (P.length)), .ref mt]), (ma, zi E 3 ar1), (ml, zi E 4 lo), (ms, zi E 8 st), (mp, zo 4 [.ref mpk, .ref mpv, .int (nI (rwN 600 n P))]), (mpk, zi E 600 (rwK 600 n f P)), (mpv, zi E 600 (rwV 600 n g P)), (mt, zi E 4 (zn stp)), (p, zo 5 [.int (nI kd), .ref po, .ref pn, .int (nI len)]), (po, zi E 64 op), (pn, zi E 64 nn)] 0 0 (As := [.int (nI 16)]) (n := 1) (isComb l_ E 16 (by omega)) (zTs_good (fun _ => zTs_in) wk_360) rfl C0.2.2.2.2.2.2.2.2.2.1.1.2.2.2.2.2 (zTs_in wk_12) (zTs_in wk_359) ⟨by decide, by decide, by decide +kernel⟩ rfl rfl (by decide) rfl rfl (Nat.le_of_ble_eq_true rfl) ⟨by decide, by decide⟩ rfl rfl ⟨by decide, by decide⟩ ⟨by decide, by decide⟩ dX3_call_141 rfl (fun r141 w141 hB141 => ?_)
            obtain ⟨rfl, rfl⟩ := hB141
            refine z_perm [0, 1, 2, 3, 4, 5, 6, 7, 8, 9, 10] [(m, zo 3 [.ref ma, .ref ml, .ref ms, .int (nI h), .int an, .ref mp, .int (nI (P.length)), .ref mt]), (ma, zi E 3 ar1), (ml, zi E 4 lo), (ms, zi E 8 st), (mp, zo 4 [.ref mpk, .ref mpv, .int (nI (rwN 600 n P))]), (mpk, zi E 600 (rwK 600 n f P)), (mpv, zi E 600 (rwV 600 n g P)), (mt, zi E 4 (zn stp)), (p, zo 5 [.int (nI kd), .ref po, .ref pn, .int (nI len)]), (po, zi E 64 op), (pn, zi E 64 nn)] (by decide) rfl ?_
            refine z_if_eqP 147 156 C0 dX3_call_144 rfl (by decide) (fun k144 => ?_) (fun k144 => absurd k144 (by omega))
            refine z_aload_n 157 C0 0 dX3_call_156 rfl rfl rfl ?_
            refine z_iload 159 C0 4 dX3_call_157 rfl rfl ?_
            refine z_iload 161 C0 5 dX3_call_159 rfl rfl ?_
            refine z_callVv 164 C0 [0, 1, 2, 3, 4, 5, 6] [7, 8, 9, 10] [(mt, zi E 4 (zn stp)), (p, zo 5 [.int (nI kd), .ref po, .ref pn, .int (nI len)]), (po, zi E 64 op), (pn, zi E 64 nn)] 0 0 (As := [.int (nI 16), .int (nn i)]) (T := TX3) (N := 8) (C := RX3) (ci := 3) (n := 2) 0 (move16 l_ E m ma ml ms mp mt h an (P.length) ar1 lo st mpk mpv (rwK 600 n f P) (rwV 600 n g P) (rwN 600 n P) (nn i) (by omega) (by omega) (rwN_le hn) (by omega)) (zGIV (fun _ => zTs_in) wk_375 wk_372 wk_373 wk_374 wk_18) rfl ⟨rfl, by decide, by decide, by decide +kernel⟩ rfl rfl rfl rfl (by decide) rfl rfl (Nat.le_of_ble_eq_true rfl) ⟨by decide, by decide⟩ rfl rfl ⟨by decide, by decide⟩ ⟨by decide, by decide⟩ dX3_call_161 rfl (fun w161 hB161 => ?_)
            obtain rfl := hB161
            refine z_perm [4, 5, 6, 7, 8, 9, 10, 0, 1, 2, 3] [(m, zo 3 [.ref ma, .ref ml, .ref ms, .int (nI (h - 2)), .int an, .ref mp, .int (nI ((P.length) + 1)), .ref mt]), (ma, zi E 3 ar1), (ml, zi E 4 lo), (ms, zi E 8 st), (mp, zo 4 [.ref mpk, .ref mpv, .int (nI (capN 600 (rwN 600 n P)))]), (mpk, zi E 600 (capU 600 (rwN 600 n P) (rwK 600 n f P) (st (h - 2)))), (mpv, zi E 600 (capU 600 (rwN 600 n P) (rwV 600 n g P) (st (h - 1)))), (mt, zi E 4 (zn stp)), (p, zo 5 [.int (nI kd), .ref po, .ref pn, .int (nI len)]), (po, zi E 64 op), (pn, zi E 64 nn)] (by decide) rfl ?_
            refine z_eq (L1 := [(0, .ref m), (1, .ref p), (5, .int (nI i)), (6, .int (nI (k + 1))), (7, .int (nI 16)), (8, .int (nn i))]) (st1 := []) (w1 := [(m, zo 3 [.ref ma, .ref ml, .ref ms, .int (nI (h - 2)), .int an, .ref mp, .int (nI ((P ++ [(st (h - 2), st (h - 1))]).length)), .ref mt]), (ma, zi E 3 ar1), (ml, zi E 4 lo), (ms, zi E 8 st), (mp, zo 4 [.ref mpk, .ref mpv, .int (nI (rwN 600 n (P ++ [(st (h - 2), st (h - 1))])))]), (mpk, zi E 600 (rwK 600 n f (P ++ [(st (h - 2), st (h - 1))]))), (mpv, zi E 600 (rwV 600 n g (P ++ [(st (h - 2), st (h - 1))]))), (mt, zi E 4 (zn stp)), (p, zo 5 [.int (nI kd), .ref po, .ref pn, .int (nI len)]), (po, zi E 64 op), (pn, zi E 64 nn)]) rfl rfl (by rw [rwK_s hn, rwV_s hn, rwN_s hn, List.length_append]; rfl) ?_
            refine z_iinc 167 C0 2 [1, 2, 0, 3, 4, 5] [(0, .ref m), (1, .ref p), (5, .int (nI (i + 1))), (6, .int (nI (k + 1))), (7, .int (nI 16)), (8, .int (nn i))] (v := (nI (i + 1))) dX3_call_164 rfl rfl (z_incN _ _) (by decide) rfl ?_
            refine z_iinc 170 C0 3 [1, 2, 3, 0, 4, 5] [(0, .ref m), (1, .ref p), (5, .int (nI (i + 1))), (6, .int (nI (k + 2))), (7, .int (nI 16)), (8, .int (nn i))] (v := (nI (k + 2))) dX3_call_167 rfl rfl ((z_incN (k + 1) 1).trans (congrArg nI (by omega))) (by decide) rfl ?_
            refine z_goto 14 C0 dX3_call_170 (by decide) ?_
            refine z_loc [0, 1, 2, 3] [(0, .ref m), (1, .ref p), (5, .int (nI (i + 1))), (6, .int (nI (k + 2)))] rfl ?_
            exact ih14 (k + 1) fu (i + 1) (h - 2) lo st (P ++ [(st (h - 2), st (h - 1))]) (by omega) (hR.next ho ⟨by decide, by decide, by decide⟩) (by rw [List.length_append]; simp only [List.length_singleton]; omega) ((mRun_step hop (by decide) (by decide) (by decide) (by omega) hcl).symm.trans hM) (by omega)
          · skip
            refine z_iconst 115 C0 (v := (nI 0)) dX3_call_114 rfl rfl ?_
            have hh8 := (hG.at hR).2.1
            have hres : (callR op nn a b d) = (0, 0, 0, P) := hM.symm.trans (mRun_16 hop k111)
            exact z_iret C0 rfl dX3_call_115 ⟨h, an, ar1, lo, st, ⟨(by rw [hres]), (by rw [hres]; rfl)⟩, (by omega), (fun q => absurd (by rw [hres]) q)⟩ (by decide) (by decide)
        · skip
          have hup : h + 0 - 0 ≤ 8 := ho.2.2.2
          have hcl : (nn i).toNatClampNeg = (nn i).toNatClampNeg := rfl
          refine z_aload_n 32 C0 1 dX3_call_31 rfl rfl rfl ?_
          refine z_get 35 C0 8 1 wz_5 rfl (by decide) (zTs_in wk_71) dX3_call_32 rfl rfl rfl ?_
          refine z_iload 37 C0 2 dX3_call_35 rfl rfl ?_
          refine z_ialdN 38 C0 9 (v := (nI 17)) dX3_call_37 rfl rfl (by omega) (by decide) hop ?_
          refine z_istore 40 C0 [1, 2, 3, 4, 0] [(0, .ref m), (1, .ref p), (5, .int (nI i)), (6, .int (nI (k + 1))), (7, .int (nI 17))] dX3_call_38 rfl (by decide) rfl ?_
          refine z_aload_n 41 C0 1 dX3_call_40 rfl rfl rfl ?_
          refine z_get 44 C0 8 2 wz_5 rfl (by decide) (zTs_in wk_74) dX3_call_41 rfl rfl rfl ?_
          refine z_iload 46 C0 2 dX3_call_44 rfl rfl ?_
          refine z_ialdN 47 C0 10 (v := (nn i)) dX3_call_46 rfl rfl (by omega) (by decide) rfl ?_
          refine z_istore 49 C0 [1, 2, 3, 4, 5, 0] [(0, .ref m), (1, .ref p), (5, .int (nI i)), (6, .int (nI (k + 1))), (7, .int (nI 17)), (8, .int (nn i))] dX3_call_47 rfl (by decide) rfl ?_
          refine z_iload 51 C0 4 dX3_call_49 rfl rfl ?_
          refine z_bipush 53 C0 (v := (nI 17)) dX3_call_51 rfl rfl ?_
          refine z_icmp_eqN 56 63 C0 (by decide) (by decide) dX3_call_53 rfl (by decide) (fun k53 => ?_) (fun k53 => absurd k53 (by omega))
          refine z_aload_n 64 C0 0 dX3_call_63 rfl rfl rfl ?_
          refine z_get 67 C0 0 7 wz_3 rfl (by decide) (zTs_in wk_129) dX3_call_64 rfl rfl rfl ?_
          refine z_aload_n 68 C0 1 dX3_call_67 rfl rfl rfl ?_
          refine z_get 71 C0 8 0 wz_5 rfl (by decide) (zTs_in wk_68) dX3_call_68 rfl rfl rfl ?_
          refine z_dup2 72 C0 dX3_call_71 rfl rfl rfl ?_
          refine z_ialdN 73 C0 7 (v := (nI (stp kd))) dX3_call_72 rfl rfl (by omega) (by decide) rfl ?_
          refine z_iload 75 C0 3 dX3_call_73 rfl rfl ?_
          refine z_iadd 76 C0 (v := (nI ((stp kd) + (k + 1)))) dX3_call_75 rfl (nI_add _ _) ?_
          refine z_iastN 77 C0 7 [(m, zo 3 [.ref ma, .ref ml, .ref ms, .int (nI h), .int an, .ref mp, .int (nI (P.length)), .ref mt]), (ma, zi E 3 ar1), (ml, zi E 4 lo), (ms, zi E 8 st), (mp, zo 4 [.ref mpk, .ref mpv, .int (nI (rwN 600 n P))]), (mpk, zi E 600 (rwK 600 n f P)), (mpv, zi E 600 (rwV 600 n g P)), (mt, zi E 4 (zn (va_up stp kd ((stp kd) + (k + 1))))), (p, zo 5 [.int (nI kd), .ref po, .ref pn, .int (nI len)]), (po, zi E 64 op), (pn, zi E 64 nn)] dX3_call_76 rfl rfl (by omega) (by decide) (by rw [z_upN]; rfl) ?_
          refine z_aload_n 78 C0 0 dX3_call_77 rfl rfl rfl ?_
          refine z_aload_n 79 C0 0 dX3_call_78 rfl rfl rfl ?_
          refine z_callVi 82 C0 [0, 3] [1, 2, 4, 5, 6, 7, 8, 9, 10] [(ma, zi E 3 ar1), (ml, zi E 4 lo), (mp, zo 4 [.ref mpk, .ref mpv, .int (nI (rwN 600 n P))]), (mpk, zi E 600 (rwK 600 n f P)), (mpv, zi E 600 (rwV 600 n g P)), (mt, zi E 4 (zn (va_up stp kd ((stp kd) + (k + 1))))), (p, zo 5 [.int (nI kd), .ref po, .ref pn, .int (nI len)]), (po, zi E 64 op), (pn, zi E 64 nn)] 0 0 (As := []) (T := TX3) (N := 8) (C := RX3) (ci := 3) (n := 0) 0 (pop l_ E m ma ml ms mp mt h an (P.length) st (by omega)) (zGIV (fun _ => zTs_in) wk_352 wk_349 wk_350 wk_351 wk_18) rfl ⟨rfl, by decide, by decide, by decide +kernel⟩ rfl rfl rfl rfl (by decide) rfl rfl (Nat.le_of_ble_eq_true rfl) ⟨by decide, by decide⟩ rfl rfl ⟨by decide, by decide⟩ ⟨by decide, by decide⟩ dX3_call_79 rfl (fun r79 w79 hB79 => ?_)
          obtain ⟨rfl, rfl⟩ := hB79
          refine z_perm [9, 0, 1, 10, 2, 3, 4, 5, 6, 7, 8] [(m, zo 3 [.ref ma, .ref ml, .ref ms, .int (nI (h - 1)), .int an, .ref mp, .int (nI (P.length)), .ref mt]), (ma, zi E 3 ar1), (ml, zi E 4 lo), (ms, zi E 8 st), (mp, zo 4 [.ref mpk, .ref mpv, .int (nI (rwN 600 n P))]), (mpk, zi E 600 (rwK 600 n f P)), (mpv, zi E 600 (rwV 600 n g P)), (mt, zi E 4 (zn (va_up stp kd ((stp kd) + (k + 1))))), (p, zo 5 [.int (nI kd), .ref po, .ref pn, .int (nI len)]), (po, zi E 64 op), (pn, zi E 64 nn)] (by decide) rfl ?_
          refine z_put 85 C0 0 4 [(m, zo 3 [.ref ma, .ref ml, .ref ms, .int (nI (h - 1)), .int (popV h st), .ref mp, .int (nI (P.length)), .ref mt]), (ma, zi E 3 ar1), (ml, zi E 4 lo), (ms, zi E 8 st), (mp, zo 4 [.ref mpk, .ref mpv, .int (nI (rwN 600 n P))]), (mpk, zi E 600 (rwK 600 n f P)), (mpv, zi E 600 (rwV 600 n g P)), (mt, zi E 4 (zn (va_up stp kd ((stp kd) + (k + 1))))), (p, zo 5 [.int (nI kd), .ref po, .ref pn, .int (nI len)]), (po, zi E 64 op), (pn, zi E 64 nn)] wz_3 rfl (by decide) (zTs_in wk_123) tyX3 tyX3_ok nmX3 rfl rfl rfl rfl dX3_call_82 rfl rfl (Nat.le_of_ble_eq_true rfl) rfl ?_
          refine z_iload 87 C0 4 dX3_call_85 rfl rfl ?_
          refine z_bipush 89 C0 (v := (nI 17)) dX3_call_87 rfl rfl ?_
          refine z_icmp_neN 92 96 C0 (by decide) (by decide) dX3_call_89 rfl (by decide) (fun k89 => absurd k89 (by omega)) (fun k89 => ?_)
          refine z_iconst 93 C0 (v := (nI 1)) dX3_call_92 rfl rfl ?_
          refine z_goto 97 C0 dX3_call_93 (by decide) ?_
          have hres : (callR op nn a b d) = (1, popV h st, k + 1, P) := hM.symm.trans (mRun_17 hop)
          exact z_iret C0 rfl dX3_call_97 ⟨(h - 1), (popV h st), ar1, lo, st, ⟨(by rw [hres]), (by rw [hres]; rfl)⟩, (by omega), (fun _ => by rw [hres])⟩ (by decide) (by decide)
        · skip
          have hnd : 0 ≤ h := by have := ho.2.2.1; simpa [pNeed, nNeed] using this
          have hup : h + 0 - 0 ≤ 8 := ho.2.2.2
          have hcl : (nn i).toNatClampNeg = (nn i).toNatClampNeg := rfl
          refine z_aload_n 32 C0 1 dX3_call_31 rfl rfl rfl ?_
          refine z_get 35 C0 8 1 wz_5 rfl (by decide) (zTs_in wk_71) dX3_call_32 rfl rfl rfl ?_
          refine z_iload 37 C0 2 dX3_call_35 rfl rfl ?_
          refine z_ialdN 38 C0 9 (v := (nI 18)) dX3_call_37 rfl rfl (by omega) (by decide) hop ?_
          refine z_istore 40 C0 [1, 2, 3, 4, 0] [(0, .ref m), (1, .ref p), (5, .int (nI i)), (6, .int (nI (k + 1))), (7, .int (nI 18))] dX3_call_38 rfl (by decide) rfl ?_
          refine z_aload_n 41 C0 1 dX3_call_40 rfl rfl rfl ?_
          refine z_get 44 C0 8 2 wz_5 rfl (by decide) (zTs_in wk_74) dX3_call_41 rfl rfl rfl ?_
          refine z_iload 46 C0 2 dX3_call_44 rfl rfl ?_
          refine z_ialdN 47 C0 10 (v := (nn i)) dX3_call_46 rfl rfl (by omega) (by decide) rfl ?_
          refine z_istore 49 C0 [1, 2, 3, 4, 5, 0] [(0, .ref m), (1, .ref p), (5, .int (nI i)), (6, .int (nI (k + 1))), (7, .int (nI 18)), (8, .int (nn i))] dX3_call_47 rfl (by decide) rfl ?_
          refine z_iload 51 C0 4 dX3_call_49 rfl rfl ?_
          refine z_bipush 53 C0 (v := (nI 17)) dX3_call_51 rfl rfl ?_
          refine z_icmp_eqN 56 63 C0 (by decide) (by decide) dX3_call_53 rfl (by decide) (fun k53 => absurd k53 (by omega)) (fun k53 => ?_)
          refine z_iload 58 C0 4 dX3_call_56 rfl rfl ?_
          refine z_bipush 60 C0 (v := (nI 18)) dX3_call_58 rfl rfl ?_
          refine z_icmp_neN 63 98 C0 (by decide) (by decide) dX3_call_60 rfl (by decide) (fun k60 => absurd k60 (by omega)) (fun k60 => ?_)
          refine z_aload_n 64 C0 0 dX3_call_63 rfl rfl rfl ?_
          refine z_get 67 C0 0 7 wz_3 rfl (by decide) (zTs_in wk_129) dX3_call_64 rfl rfl rfl ?_
          refine z_aload_n 68 C0 1 dX3_call_67 rfl rfl rfl ?_
          refine z_get 71 C0 8 0 wz_5 rfl (by decide) (zTs_in wk_68) dX3_call_68 rfl rfl rfl ?_
          refine z_dup2 72 C0 dX3_call_71 rfl rfl rfl ?_
          refine z_ialdN 73 C0 7 (v := (nI (stp kd))) dX3_call_72 rfl rfl (by omega) (by decide) rfl ?_
          refine z_iload 75 C0 3 dX3_call_73 rfl rfl ?_
          refine z_iadd 76 C0 (v := (nI ((stp kd) + (k + 1)))) dX3_call_75 rfl (nI_add _ _) ?_
          refine z_iastN 77 C0 7 [(m, zo 3 [.ref ma, .ref ml, .ref ms, .int (nI h), .int an, .ref mp, .int (nI (P.length)), .ref mt]), (ma, zi E 3 ar1), (ml, zi E 4 lo), (ms, zi E 8 st), (mp, zo 4 [.ref mpk, .ref mpv, .int (nI (rwN 600 n P))]), (mpk, zi E 600 (rwK 600 n f P)), (mpv, zi E 600 (rwV 600 n g P)), (mt, zi E 4 (zn (va_up stp kd ((stp kd) + (k + 1))))), (p, zo 5 [.int (nI kd), .ref po, .ref pn, .int (nI len)]), (po, zi E 64 op), (pn, zi E 64 nn)] dX3_call_76 rfl rfl (by omega) (by decide) (by rw [z_upN]; rfl) ?_
          refine z_aload_n 78 C0 0 dX3_call_77 rfl rfl rfl ?_
          refine z_aload_n 79 C0 0 dX3_call_78 rfl rfl rfl ?_
          refine z_callVi 82 C0 [0, 3] [1, 2, 4, 5, 6, 7, 8, 9, 10] [(ma, zi E 3 ar1), (ml, zi E 4 lo), (mp, zo 4 [.ref mpk, .ref mpv, .int (nI (rwN 600 n P))]), (mpk, zi E 600 (rwK 600 n f P)), (mpv, zi E 600 (rwV 600 n g P)), (mt, zi E 4 (zn (va_up stp kd ((stp kd) + (k + 1))))), (p, zo 5 [.int (nI kd), .ref po, .ref pn, .int (nI len)]), (po, zi E 64 op), (pn, zi E 64 nn)] 0 0 (As := []) (T := TX3) (N := 8) (C := RX3) (ci := 3) (n := 0) 0 (pop l_ E m ma ml ms mp mt h an (P.length) st (by omega)) (zGIV (fun _ => zTs_in) wk_352 wk_349 wk_350 wk_351 wk_18) rfl ⟨rfl, by decide, by decide, by decide +kernel⟩ rfl rfl rfl rfl (by decide) rfl rfl (Nat.le_of_ble_eq_true rfl) ⟨by decide, by decide⟩ rfl rfl ⟨by decide, by decide⟩ ⟨by decide, by decide⟩ dX3_call_79 rfl (fun r79 w79 hB79 => ?_)
          obtain ⟨rfl, rfl⟩ := hB79
          refine z_perm [9, 0, 1, 10, 2, 3, 4, 5, 6, 7, 8] [(m, zo 3 [.ref ma, .ref ml, .ref ms, .int (nI (h - 1)), .int an, .ref mp, .int (nI (P.length)), .ref mt]), (ma, zi E 3 ar1), (ml, zi E 4 lo), (ms, zi E 8 st), (mp, zo 4 [.ref mpk, .ref mpv, .int (nI (rwN 600 n P))]), (mpk, zi E 600 (rwK 600 n f P)), (mpv, zi E 600 (rwV 600 n g P)), (mt, zi E 4 (zn (va_up stp kd ((stp kd) + (k + 1))))), (p, zo 5 [.int (nI kd), .ref po, .ref pn, .int (nI len)]), (po, zi E 64 op), (pn, zi E 64 nn)] (by decide) rfl ?_
          refine z_put 85 C0 0 4 [(m, zo 3 [.ref ma, .ref ml, .ref ms, .int (nI (h - 1)), .int (popV h st), .ref mp, .int (nI (P.length)), .ref mt]), (ma, zi E 3 ar1), (ml, zi E 4 lo), (ms, zi E 8 st), (mp, zo 4 [.ref mpk, .ref mpv, .int (nI (rwN 600 n P))]), (mpk, zi E 600 (rwK 600 n f P)), (mpv, zi E 600 (rwV 600 n g P)), (mt, zi E 4 (zn (va_up stp kd ((stp kd) + (k + 1))))), (p, zo 5 [.int (nI kd), .ref po, .ref pn, .int (nI len)]), (po, zi E 64 op), (pn, zi E 64 nn)] wz_3 rfl (by decide) (zTs_in wk_123) tyX3 tyX3_ok nmX3 rfl rfl rfl rfl dX3_call_82 rfl rfl (Nat.le_of_ble_eq_true rfl) rfl ?_
          refine z_iload 87 C0 4 dX3_call_85 rfl rfl ?_
          refine z_bipush 89 C0 (v := (nI 17)) dX3_call_87 rfl rfl ?_
          refine z_icmp_neN 92 96 C0 (by decide) (by decide) dX3_call_89 rfl (by decide) (fun k89 => ?_) (fun k89 => absurd k89 (by omega))
          refine z_iconst 97 C0 (v := (nI 2)) dX3_call_96 rfl rfl ?_
          have hres : (callR op nn a b d) = (2, popV h st, k + 1, P) := hM.symm.trans (mRun_18 hop)
          exact z_iret C0 rfl dX3_call_97 ⟨(h - 1), (popV h st), ar1, lo, st, ⟨(by rw [hres]), (by rw [hres]; rfl)⟩, (by omega), (fun _ => by rw [hres])⟩ (by decide) (by decide)
  refine z_loc [0, 1, 5, 6] [(0, .ref m), (1, .ref p), (5, .int (nI 0)), (6, .int (nI 1))] rfl ?_
  exact CUT14 (300 + 1 + 1) 0 300 0 0 (fun _ => 0) st ([] : List (Int32 × Int32)) rfl Rch.zero (by decide) (mRun_congr hG hlen (fun j hj => by rw [← har1]; exact argV_at a b d ar j hj) 300 0 0 0 _ _ _ _ [] Rch.zero (fun j hj => absurd hj (Nat.not_lt_zero j)) (fun _ _ => rfl)) (Nat.lt_succ_self _)
