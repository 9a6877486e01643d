/-- the size, clamped -/
def clampS (a : Int32) : Nat := if a < 1 then 1 else if nI 16 < a then 16 else a.toNatClampNeg
theorem clampS_in (a : Int32) : 1 ≤ clampS a ∧ clampS a ≤ 16 := by
  unfold clampS
  split
  · omega
  · split
    · omega
    · rename_i h1 h2
      have h3 : ¬ a < 0 := by rw [Int32.lt_iff_toInt_lt] at h1 ⊢; have : (1 : Int32).toInt = 1 := by decide
                              have h0 : (0 : Int32).toInt = 0 := by decide
                              omega
      obtain ⟨j, hj, rfl⟩ := nI_of h3
      rw [nI_clamp hj]
      have a1 := nI_toInt hj
      have a2 : (nI 16).toInt = 16 := by decide
      have a3 : (1 : Int32).toInt = 1 := by decide
      rw [Int32.lt_iff_toInt_lt] at h1 h2
      omega
theorem clampS_val (a : Int32) : nI (clampS a) = if a < 1 then 1 else if nI 16 < a then nI 16 else a := by
  unfold clampS
  split
  · rfl
  · split
    · rfl
    · rename_i h1 h2
      have h3 : ¬ a < 0 := by rw [Int32.lt_iff_toInt_lt] at h1 ⊢; have : (1 : Int32).toInt = 1 := by decide
                              have h0 : (0 : Int32).toInt = 0 := by decide
                              omega
      obtain ⟨j, hj, rfl⟩ := nI_of h3
      rw [nI_clamp hj]
theorem clampS_eq (a : Int32) : (if nI 1 < (if a < nI 16 then a else nI 16) then (if a < nI 16 then a else nI 16) else nI 1) = nI (clampS a) := by
  rw [clampS_val]
  have a2 : (nI 16).toInt = 16 := by decide
  have a3 : (1 : Int32).toInt = 1 := by decide
  have a4 : (nI 1).toInt = 1 := by decide
  by_cases h : a < nI 16
  · rw [if_pos h]
    by_cases h1 : nI 1 < a
    · rw [if_pos h1, if_neg (by rw [Int32.lt_iff_toInt_lt] at *; omega), if_neg (by rw [Int32.lt_iff_toInt_lt] at *; omega)]
    · rw [if_neg h1]
      by_cases h2 : a < 1
      · rw [if_pos h2]; rfl
      · rw [if_neg h2, if_neg (by rw [Int32.lt_iff_toInt_lt] at *; omega)]
        exact Int32.toInt_inj.mp (by rw [Int32.lt_iff_toInt_lt] at *; omega)
  · rw [if_neg h, if_pos (by decide), if_neg (by rw [Int32.lt_iff_toInt_lt] at *; omega)]
    by_cases h2 : nI 16 < a
    · rw [if_pos h2]
    · rw [if_neg h2]
      exact Int32.toInt_inj.mp (by rw [Int32.lt_iff_toInt_lt] at *; omega)
set_option maxHeartbeats 4000000 in
set_option maxRecDepth 100000 in
theorem rinit_120 (l_ : Launch) (E : zE) (r : Nat)  : zMv l_ E yX4_init (zTs yX4_init cX4_init 2 none) ({ frames := 1, cells := 2, slots := 240, locals := 20 } : Room) [.ref r, .int (nI 120)] [(r, zo 4 [.null, .null, .int (nI 0)])] (fun w_ => ∃ k : Nat, ∃ v : Nat, (w_ = [(r, zo 4 [.ref k, .ref v, .int (nI 0)]), (k, zi E 120 (fun _ => 0)), (v, zi E 120 (fun _ => 0))])) 2 240 := by
  refine zMv.of (cc := cX4_init) (nL := 2) (ret := none) (by decide) rfl (Nat.le_of_ble_eq_true rfl) ?_
  intro p_ e_ s_ m_ args_ below_ meth_ c_ A_ C0 hin0
  have C0 : zC E p_ s_ m_ args_ meth_ c_ cX4_init 2 none RX4 (zTs yX4_init cX4_init 2 none) A_ := C0
  refine z_eqL (L1 := [(0, .ref r), (1, .int (nI 120))]) rfl ?_
  refine z_aload_n 1 C0 0 dX4_init_0 rfl rfl rfl ?_
  refine z_objInit 4 C0 (zTs_in wk_43) (zTs_in wk_30) (zTs_in wk_31) dX4_init_1 rfl (Nat.le_of_ble_eq_true rfl) (by decide) (by decide) ?_
  refine z_aload_n 5 C0 0 dX4_init_4 rfl rfl rfl ?_
  refine z_iload_n 6 C0 1 dX4_init_5 rfl rfl rfl ?_
  refine z_newi 8 C0 1 120 (zTs_in wk_59) (by decide) (by decide) (by decide) dX4_init_6 rfl (fun q6 => ?_)
  refine z_eqw (w1 := [(r, zo 4 [.null, .null, .int (nI 0)]), (q6, zi E 120 (fun _ => 0))]) rfl ?_
  refine z_putF 11 C0 0 0 [(r, zo 4 [.ref q6, .null, .int (nI 0)]), (q6, zi E 120 (fun _ => 0))] wz_4 rfl (by decide) (zTs_in wk_44) tyX4 tyX4_ok nmX4 rfl (hin0 rfl) rfl rfl rfl rfl dX4_init_8 rfl rfl (Nat.le_of_ble_eq_true rfl) rfl ?_
  refine z_aload_n 12 C0 0 dX4_init_11 rfl rfl rfl ?_
  refine z_iload_n 13 C0 1 dX4_init_12 rfl rfl rfl ?_
  refine z_newi 15 C0 2 240 (zTs_in wk_59) (by decide) (by decide) (by decide) dX4_init_13 rfl (fun q13 => ?_)
  refine z_eqw (w1 := [(r, zo 4 [.ref q6, .null, .int (nI 0)]), (q6, zi E 120 (fun _ => 0)), (q13, zi E 120 (fun _ => 0))]) rfl ?_
  refine z_putF 18 C0 0 1 [(r, zo 4 [.ref q6, .ref q13, .int (nI 0)]), (q6, zi E 120 (fun _ => 0)), (q13, zi E 120 (fun _ => 0))] wz_4 rfl (by decide) (zTs_in wk_46) tyX4 tyX4_ok nmX4 rfl (hin0 rfl) rfl rfl rfl rfl dX4_init_15 rfl rfl (Nat.le_of_ble_eq_true rfl) rfl ?_
  refine z_aload_n 19 C0 0 dX4_init_18 rfl rfl rfl ?_
  refine z_iconst 20 C0 (v := (nI 0)) dX4_init_19 rfl rfl ?_
  refine z_put 23 C0 0 2 [(r, zo 4 [.ref q6, .ref q13, .int (nI 0)]), (q6, zi E 120 (fun _ => 0)), (q13, zi E 120 (fun _ => 0))] wz_4 rfl (by decide) (zTs_in wk_48) tyX4 tyX4_ok nmX4 rfl rfl rfl rfl dX4_init_20 rfl rfl (Nat.le_of_ble_eq_true rfl) rfl ?_
  exact z_vret C0 rfl dX4_init_23 ⟨q6, q13, rfl⟩ (by decide) (by decide)

set_option maxHeartbeats 4000000 in
set_option maxRecDepth 100000 in
theorem rinit_600 (l_ : Launch) (E : zE) (r : Nat)  : zMv l_ E yX4_init (zTs yX4_init cX4_init 2 none) ({ frames := 1, cells := 2, slots := 1200, locals := 20 } : Room) [.ref r, .int (nI 600)] [(r, zo 4 [.null, .null, .int (nI 0)])] (fun w_ => ∃ k : Nat, ∃ v : Nat, (w_ = [(r, zo 4 [.ref k, .ref v, .int (nI 0)]), (k, zi E 600 (fun _ => 0)), (v, zi E 600 (fun _ => 0))])) 2 1200 := by
  refine zMv.of (cc := cX4_init) (nL := 2) (ret := none) (by decide) rfl (Nat.le_of_ble_eq_true rfl) ?_
  intro p_ e_ s_ m_ args_ below_ meth_ c_ A_ C0 hin0
  have C0 : zC E p_ s_ m_ args_ meth_ c_ cX4_init 2 none RX4 (zTs yX4_init cX4_init 2 none) A_ := C0
  refine z_eqL (L1 := [(0, .ref r), (1, .int (nI 600))]) rfl ?_
  refine z_aload_n 1 C0 0 dX4_init_0 rfl rfl rfl ?_
  refine z_objInit 4 C0 (zTs_in wk_43) (zTs_in wk_30) (zTs_in wk_31) dX4_init_1 rfl (Nat.le_of_ble_eq_true rfl) (by decide) (by decide) ?_
  refine z_aload_n 5 C0 0 dX4_init_4 rfl rfl rfl ?_
  refine z_iload_n 6 C0 1 dX4_init_5 rfl rfl rfl ?_
  refine z_newi 8 C0 1 600 (zTs_in wk_59) (by decide) (by decide) (by decide) dX4_init_6 rfl (fun q6 => ?_)
  refine z_eqw (w1 := [(r, zo 4 [.null, .null, .int (nI 0)]), (q6, zi E 600 (fun _ => 0))]) rfl ?_
  refine z_putF 11 C0 0 0 [(r, zo 4 [.ref q6, .null, .int (nI 0)]), (q6, zi E 600 (fun _ => 0))] wz_4 rfl (by decide) (zTs_in wk_44) tyX4 tyX4_ok nmX4 rfl (hin0 rfl) rfl rfl rfl rfl dX4_init_8 rfl rfl (Nat.le_of_ble_eq_true rfl) rfl ?_
  refine z_aload_n 12 C0 0 dX4_init_11 rfl rfl rfl ?_
  refine z_iload_n 13 C0 1 dX4_init_12 rfl rfl rfl ?_
  refine z_newi 15 C0 2 1200 (zTs_in wk_59) (by decide) (by decide) (by decide) dX4_init_13 rfl (fun q13 => ?_)
  refine z_eqw (w1 := [(r, zo 4 [.ref q6, .null, .int (nI 0)]), (q6, zi E 600 (fun _ => 0)), (q13, zi E 600 (fun _ => 0))]) rfl ?_
  refine z_putF 18 C0 0 1 [(r, zo 4 [.ref q6, .ref q13, .int (nI 0)]), (q6, zi E 600 (fun _ => 0)), (q13, zi E 600 (fun _ => 0))] wz_4 rfl (by decide) (zTs_in wk_46) tyX4 tyX4_ok nmX4 rfl (hin0 rfl) rfl rfl rfl rfl dX4_init_15 rfl rfl (Nat.le_of_ble_eq_true rfl) rfl ?_
  refine z_aload_n 19 C0 0 dX4_init_18 rfl rfl rfl ?_
  refine z_iconst 20 C0 (v := (nI 0)) dX4_init_19 rfl rfl ?_
  refine z_put 23 C0 0 2 [(r, zo 4 [.ref q6, .ref q13, .int (nI 0)]), (q6, zi E 600 (fun _ => 0)), (q13, zi E 600 (fun _ => 0))] wz_4 rfl (by decide) (zTs_in wk_48) tyX4 tyX4_ok nmX4 rfl rfl rfl rfl dX4_init_20 rfl rfl (Nat.le_of_ble_eq_true rfl) rfl ?_
  exact z_vret C0 rfl dX4_init_23 ⟨q6, q13, rfl⟩ (by decide) (by decide)

set_option maxHeartbeats 4000000 in
set_option maxRecDepth 100000 in
theorem pinit (l_ : Launch) (E : zE) (p : Nat) (kd : Nat)  : zMv l_ E yX5_init (zTs yX5_init cX5_init 2 none) ({ frames := 1, cells := 2, slots := 128, locals := 20 } : Room) [.ref p, .int (nI kd)] [(p, zo 5 [.int (nI 0), .null, .null, .int (nI 0)])] (fun w_ => ∃ k : Nat, ∃ v : Nat, (w_ = [(p, zo 5 [.int (nI kd), .ref k, .ref v, .int (nI 0)]), (k, zi E 64 (fun _ => 0)), (v, zi E 64 (fun _ => 0))])) 2 128 := by
  refine zMv.of (cc := cX5_init) (nL := 2) (ret := none) (by decide) rfl (Nat.le_of_ble_eq_true rfl) ?_
  intro p_ e_ s_ m_ args_ below_ meth_ c_ A_ C0 hin0
  have C0 : zC E p_ s_ m_ args_ meth_ c_ cX5_init 2 none RX5 (zTs yX5_init cX5_init 2 none) A_ := C0
  refine z_eqL (L1 := [(0, .ref p), (1, .int (nI kd))]) rfl ?_
  refine z_aload_n 1 C0 0 dX5_init_0 rfl rfl rfl ?_
  refine z_objInit 4 C0 (zTs_in wk_66) (zTs_in wk_30) (zTs_in wk_31) dX5_init_1 rfl (Nat.le_of_ble_eq_true rfl) (by decide) (by decide) ?_
  refine z_aload_n 5 C0 0 dX5_init_4 rfl rfl rfl ?_
  refine z_bipush 7 C0 (v := (nI 64)) dX5_init_5 rfl rfl ?_
  refine z_newi 9 C0 1 64 (zTs_in wk_59) (by decide) (by decide) (by decide) dX5_init_7 rfl (fun q7 => ?_)
  refine z_eqw (w1 := [(p, zo 5 [.int (nI 0), .null, .null, .int (nI 0)]), (q7, zi E 64 (fun _ => 0))]) rfl ?_
  refine z_putF 12 C0 0 1 [(p, zo 5 [.int (nI 0), .ref q7, .null, .int (nI 0)]), (q7, zi E 64 (fun _ => 0))] wz_5 rfl (by decide) (zTs_in wk_70) tyX5 tyX5_ok nmX5 rfl (hin0 rfl) rfl rfl rfl rfl dX5_init_9 rfl rfl (Nat.le_of_ble_eq_true rfl) rfl ?_
  refine z_aload_n 13 C0 0 dX5_init_12 rfl rfl rfl ?_
  refine z_bipush 15 C0 (v := (nI 64)) dX5_init_13 rfl rfl ?_
  refine z_newi 17 C0 2 128 (zTs_in wk_59) (by decide) (by decide) (by decide) dX5_init_15 rfl (fun q15 => ?_)
  refine z_eqw (w1 := [(p, zo 5 [.int (nI 0), .ref q7, .null, .int (nI 0)]), (q7, zi E 64 (fun _ => 0)), (q15, zi E 64 (fun _ => 0))]) rfl ?_
  refine z_putF 20 C0 0 2 [(p, zo 5 [.int (nI 0), .ref q7, .ref q15, .int (nI 0)]), (q7, zi E 64 (fun _ => 0)), (q15, zi E 64 (fun _ => 0))] wz_5 rfl (by decide) (zTs_in wk_73) tyX5 tyX5_ok nmX5 rfl (hin0 rfl) rfl rfl rfl rfl dX5_init_17 rfl rfl (Nat.le_of_ble_eq_true rfl) rfl ?_
  refine z_aload_n 21 C0 0 dX5_init_20 rfl rfl rfl ?_
  refine z_iconst 22 C0 (v := (nI 0)) dX5_init_21 rfl rfl ?_
  refine z_put 25 C0 0 3 [(p, zo 5 [.int (nI 0), .ref q7, .ref q15, .int (nI 0)]), (q7, zi E 64 (fun _ => 0)), (q15, zi E 64 (fun _ => 0))] wz_5 rfl (by decide) (zTs_in wk_76) tyX5 tyX5_ok nmX5 rfl rfl rfl rfl dX5_init_22 rfl rfl (Nat.le_of_ble_eq_true rfl) rfl ?_
  refine z_aload_n 26 C0 0 dX5_init_25 rfl rfl rfl ?_
  refine z_iload_n 27 C0 1 dX5_init_26 rfl rfl rfl ?_
  refine z_putF 30 C0 0 0 [(p, zo 5 [.int (nI kd), .ref q7, .ref q15, .int (nI 0)]), (q7, zi E 64 (fun _ => 0)), (q15, zi E 64 (fun _ => 0))] wz_5 rfl (by decide) (zTs_in wk_67) tyX5 tyX5_ok nmX5 rfl (hin0 rfl) rfl rfl rfl rfl dX5_init_27 rfl rfl (Nat.le_of_ble_eq_true rfl) rfl ?_
  exact z_vret C0 rfl dX5_init_30 ⟨q7, q15, rfl⟩ (by decide) (by decide)

set_option maxHeartbeats 4000000 in
set_option maxRecDepth 100000 in
theorem tinit (l_ : Launch) (E : zE) (t : Nat)  : zMv l_ E yX2_init (zTs yX2_init cX2_init 1 none) ({ frames := 1, cells := 2, slots := 1200, locals := 20 } : Room) [.ref t] [(t, zo 2 [.null, .null, .int (nI 0)])] (fun w_ => ∃ k : Nat, ∃ v : Nat, (w_ = [(t, zo 2 [.ref k, .ref v, .int (nI 0)]), (k, zi E 600 (fun _ => 0)), (v, zi E 600 (fun _ => 0))])) 2 1200 := by
  refine zMv.of (cc := cX2_init) (nL := 1) (ret := none) (by decide) rfl (Nat.le_of_ble_eq_true rfl) ?_
  intro p_ e_ s_ m_ args_ below_ meth_ c_ A_ C0 hin0
  have C0 : zC E p_ s_ m_ args_ meth_ c_ cX2_init 1 none RX2 (zTs yX2_init cX2_init 1 none) A_ := C0
  refine z_eqL (L1 := [(0, .ref t)]) rfl ?_
  refine z_aload_n 1 C0 0 dX2_init_0 rfl rfl rfl ?_
  refine z_objInit 4 C0 (zTs_in wk_153) (zTs_in wk_30) (zTs_in wk_31) dX2_init_1 rfl (Nat.le_of_ble_eq_true rfl) (by decide) (by decide) ?_
  refine z_aload_n 5 C0 0 dX2_init_4 rfl rfl rfl ?_
  refine z_sipush 8 C0 (v := (nI 600)) dX2_init_5 rfl rfl ?_
  refine z_newi 10 C0 1 600 (zTs_in wk_59) (by decide) (by decide) (by decide) dX2_init_8 rfl (fun q8 => ?_)
  refine z_eqw (w1 := [(t, zo 2 [.null, .null, .int (nI 0)]), (q8, zi E 600 (fun _ => 0))]) rfl ?_
  refine z_putF 13 C0 0 0 [(t, zo 2 [.ref q8, .null, .int (nI 0)]), (q8, zi E 600 (fun _ => 0))] wz_2 rfl (by decide) (zTs_in wk_154) tyX2 tyX2_ok nmX2 rfl (hin0 rfl) rfl rfl rfl rfl dX2_init_10 rfl rfl (Nat.le_of_ble_eq_true rfl) rfl ?_
  refine z_aload_n 14 C0 0 dX2_init_13 rfl rfl rfl ?_
  refine z_sipush 17 C0 (v := (nI 600)) dX2_init_14 rfl rfl ?_
  refine z_newi 19 C0 2 1200 (zTs_in wk_59) (by decide) (by decide) (by decide) dX2_init_17 rfl (fun q17 => ?_)
  refine z_eqw (w1 := [(t, zo 2 [.ref q8, .null, .int (nI 0)]), (q8, zi E 600 (fun _ => 0)), (q17, zi E 600 (fun _ => 0))]) rfl ?_
  refine z_putF 22 C0 0 1 [(t, zo 2 [.ref q8, .ref q17, .int (nI 0)]), (q8, zi E 600 (fun _ => 0)), (q17, zi E 600 (fun _ => 0))] wz_2 rfl (by decide) (zTs_in wk_158) tyX2 tyX2_ok nmX2 rfl (hin0 rfl) rfl rfl rfl rfl dX2_init_19 rfl rfl (Nat.le_of_ble_eq_true rfl) rfl ?_
  refine z_aload_n 23 C0 0 dX2_init_22 rfl rfl rfl ?_
  refine z_iconst 24 C0 (v := (nI 0)) dX2_init_23 rfl rfl ?_
  refine z_put 27 C0 0 2 [(t, zo 2 [.ref q8, .ref q17, .int (nI 0)]), (q8, zi E 600 (fun _ => 0)), (q17, zi E 600 (fun _ => 0))] wz_2 rfl (by decide) (zTs_in wk_162) tyX2 tyX2_ok nmX2 rfl rfl rfl rfl dX2_init_24 rfl rfl (Nat.le_of_ble_eq_true rfl) rfl ?_
  exact z_vret C0 rfl dX2_init_27 ⟨q8, q17, rfl⟩ (by decide) (by decide)

set_option maxHeartbeats 4000000 in
set_option maxRecDepth 100000 in
theorem cinit (l_ : Launch) (E : zE) (ck : Nat)  : zMv l_ E yX0_init (zTs yX0_init cX0_init 1 none) ({ frames := 1, cells := 2, slots := 640, locals := 20 } : Room) [.ref ck] [(ck, zo 0 [.null, .null, .int (nI 0)])] (fun w_ => ∃ ch : Nat, ∃ cr : Nat, (w_ = [(ck, zo 0 [.ref ch, .ref cr, .int (nI 0)]), (ch, zi E 64 (zn (fun _ => 0))), (cr, zi E 576 (zn (fun _ => 0)))])) 2 640 := by
  refine zMv.of (cc := cX0_init) (nL := 1) (ret := none) (by decide) rfl (Nat.le_of_ble_eq_true rfl) ?_
  intro p_ e_ s_ m_ args_ below_ meth_ c_ A_ C0 hin0
  have C0 : zC E p_ s_ m_ args_ meth_ c_ cX0_init 1 none RX0 (zTs yX0_init cX0_init 1 none) A_ := C0
  refine z_eqL (L1 := [(0, .ref ck)]) rfl ?_
  refine z_aload_n 1 C0 0 dX0_init_0 rfl rfl rfl ?_
  refine z_objInit 4 C0 (zTs_in wk_94) (zTs_in wk_30) (zTs_in wk_31) dX0_init_1 rfl (Nat.le_of_ble_eq_true rfl) (by decide) (by decide) ?_
  refine z_aload_n 5 C0 0 dX0_init_4 rfl rfl rfl ?_
  refine z_bipush 7 C0 (v := (nI 64)) dX0_init_5 rfl rfl ?_
  refine z_newi 9 C0 1 64 (zTs_in wk_59) (by decide) (by decide) (by decide) dX0_init_7 rfl (fun q7 => ?_)
  refine z_eqw (w1 := [(ck, zo 0 [.null, .null, .int (nI 0)]), (q7, zi E 64 (fun _ => 0))]) rfl ?_
  refine z_putF 12 C0 0 0 [(ck, zo 0 [.ref q7, .null, .int (nI 0)]), (q7, zi E 64 (fun _ => 0))] wz_0 rfl (by decide) (zTs_in wk_95) tyX0 tyX0_ok nmX0 rfl (hin0 rfl) rfl rfl rfl rfl dX0_init_9 rfl rfl (Nat.le_of_ble_eq_true rfl) rfl ?_
  refine z_aload_n 13 C0 0 dX0_init_12 rfl rfl rfl ?_
  refine z_sipush 16 C0 (v := (nI 576)) dX0_init_13 rfl rfl ?_
  refine z_newi 18 C0 2 640 (zTs_in wk_59) (by decide) (by decide) (by decide) dX0_init_16 rfl (fun q16 => ?_)
  refine z_eqw (w1 := [(ck, zo 0 [.ref q7, .null, .int (nI 0)]), (q7, zi E 64 (fun _ => 0)), (q16, zi E 576 (fun _ => 0))]) rfl ?_
  refine z_putF 21 C0 0 1 [(ck, zo 0 [.ref q7, .ref q16, .int (nI 0)]), (q7, zi E 64 (fun _ => 0)), (q16, zi E 576 (fun _ => 0))] wz_0 rfl (by decide) (zTs_in wk_96) tyX0 tyX0_ok nmX0 rfl (hin0 rfl) rfl rfl rfl rfl dX0_init_18 rfl rfl (Nat.le_of_ble_eq_true rfl) rfl ?_
  refine z_aload_n 22 C0 0 dX0_init_21 rfl rfl rfl ?_
  refine z_iconst 23 C0 (v := (nI 0)) dX0_init_22 rfl rfl ?_
  refine z_put 26 C0 0 2 [(ck, zo 0 [.ref q7, .ref q16, .int (nI 0)]), (q7, zi E 64 (fun _ => 0)), (q16, zi E 576 (fun _ => 0))] wz_0 rfl (by decide) (zTs_in wk_97) tyX0 tyX0_ok nmX0 rfl rfl rfl rfl dX0_init_23 rfl rfl (Nat.le_of_ble_eq_true rfl) rfl ?_
  exact z_vret C0 rfl dX0_init_26 ⟨q7, q16, rfl⟩ (by decide) (by decide)

set_option maxHeartbeats 4000000 in
set_option maxRecDepth 100000 in
theorem minit (l_ : Launch) (E : zE) (m : Nat)  : zMv l_ E yX3_init (zTs yX3_init cX3_init 1 none) ({ frames := 2, cells := 7, slots := 1222, locals := 41 } : Room) [.ref m] [(m, zo 3 [.null, .null, .null, .int (nI 0), .int (nI 0), .null, .int (nI 0), .null])] (fun w_ => ∃ ma : Nat, ∃ ml : Nat, ∃ ms : Nat, ∃ mp : Nat, ∃ mt : Nat, ∃ mpk : Nat, ∃ mpv : Nat, (w_ = [(m, zo 3 [.ref ma, .ref ml, .ref ms, .int (nI 0), .int 0, .ref mp, .int (nI 0), .ref mt]), (ma, zi E 3 (fun _ => 0)), (ml, zi E 4 (fun _ => 0)), (ms, zi E 8 (fun _ => 0)), (mp, zo 4 [.ref mpk, .ref mpv, .int (nI 0)]), (mpk, zi E 600 (fun _ => 0)), (mpv, zi E 600 (fun _ => 0)), (mt, zi E 4 (zn (fun _ => 0)))])) 7 1222 := by
  refine zMv.of (cc := cX3_init) (nL := 1) (ret := none) (by decide) rfl (Nat.le_of_ble_eq_true rfl) ?_
  intro p_ e_ s_ m_ args_ below_ meth_ c_ A_ C0 hin0
  have C0 : zC E p_ s_ m_ args_ meth_ c_ cX3_init 1 none RX3 (zTs yX3_init cX3_init 1 none) A_ := C0
  refine z_eqL (L1 := [(0, .ref m)]) rfl ?_
  refine z_aload_n 1 C0 0 dX3_init_0 rfl rfl rfl ?_
  refine z_objInit 4 C0 (zTs_in wk_116) (zTs_in wk_30) (zTs_in wk_31) dX3_init_1 rfl (Nat.le_of_ble_eq_true rfl) (by decide) (by decide) ?_
  refine z_aload_n 5 C0 0 dX3_init_4 rfl rfl rfl ?_
  refine z_iconst 6 C0 (v := (nI 3)) dX3_init_5 rfl rfl ?_
  refine z_newi 8 C0 1 3 (zTs_in wk_59) (by decide) (by decide) (by decide) dX3_init_6 rfl (fun q6 => ?_)
  refine z_eqw (w1 := [(m, zo 3 [.null, .null, .null, .int (nI 0), .int (nI 0), .null, .int (nI 0), .null]), (q6, zi E 3 (fun _ => 0))]) rfl ?_
  refine z_putF 11 C0 0 0 [(m, zo 3 [.ref q6, .null, .null, .int (nI 0), .int (nI 0), .null, .int (nI 0), .null]), (q6, zi E 3 (fun _ => 0))] wz_3 rfl (by decide) (zTs_in wk_119) tyX3 tyX3_ok nmX3 rfl (hin0 rfl) rfl rfl rfl rfl dX3_init_8 rfl rfl (Nat.le_of_ble_eq_true rfl) rfl ?_
  refine z_aload_n 12 C0 0 dX3_init_11 rfl rfl rfl ?_
  refine z_iconst 13 C0 (v := (nI 4)) dX3_init_12 rfl rfl ?_
  refine z_newi 15 C0 2 7 (zTs_in wk_59) (by decide) (by decide) (by decide) dX3_init_13 rfl (fun q13 => ?_)
  refine z_eqw (w1 := [(m, zo 3 [.ref q6, .null, .null, .int (nI 0), .int (nI 0), .null, .int (nI 0), .null]), (q6, zi E 3 (fun _ => 0)), (q13, zi E 4 (fun _ => 0))]) rfl ?_
  refine z_putF 18 C0 0 1 [(m, zo 3 [.ref q6, .ref q13, .null, .int (nI 0), .int (nI 0), .null, .int (nI 0), .null]), (q6, zi E 3 (fun _ => 0)), (q13, zi E 4 (fun _ => 0))] wz_3 rfl (by decide) (zTs_in wk_120) tyX3 tyX3_ok nmX3 rfl (hin0 rfl) rfl rfl rfl rfl dX3_init_15 rfl rfl (Nat.le_of_ble_eq_true rfl) rfl ?_
  refine z_aload_n 19 C0 0 dX3_init_18 rfl rfl rfl ?_
  refine z_bipush 21 C0 (v := (nI 8)) dX3_init_19 rfl rfl ?_
  refine z_newi 23 C0 3 15 (zTs_in wk_59) (by decide) (by decide) (by decide) dX3_init_21 rfl (fun q21 => ?_)
  refine z_eqw (w1 := [(m, zo 3 [.ref q6, .ref q13, .null, .int (nI 0), .int (nI 0), .null, .int (nI 0), .null]), (q6, zi E 3 (fun _ => 0)), (q13, zi E 4 (fun _ => 0)), (q21, zi E 8 (fun _ => 0))]) rfl ?_
  refine z_putF 26 C0 0 2 [(m, zo 3 [.ref q6, .ref q13, .ref q21, .int (nI 0), .int (nI 0), .null, .int (nI 0), .null]), (q6, zi E 3 (fun _ => 0)), (q13, zi E 4 (fun _ => 0)), (q21, zi E 8 (fun _ => 0))] wz_3 rfl (by decide) (zTs_in wk_121) tyX3 tyX3_ok nmX3 rfl (hin0 rfl) rfl rfl rfl rfl dX3_init_23 rfl rfl (Nat.le_of_ble_eq_true rfl) rfl ?_
  refine z_aload_n 27 C0 0 dX3_init_26 rfl rfl rfl ?_
  refine z_iconst 28 C0 (v := (nI 0)) dX3_init_27 rfl rfl ?_
  refine z_put 31 C0 0 3 [(m, zo 3 [.ref q6, .ref q13, .ref q21, .int (nI 0), .int (nI 0), .null, .int (nI 0), .null]), (q6, zi E 3 (fun _ => 0)), (q13, zi E 4 (fun _ => 0)), (q21, zi E 8 (fun _ => 0))] wz_3 rfl (by decide) (zTs_in wk_122) tyX3 tyX3_ok nmX3 rfl rfl rfl rfl dX3_init_28 rfl rfl (Nat.le_of_ble_eq_true rfl) rfl ?_
  refine z_aload_n 32 C0 0 dX3_init_31 rfl rfl rfl ?_
  refine z_iconst 33 C0 (v := (nI 0)) dX3_init_32 rfl rfl ?_
  refine z_put 36 C0 0 4 [(m, zo 3 [.ref q6, .ref q13, .ref q21, .int (nI 0), .int (nI 0), .null, .int (nI 0), .null]), (q6, zi E 3 (fun _ => 0)), (q13, zi E 4 (fun _ => 0)), (q21, zi E 8 (fun _ => 0))] wz_3 rfl (by decide) (zTs_in wk_123) tyX3 tyX3_ok nmX3 rfl rfl rfl rfl dX3_init_33 rfl rfl (Nat.le_of_ble_eq_true rfl) rfl ?_
  refine z_aload_n 37 C0 0 dX3_init_36 rfl rfl rfl ?_
  refine z_new 40 C0 4 18 (ci := 4) (fs := [.null, .null, .int (nI 0)]) wz_4 tyX4 tyX4_ok (zTs_in wk_117) (zTs_in wk_39) (zTs_in wk_14) rfl (fun j hj => by rcases (show j = 0 ∨ j = 1 ∨ j = 2 by omega) with rfl | rfl | rfl <;> rfl) (by decide) (by decide) dX3_init_37 rfl (fun q37 => ?_)
  refine z_eqw (w1 := [(m, zo 3 [.ref q6, .ref q13, .ref q21, .int (nI 0), .int (nI 0), .null, .int (nI 0), .null]), (q6, zi E 3 (fun _ => 0)), (q13, zi E 4 (fun _ => 0)), (q21, zi E 8 (fun _ => 0)), (q37, zo 4 [.null, .null, .int (nI 0)])]) rfl ?_
  refine z_dup 41 C0 dX3_init_40 rfl rfl ?_
  refine z_sipush 44 C0 (v := (nI 600)) dX3_init_41 rfl rfl ?_
  refine z_callI 47 C0 [4] [0, 1, 2, 3] [(m, zo 3 [.ref q6, .ref q13, .ref q21, .int (nI 0), .int (nI 0), .null, .int (nI 0), .null]), (q6, zi E 3 (fun _ => 0)), (q13, zi E 4 (fun _ => 0)), (q21, zi E 8 (fun _ => 0))] 6 1218 (As := [.int (nI 600)]) (n := 1) (rinit_600 l_ E q37 ) (zTs_good (fun _ => zTs_in) wk_42) rfl (zTs_in wk_14) (zTs_in wk_118) (zTs_in wk_41) rfl ⟨by decide, by decide, by decide +kernel⟩ rfl rfl (by decide) rfl rfl (Nat.le_of_ble_eq_true rfl) ⟨by decide, by decide⟩ rfl rfl ⟨by decide, by decide⟩ ⟨by decide, by decide⟩ dX3_init_44 rfl (fun w44 hB44 => ?_)
  obtain ⟨k_44, v_44, rfl⟩ := hB44
  refine z_perm [0, 1, 2, 3, 4, 5, 6] [(m, zo 3 [.ref q6, .ref q13, .ref q21, .int (nI 0), .int (nI 0), .null, .int (nI 0), .null]), (q6, zi E 3 (fun _ => 0)), (q13, zi E 4 (fun _ => 0)), (q21, zi E 8 (fun _ => 0)), (q37, zo 4 [.ref k_44, .ref v_44, .int (nI 0)]), (k_44, zi E 600 (fun _ => 0)), (v_44, zi E 600 (fun _ => 0))] (by decide) rfl ?_
  refine z_putF 50 C0 0 5 [(m, zo 3 [.ref q6, .ref q13, .ref q21, .int (nI 0), .int (nI 0), .ref q37, .int (nI 0), .null]), (q6, zi E 3 (fun _ => 0)), (q13, zi E 4 (fun _ => 0)), (q21, zi E 8 (fun _ => 0)), (q37, zo 4 [.ref k_44, .ref v_44, .int (nI 0)]), (k_44, zi E 600 (fun _ => 0)), (v_44, zi E 600 (fun _ => 0))] wz_3 rfl (by decide) (zTs_in wk_125) tyX3 tyX3_ok nmX3 rfl (hin0 rfl) rfl rfl rfl rfl dX3_init_47 rfl rfl (Nat.le_of_ble_eq_true rfl) rfl ?_
  refine z_aload_n 51 C0 0 dX3_init_50 rfl rfl rfl ?_
  refine z_iconst 52 C0 (v := (nI 0)) dX3_init_51 rfl rfl ?_
  refine z_put 55 C0 0 6 [(m, zo 3 [.ref q6, .ref q13, .ref q21, .int (nI 0), .int (nI 0), .ref q37, .int (nI 0), .null]), (q6, zi E 3 (fun _ => 0)), (q13, zi E 4 (fun _ => 0)), (q21, zi E 8 (fun _ => 0)), (q37, zo 4 [.ref k_44, .ref v_44, .int (nI 0)]), (k_44, zi E 600 (fun _ => 0)), (v_44, zi E 600 (fun _ => 0))] wz_3 rfl (by decide) (zTs_in wk_127) tyX3 tyX3_ok nmX3 rfl rfl rfl rfl dX3_init_52 rfl rfl (Nat.le_of_ble_eq_true rfl) rfl ?_
  refine z_aload_n 56 C0 0 dX3_init_55 rfl rfl rfl ?_
  refine z_iconst 57 C0 (v := (nI 4)) dX3_init_56 rfl rfl ?_
  refine z_newi 59 C0 7 1222 (zTs_in wk_59) (by decide) (by decide) (by decide) dX3_init_57 rfl (fun q57 => ?_)
  refine z_eqw (w1 := [(m, zo 3 [.ref q6, .ref q13, .ref q21, .int (nI 0), .int (nI 0), .ref q37, .int (nI 0), .null]), (q6, zi E 3 (fun _ => 0)), (q13, zi E 4 (fun _ => 0)), (q21, zi E 8 (fun _ => 0)), (q37, zo 4 [.ref k_44, .ref v_44, .int (nI 0)]), (k_44, zi E 600 (fun _ => 0)), (v_44, zi E 600 (fun _ => 0)), (q57, zi E 4 (fun _ => 0))]) rfl ?_
  refine z_putF 62 C0 0 7 [(m, zo 3 [.ref q6, .ref q13, .ref q21, .int (nI 0), .int (nI 0), .ref q37, .int (nI 0), .ref q57]), (q6, zi E 3 (fun _ => 0)), (q13, zi E 4 (fun _ => 0)), (q21, zi E 8 (fun _ => 0)), (q37, zo 4 [.ref k_44, .ref v_44, .int (nI 0)]), (k_44, zi E 600 (fun _ => 0)), (v_44, zi E 600 (fun _ => 0)), (q57, zi E 4 (fun _ => 0))] wz_3 rfl (by decide) (zTs_in wk_129) tyX3 tyX3_ok nmX3 rfl (hin0 rfl) rfl rfl rfl rfl dX3_init_59 rfl rfl (Nat.le_of_ble_eq_true rfl) rfl ?_
  exact z_vret C0 rfl dX3_init_62 ⟨q6, q13, q21, q37, q57, k_44, v_44, rfl⟩ (by decide) (by decide)

set_option maxHeartbeats 4000000 in
set_option maxRecDepth 100000 in
theorem jinit (l_ : Launch) (E : zE) (jb : Nat)  : zMv l_ E yX1_init (zTs yX1_init cX1_init 1 none) ({ frames := 3, cells := 19, slots := 4967, locals := 61 } : Room) [.ref jb] [(jb, zo 1 [.null, .null, .null, .null, .null, .null])] (fun w_ => ∃ jse : Nat, ∃ jst : Nat, ∃ jjo : Nat, ∃ jre : Nat, ∃ jco : Nat, ∃ m : Nat, ∃ ma : Nat, ∃ ml : Nat, ∃ ms : Nat, ∃ mp : Nat, ∃ mt : Nat, ∃ mpk : Nat, ∃ mpv : Nat, ∃ jsk : Nat, ∃ jsv : Nat, ∃ jok : Nat, ∃ jov : Nat, ∃ tk : Nat, ∃ tv : Nat, (w_ = [(jb, zo 1 [.ref m, .ref jse, .ref jst, .ref jjo, .ref jre, .ref jco]), (m, zo 3 [.ref ma, .ref ml, .ref ms, .int (nI 0), .int 0, .ref mp, .int (nI 0), .ref mt]), (ma, zi E 3 (fun _ => 0)), (ml, zi E 4 (fun _ => 0)), (ms, zi E 8 (fun _ => 0)), (mp, zo 4 [.ref mpk, .ref mpv, .int (nI 0)]), (mpk, zi E 600 (fun _ => 0)), (mpv, zi E 600 (fun _ => 0)), (mt, zi E 4 (zn (fun _ => 0))), (jse, zi E 120 (zn (fun _ => 0))), (jst, zo 2 [.ref jsk, .ref jsv, .int (nI 0)]), (jsk, zi E 600 (fun _ => 0)), (jsv, zi E 600 (fun _ => 0)), (jjo, zo 4 [.ref jok, .ref jov, .int (nI 0)]), (jok, zi E 600 (fun _ => 0)), (jov, zi E 600 (fun _ => 0)), (jre, zo 2 [.ref tk, .ref tv, .int (nI 0)]), (tk, zi E 600 (fun _ => 0)), (tv, zi E 600 (fun _ => 0)), (jco, zi E 8 (upd (fun _ => 0) 0 (-1)))])) 19 4967 := by
  refine zMv.of (cc := cX1_init) (nL := 1) (ret := none) (by decide) rfl (Nat.le_of_ble_eq_true rfl) ?_
  intro p_ e_ s_ m_ args_ below_ meth_ c_ A_ C0 hin0
  have C0 : zC E p_ s_ m_ args_ meth_ c_ cX1_init 1 none RX1 (zTs yX1_init cX1_init 1 none) A_ := C0
  refine z_eqL (L1 := [(0, .ref jb)]) rfl ?_
  refine z_aload_n 1 C0 0 dX1_init_0 rfl rfl rfl ?_
  refine z_objInit 4 C0 (zTs_in wk_110) (zTs_in wk_30) (zTs_in wk_31) dX1_init_1 rfl (Nat.le_of_ble_eq_true rfl) (by decide) (by decide) ?_
  refine z_aload_n 5 C0 0 dX1_init_4 rfl rfl rfl ?_
  refine z_new 8 C0 1 8 (ci := 3) (fs := [.null, .null, .null, .int (nI 0), .int (nI 0), .null, .int (nI 0), .null]) wz_3 tyX3 tyX3_ok (zTs_in wk_111) (zTs_in wk_112) (zTs_in wk_18) rfl (fun j hj => by rcases (show j = 0 ∨ j = 1 ∨ j = 2 ∨ j = 3 ∨ j = 4 ∨ j = 5 ∨ j = 6 ∨ j = 7 by omega) with rfl | rfl | rfl | rfl | rfl | rfl | rfl | rfl <;> rfl) (by decide) (by decide) dX1_init_5 rfl (fun q5 => ?_)
  refine z_eqw (w1 := [(jb, zo 1 [.null, .null, .null, .null, .null, .null]), (q5, zo 3 [.null, .null, .null, .int (nI 0), .int (nI 0), .null, .int (nI 0), .null])]) rfl ?_
  refine z_dup 9 C0 dX1_init_8 rfl rfl ?_
  refine z_callIN 12 C0 [1] [0] [(jb, zo 1 [.null, .null, .null, .null, .null, .null])] 8 1230 (As := []) (n := 0) (minit l_ E q5 ) (zTs_good (fun _ => zTs_in) wk_115) rfl C0.2.2.2.2.2.2.2.2.2.1.1.2.1 (zTs_in wk_18) (zTs_in wk_114) rfl ⟨by decide, by decide, by decide +kernel⟩ rfl rfl (by decide) rfl rfl (Nat.le_of_ble_eq_true rfl) ⟨by decide, by decide⟩ rfl rfl ⟨by decide, by decide⟩ ⟨by decide, by decide⟩ dX1_init_9 rfl (fun w9 hB9 => ?_)
  obtain ⟨ma_9, ml_9, ms_9, mp_9, mt_9, mpk_9, mpv_9, rfl⟩ := hB9
  refine z_perm [0, 1, 2, 3, 4, 5, 6, 7, 8] [(jb, zo 1 [.null, .null, .null, .null, .null, .null]), (q5, zo 3 [.ref ma_9, .ref ml_9, .ref ms_9, .int (nI 0), .int 0, .ref mp_9, .int (nI 0), .ref mt_9]), (ma_9, zi E 3 (fun _ => 0)), (ml_9, zi E 4 (fun _ => 0)), (ms_9, zi E 8 (fun _ => 0)), (mp_9, zo 4 [.ref mpk_9, .ref mpv_9, .int (nI 0)]), (mpk_9, zi E 600 (fun _ => 0)), (mpv_9, zi E 600 (fun _ => 0)), (mt_9, zi E 4 (zn (fun _ => 0)))] (by decide) rfl ?_
  refine z_putF 15 C0 0 0 [(jb, zo 1 [.ref q5, .null, .null, .null, .null, .null]), (q5, zo 3 [.ref ma_9, .ref ml_9, .ref ms_9, .int (nI 0), .int 0, .ref mp_9, .int (nI 0), .ref mt_9]), (ma_9, zi E 3 (fun _ => 0)), (ml_9, zi E 4 (fun _ => 0)), (ms_9, zi E 8 (fun _ => 0)), (mp_9, zo 4 [.ref mpk_9, .ref mpv_9, .int (nI 0)]), (mpk_9, zi E 600 (fun _ => 0)), (mpv_9, zi E 600 (fun _ => 0)), (mt_9, zi E 4 (zn (fun _ => 0)))] wz_1 rfl (by decide) (zTs_in wk_175) tyX1 tyX1_ok nmX1 rfl (hin0 rfl) rfl rfl rfl rfl dX1_init_12 rfl rfl (Nat.le_of_ble_eq_true rfl) rfl ?_
  refine z_aload_n 16 C0 0 dX1_init_15 rfl rfl rfl ?_
  refine z_bipush 18 C0 (v := (nI 120)) dX1_init_16 rfl rfl ?_
  refine z_newi 20 C0 9 1350 (zTs_in wk_59) (by decide) (by decide) (by decide) dX1_init_18 rfl (fun q18 => ?_)
  refine z_eqw (w1 := [(jb, zo 1 [.ref q5, .null, .null, .null, .null, .null]), (q5, zo 3 [.ref ma_9, .ref ml_9, .ref ms_9, .int (nI 0), .int 0, .ref mp_9, .int (nI 0), .ref mt_9]), (ma_9, zi E 3 (fun _ => 0)), (ml_9, zi E 4 (fun _ => 0)), (ms_9, zi E 8 (fun _ => 0)), (mp_9, zo 4 [.ref mpk_9, .ref mpv_9, .int (nI 0)]), (mpk_9, zi E 600 (fun _ => 0)), (mpv_9, zi E 600 (fun _ => 0)), (mt_9, zi E 4 (zn (fun _ => 0))), (q18, zi E 120 (fun _ => 0))]) rfl ?_
  refine z_putF 23 C0 0 1 [(jb, zo 1 [.ref q5, .ref q18, .null, .null, .null, .null]), (q5, zo 3 [.ref ma_9, .ref ml_9, .ref ms_9, .int (nI 0), .int 0, .ref mp_9, .int (nI 0), .ref mt_9]), (ma_9, zi E 3 (fun _ => 0)), (ml_9, zi E 4 (fun _ => 0)), (ms_9, zi E 8 (fun _ => 0)), (mp_9, zo 4 [.ref mpk_9, .ref mpv_9, .int (nI 0)]), (mpk_9, zi E 600 (fun _ => 0)), (mpv_9, zi E 600 (fun _ => 0)), (mt_9, zi E 4 (zn (fun _ => 0))), (q18, zi E 120 (fun _ => 0))] wz_1 rfl (by decide) (zTs_in wk_176) tyX1 tyX1_ok nmX1 rfl (hin0 rfl) rfl rfl rfl rfl dX1_init_20 rfl rfl (Nat.le_of_ble_eq_true rfl) rfl ?_
  refine z_aload_n 24 C0 0 dX1_init_23 rfl rfl rfl ?_
  refine z_new 27 C0 10 1353 (ci := 2) (fs := [.null, .null, .int (nI 0)]) wz_2 tyX2 tyX2_ok (zTs_in wk_148) (zTs_in wk_149) (zTs_in wk_19) rfl (fun j hj => by rcases (show j = 0 ∨ j = 1 ∨ j = 2 by omega) with rfl | rfl | rfl <;> rfl) (by decide) (by decide) dX1_init_24 rfl (fun q24 => ?_)
  refine z_eqw (w1 := [(jb, zo 1 [.ref q5, .ref q18, .null, .null, .null, .null]), (q5, zo 3 [.ref ma_9, .ref ml_9, .ref ms_9, .int (nI 0), .int 0, .ref mp_9, .int (nI 0), .ref mt_9]), (ma_9, zi E 3 (fun _ => 0)), (ml_9, zi E 4 (fun _ => 0)), (ms_9, zi E 8 (fun _ => 0)), (mp_9, zo 4 [.ref mpk_9, .ref mpv_9, .int (nI 0)]), (mpk_9, zi E 600 (fun _ => 0)), (mpv_9, zi E 600 (fun _ => 0)), (mt_9, zi E 4 (zn (fun _ => 0))), (q18, zi E 120 (fun _ => 0)), (q24, zo 2 [.null, .null, .int (nI 0)])]) rfl ?_
  refine z_dup 28 C0 dX1_init_27 rfl rfl ?_
  refine z_callIN 31 C0 [10] [0, 1, 2, 3, 4, 5, 6, 7, 8, 9] [(jb, zo 1 [.ref q5, .ref q18, .null, .null, .null, .null]), (q5, zo 3 [.ref ma_9, .ref ml_9, .ref ms_9, .int (nI 0), .int 0, .ref mp_9, .int (nI 0), .ref mt_9]), (ma_9, zi E 3 (fun _ => 0)), (ml_9, zi E 4 (fun _ => 0)), (ms_9, zi E 8 (fun _ => 0)), (mp_9, zo 4 [.ref mpk_9, .ref mpv_9, .int (nI 0)]), (mpk_9, zi E 600 (fun _ => 0)), (mpv_9, zi E 600 (fun _ => 0)), (mt_9, zi E 4 (zn (fun _ => 0))), (q18, zi E 120 (fun _ => 0))] 12 2553 (As := []) (n := 0) (tinit l_ E q24 ) (zTs_good (fun _ => zTs_in) wk_152) rfl C0.2.2.2.2.2.2.2.2.2.1.1.2.2.1 (zTs_in wk_19) (zTs_in wk_151) rfl ⟨by decide, by decide, by decide +kernel⟩ rfl rfl (by decide) rfl rfl (Nat.le_of_ble_eq_true rfl) ⟨by decide, by decide⟩ rfl rfl ⟨by decide, by decide⟩ ⟨by decide, by decide⟩ dX1_init_28 rfl (fun w28 hB28 => ?_)
  obtain ⟨k_28, v_28, rfl⟩ := hB28
  refine z_perm [0, 1, 2, 3, 4, 5, 6, 7, 8, 9, 10, 11, 12] [(jb, zo 1 [.ref q5, .ref q18, .null, .null, .null, .null]), (q5, zo 3 [.ref ma_9, .ref ml_9, .ref ms_9, .int (nI 0), .int 0, .ref mp_9, .int (nI 0), .ref mt_9]), (ma_9, zi E 3 (fun _ => 0)), (ml_9, zi E 4 (fun _ => 0)), (ms_9, zi E 8 (fun _ => 0)), (mp_9, zo 4 [.ref mpk_9, .ref mpv_9, .int (nI 0)]), (mpk_9, zi E 600 (fun _ => 0)), (mpv_9, zi E 600 (fun _ => 0)), (mt_9, zi E 4 (zn (fun _ => 0))), (q18, zi E 120 (fun _ => 0)), (q24, zo 2 [.ref k_28, .ref v_28, .int (nI 0)]), (k_28, zi E 600 (fun _ => 0)), (v_28, zi E 600 (fun _ => 0))] (by decide) rfl ?_
  refine z_putF 34 C0 0 2 [(jb, zo 1 [.ref q5, .ref q18, .ref q24, .null, .null, .null]), (q5, zo 3 [.ref ma_9, .ref ml_9, .ref ms_9, .int (nI 0), .int 0, .ref mp_9, .int (nI 0), .ref mt_9]), (ma_9, zi E 3 (fun _ => 0)), (ml_9, zi E 4 (fun _ => 0)), (ms_9, zi E 8 (fun _ => 0)), (mp_9, zo 4 [.ref mpk_9, .ref mpv_9, .int (nI 0)]), (mpk_9, zi E 600 (fun _ => 0)), (mpv_9, zi E 600 (fun _ => 0)), (mt_9, zi E 4 (zn (fun _ => 0))), (q18, zi E 120 (fun _ => 0)), (q24, zo 2 [.ref k_28, .ref v_28, .int (nI 0)]), (k_28, zi E 600 (fun _ => 0)), (v_28, zi E 600 (fun _ => 0))] wz_1 rfl (by decide) (zTs_in wk_177) tyX1 tyX1_ok nmX1 rfl (hin0 rfl) rfl rfl rfl rfl dX1_init_31 rfl rfl (Nat.le_of_ble_eq_true rfl) rfl ?_
  refine z_aload_n 35 C0 0 dX1_init_34 rfl rfl rfl ?_
  refine z_new 38 C0 13 2556 (ci := 4) (fs := [.null, .null, .int (nI 0)]) wz_4 tyX4 tyX4_ok (zTs_in wk_173) (zTs_in wk_39) (zTs_in wk_14) rfl (fun j hj => by rcases (show j = 0 ∨ j = 1 ∨ j = 2 by omega) with rfl | rfl | rfl <;> rfl) (by decide) (by decide) dX1_init_35 rfl (fun q35 => ?_)
  refine z_eqw (w1 := [(jb, zo 1 [.ref q5, .ref q18, .ref q24, .null, .null, .null]), (q5, zo 3 [.ref ma_9, .ref ml_9, .ref ms_9, .int (nI 0), .int 0, .ref mp_9, .int (nI 0), .ref mt_9]), (ma_9, zi E 3 (fun _ => 0)), (ml_9, zi E 4 (fun _ => 0)), (ms_9, zi E 8 (fun _ => 0)), (mp_9, zo 4 [.ref mpk_9, .ref mpv_9, .int (nI 0)]), (mpk_9, zi E 600 (fun _ => 0)), (mpv_9, zi E 600 (fun _ => 0)), (mt_9, zi E 4 (zn (fun _ => 0))), (q18, zi E 120 (fun _ => 0)), (q24, zo 2 [.ref k_28, .ref v_28, .int (nI 0)]), (k_28, zi E 600 (fun _ => 0)), (v_28, zi E 600 (fun _ => 0)), (q35, zo 4 [.null, .null, .int (nI 0)])]) rfl ?_
  refine z_dup 39 C0 dX1_init_38 rfl rfl ?_
  refine z_sipush 42 C0 (v := (nI 600)) dX1_init_39 rfl rfl ?_
  refine z_callI 45 C0 [13] [0, 1, 2, 3, 4, 5, 6, 7, 8, 9, 10, 11, 12] [(jb, zo 1 [.ref q5, .ref q18, .ref q24, .null, .null, .null]), (q5, zo 3 [.ref ma_9, .ref ml_9, .ref ms_9, .int (nI 0), .int 0, .ref mp_9, .int (nI 0), .ref mt_9]), (ma_9, zi E 3 (fun _ => 0)), (ml_9, zi E 4 (fun _ => 0)), (ms_9, zi E 8 (fun _ => 0)), (mp_9, zo 4 [.ref mpk_9, .ref mpv_9, .int (nI 0)]), (mpk_9, zi E 600 (fun _ => 0)), (mpv_9, zi E 600 (fun _ => 0)), (mt_9, zi E 4 (zn (fun _ => 0))), (q18, zi E 120 (fun _ => 0)), (q24, zo 2 [.ref k_28, .ref v_28, .int (nI 0)]), (k_28, zi E 600 (fun _ => 0)), (v_28, zi E 600 (fun _ => 0))] 15 3756 (As := [.int (nI 600)]) (n := 1) (rinit_600 l_ E q35 ) (zTs_good (fun _ => zTs_in) wk_42) rfl (zTs_in wk_14) (zTs_in wk_174) (zTs_in wk_41) rfl ⟨by decide, by decide, by decide +kernel⟩ rfl rfl (by decide) rfl rfl (Nat.le_of_ble_eq_true rfl) ⟨by decide, by decide⟩ rfl rfl ⟨by decide, by decide⟩ ⟨by decide, by decide⟩ dX1_init_42 rfl (fun w42 hB42 => ?_)
  obtain ⟨k_42, v_42, rfl⟩ := hB42
  refine z_perm [0, 1, 2, 3, 4, 5, 6, 7, 8, 9, 10, 11, 12, 13, 14, 15] [(jb, zo 1 [.ref q5, .ref q18, .ref q24, .null, .null, .null]), (q5, zo 3 [.ref ma_9, .ref ml_9, .ref ms_9, .int (nI 0), .int 0, .ref mp_9, .int (nI 0), .ref mt_9]), (ma_9, zi E 3 (fun _ => 0)), (ml_9, zi E 4 (fun _ => 0)), (ms_9, zi E 8 (fun _ => 0)), (mp_9, zo 4 [.ref mpk_9, .ref mpv_9, .int (nI 0)]), (mpk_9, zi E 600 (fun _ => 0)), (mpv_9, zi E 600 (fun _ => 0)), (mt_9, zi E 4 (zn (fun _ => 0))), (q18, zi E 120 (fun _ => 0)), (q24, zo 2 [.ref k_28, .ref v_28, .int (nI 0)]), (k_28, zi E 600 (fun _ => 0)), (v_28, zi E 600 (fun _ => 0)), (q35, zo 4 [.ref k_42, .ref v_42, .int (nI 0)]), (k_42, zi E 600 (fun _ => 0)), (v_42, zi E 600 (fun _ => 0))] (by decide) rfl ?_
  refine z_putF 48 C0 0 3 [(jb, zo 1 [.ref q5, .ref q18, .ref q24, .ref q35, .null, .null]), (q5, zo 3 [.ref ma_9, .ref ml_9, .ref ms_9, .int (nI 0), .int 0, .ref mp_9, .int (nI 0), .ref mt_9]), (ma_9, zi E 3 (fun _ => 0)), (ml_9, zi E 4 (fun _ => 0)), (ms_9, zi E 8 (fun _ => 0)), (mp_9, zo 4 [.ref mpk_9, .ref mpv_9, .int (nI 0)]), (mpk_9, zi E 600 (fun _ => 0)), (mpv_9, zi E 600 (fun _ => 0)), (mt_9, zi E 4 (zn (fun _ => 0))), (q18, zi E 120 (fun _ => 0)), (q24, zo 2 [.ref k_28, .ref v_28, .int (nI 0)]), (k_28, zi E 600 (fun _ => 0)), (v_28, zi E 600 (fun _ => 0)), (q35, zo 4 [.ref k_42, .ref v_42, .int (nI 0)]), (k_42, zi E 600 (fun _ => 0)), (v_42, zi E 600 (fun _ => 0))] wz_1 rfl (by decide) (zTs_in wk_178) tyX1 tyX1_ok nmX1 rfl (hin0 rfl) rfl rfl rfl rfl dX1_init_45 rfl rfl (Nat.le_of_ble_eq_true rfl) rfl ?_
  refine z_aload_n 49 C0 0 dX1_init_48 rfl rfl rfl ?_
  refine z_new 52 C0 16 3759 (ci := 2) (fs := [.null, .null, .int (nI 0)]) wz_2 tyX2 tyX2_ok (zTs_in wk_148) (zTs_in wk_149) (zTs_in wk_19) rfl (fun j hj => by rcases (show j = 0 ∨ j = 1 ∨ j = 2 by omega) with rfl | rfl | rfl <;> rfl) (by decide) (by decide) dX1_init_49 rfl (fun q49 => ?_)
  refine z_eqw (w1 := [(jb, zo 1 [.ref q5, .ref q18, .ref q24, .ref q35, .null, .null]), (q5, zo 3 [.ref ma_9, .ref ml_9, .ref ms_9, .int (nI 0), .int 0, .ref mp_9, .int (nI 0), .ref mt_9]), (ma_9, zi E 3 (fun _ => 0)), (ml_9, zi E 4 (fun _ => 0)), (ms_9, zi E 8 (fun _ => 0)), (mp_9, zo 4 [.ref mpk_9, .ref mpv_9, .int (nI 0)]), (mpk_9, zi E 600 (fun _ => 0)), (mpv_9, zi E 600 (fun _ => 0)), (mt_9, zi E 4 (zn (fun _ => 0))), (q18, zi E 120 (fun _ => 0)), (q24, zo 2 [.ref k_28, .ref v_28, .int (nI 0)]), (k_28, zi E 600 (fun _ => 0)), (v_28, zi E 600 (fun _ => 0)), (q35, zo 4 [.ref k_42, .ref v_42, .int (nI 0)]), (k_42, zi E 600 (fun _ => 0)), (v_42, zi E 600 (fun _ => 0)), (q49, zo 2 [.null, .null, .int (nI 0)])]) rfl ?_
  refine z_dup 53 C0 dX1_init_52 rfl rfl ?_
  refine z_callIN 56 C0 [16] [0, 1, 2, 3, 4, 5, 6, 7, 8, 9, 10, 11, 12, 13, 14, 15] [(jb, zo 1 [.ref q5, .ref q18, .ref q24, .ref q35, .null, .null]), (q5, zo 3 [.ref ma_9, .ref ml_9, .ref ms_9, .int (nI 0), .int 0, .ref mp_9, .int (nI 0), .ref mt_9]), (ma_9, zi E 3 (fun _ => 0)), (ml_9, zi E 4 (fun _ => 0)), (ms_9, zi E 8 (fun _ => 0)), (mp_9, zo 4 [.ref mpk_9, .ref mpv_9, .int (nI 0)]), (mpk_9, zi E 600 (fun _ => 0)), (mpv_9, zi E 600 (fun _ => 0)), (mt_9, zi E 4 (zn (fun _ => 0))), (q18, zi E 120 (fun _ => 0)), (q24, zo 2 [.ref k_28, .ref v_28, .int (nI 0)]), (k_28, zi E 600 (fun _ => 0)), (v_28, zi E 600 (fun _ => 0)), (q35, zo 4 [.ref k_42, .ref v_42, .int (nI 0)]), (k_42, zi E 600 (fun _ => 0)), (v_42, zi E 600 (fun _ => 0))] 18 4959 (As := []) (n := 0) (tinit l_ E q49 ) (zTs_good (fun _ => zTs_in) wk_152) rfl C0.2.2.2.2.2.2.2.2.2.1.1.2.2.1 (zTs_in wk_19) (zTs_in wk_151) rfl ⟨by decide, by decide, by decide +kernel⟩ rfl rfl (by decide) rfl rfl (Nat.le_of_ble_eq_true rfl) ⟨by decide, by decide⟩ rfl rfl ⟨by decide, by decide⟩ ⟨by decide, by decide⟩ dX1_init_53 rfl (fun w53 hB53 => ?_)
  obtain ⟨k_53, v_53, rfl⟩ := hB53
  refine z_perm [0, 1, 2, 3, 4, 5, 6, 7, 8, 9, 10, 11, 12, 13, 14, 15, 16, 17, 18] [(jb, zo 1 [.ref q5, .ref q18, .ref q24, .ref q35, .null, .null]), (q5, zo 3 [.ref ma_9, .ref ml_9, .ref ms_9, .int (nI 0), .int 0, .ref mp_9, .int (nI 0), .ref mt_9]), (ma_9, zi E 3 (fun _ => 0)), (ml_9, zi E 4 (fun _ => 0)), (ms_9, zi E 8 (fun _ => 0)), (mp_9, zo 4 [.ref mpk_9, .ref mpv_9, .int (nI 0)]), (mpk_9, zi E 600 (fun _ => 0)), (mpv_9, zi E 600 (fun _ => 0)), (mt_9, zi E 4 (zn (fun _ => 0))), (q18, zi E 120 (fun _ => 0)), (q24, zo 2 [.ref k_28, .ref v_28, .int (nI 0)]), (k_28, zi E 600 (fun _ => 0)), (v_28, zi E 600 (fun _ => 0)), (q35, zo 4 [.ref k_42, .ref v_42, .int (nI 0)]), (k_42, zi E 600 (fun _ => 0)), (v_42, zi E 600 (fun _ => 0)), (q49, zo 2 [.ref k_53, .ref v_53, .int (nI 0)]), (k_53, zi E 600 (fun _ => 0)), (v_53, zi E 600 (fun _ => 0))] (by decide) rfl ?_
  refine z_putF 59 C0 0 4 [(jb, zo 1 [.ref q5, .ref q18, .ref q24, .ref q35, .ref q49, .null]), (q5, zo 3 [.ref ma_9, .ref ml_9, .ref ms_9, .int (nI 0), .int 0, .ref mp_9, .int (nI 0), .ref mt_9]), (ma_9, zi E 3 (fun _ => 0)), (ml_9, zi E 4 (fun _ => 0)), (ms_9, zi E 8 (fun _ => 0)), (mp_9, zo 4 [.ref mpk_9, .ref mpv_9, .int (nI 0)]), (mpk_9, zi E 600 (fun _ => 0)), (mpv_9, zi E 600 (fun _ => 0)), (mt_9, zi E 4 (zn (fun _ => 0))), (q18, zi E 120 (fun _ => 0)), (q24, zo 2 [.ref k_28, .ref v_28, .int (nI 0)]), (k_28, zi E 600 (fun _ => 0)), (v_28, zi E 600 (fun _ => 0)), (q35, zo 4 [.ref k_42, .ref v_42, .int (nI 0)]), (k_42, zi E 600 (fun _ => 0)), (v_42, zi E 600 (fun _ => 0)), (q49, zo 2 [.ref k_53, .ref v_53, .int (nI 0)]), (k_53, zi E 600 (fun _ => 0)), (v_53, zi E 600 (fun _ => 0))] wz_1 rfl (by decide) (zTs_in wk_179) tyX1 tyX1_ok nmX1 rfl (hin0 rfl) rfl rfl rfl rfl dX1_init_56 rfl rfl (Nat.le_of_ble_eq_true rfl) rfl ?_
  refine z_aload_n 60 C0 0 dX1_init_59 rfl rfl rfl ?_
  refine z_bipush 62 C0 (v := (nI 8)) dX1_init_60 rfl rfl ?_
  refine z_newi 64 C0 19 4967 (zTs_in wk_59) (by decide) (by decide) (by decide) dX1_init_62 rfl (fun q62 => ?_)
  refine z_eqw (w1 := [(jb, zo 1 [.ref q5, .ref q18, .ref q24, .ref q35, .ref q49, .null]), (q5, zo 3 [.ref ma_9, .ref ml_9, .ref ms_9, .int (nI 0), .int 0, .ref mp_9, .int (nI 0), .ref mt_9]), (ma_9, zi E 3 (fun _ => 0)), (ml_9, zi E 4 (fun _ => 0)), (ms_9, zi E 8 (fun _ => 0)), (mp_9, zo 4 [.ref mpk_9, .ref mpv_9, .int (nI 0)]), (mpk_9, zi E 600 (fun _ => 0)), (mpv_9, zi E 600 (fun _ => 0)), (mt_9, zi E 4 (zn (fun _ => 0))), (q18, zi E 120 (fun _ => 0)), (q24, zo 2 [.ref k_28, .ref v_28, .int (nI 0)]), (k_28, zi E 600 (fun _ => 0)), (v_28, zi E 600 (fun _ => 0)), (q35, zo 4 [.ref k_42, .ref v_42, .int (nI 0)]), (k_42, zi E 600 (fun _ => 0)), (v_42, zi E 600 (fun _ => 0)), (q49, zo 2 [.ref k_53, .ref v_53, .int (nI 0)]), (k_53, zi E 600 (fun _ => 0)), (v_53, zi E 600 (fun _ => 0)), (q62, zi E 8 (fun _ => 0))]) rfl ?_
  refine z_putF 67 C0 0 5 [(jb, zo 1 [.ref q5, .ref q18, .ref q24, .ref q35, .ref q49, .ref q62]), (q5, zo 3 [.ref ma_9, .ref ml_9, .ref ms_9, .int (nI 0), .int 0, .ref mp_9, .int (nI 0), .ref mt_9]), (ma_9, zi E 3 (fun _ => 0)), (ml_9, zi E 4 (fun _ => 0)), (ms_9, zi E 8 (fun _ => 0)), (mp_9, zo 4 [.ref mpk_9, .ref mpv_9, .int (nI 0)]), (mpk_9, zi E 600 (fun _ => 0)), (mpv_9, zi E 600 (fun _ => 0)), (mt_9, zi E 4 (zn (fun _ => 0))), (q18, zi E 120 (fun _ => 0)), (q24, zo 2 [.ref k_28, .ref v_28, .int (nI 0)]), (k_28, zi E 600 (fun _ => 0)), (v_28, zi E 600 (fun _ => 0)), (q35, zo 4 [.ref k_42, .ref v_42, .int (nI 0)]), (k_42, zi E 600 (fun _ => 0)), (v_42, zi E 600 (fun _ => 0)), (q49, zo 2 [.ref k_53, .ref v_53, .int (nI 0)]), (k_53, zi E 600 (fun _ => 0)), (v_53, zi E 600 (fun _ => 0)), (q62, zi E 8 (fun _ => 0))] wz_1 rfl (by decide) (zTs_in wk_181) tyX1 tyX1_ok nmX1 rfl (hin0 rfl) rfl rfl rfl rfl dX1_init_64 rfl rfl (Nat.le_of_ble_eq_true rfl) rfl ?_
  refine z_aload_n 68 C0 0 dX1_init_67 rfl rfl rfl ?_
  refine z_get 71 C0 0 5 wz_1 rfl (by decide) (zTs_in wk_181) dX1_init_68 rfl rfl rfl ?_
  refine z_iconst 72 C0 (v := (nI 0)) dX1_init_71 rfl rfl ?_
  refine z_iconst 73 C0 (v := (-1)) dX1_init_72 rfl (by decide) ?_
  refine z_iastN 74 C0 19 [(jb, zo 1 [.ref q5, .ref q18, .ref q24, .ref q35, .ref q49, .ref q62]), (q5, zo 3 [.ref ma_9, .ref ml_9, .ref ms_9, .int (nI 0), .int 0, .ref mp_9, .int (nI 0), .ref mt_9]), (ma_9, zi E 3 (fun _ => 0)), (ml_9, zi E 4 (fun _ => 0)), (ms_9, zi E 8 (fun _ => 0)), (mp_9, zo 4 [.ref mpk_9, .ref mpv_9, .int (nI 0)]), (mpk_9, zi E 600 (fun _ => 0)), (mpv_9, zi E 600 (fun _ => 0)), (mt_9, zi E 4 (zn (fun _ => 0))), (q18, zi E 120 (fun _ => 0)), (q24, zo 2 [.ref k_28, .ref v_28, .int (nI 0)]), (k_28, zi E 600 (fun _ => 0)), (v_28, zi E 600 (fun _ => 0)), (q35, zo 4 [.ref k_42, .ref v_42, .int (nI 0)]), (k_42, zi E 600 (fun _ => 0)), (v_42, zi E 600 (fun _ => 0)), (q49, zo 2 [.ref k_53, .ref v_53, .int (nI 0)]), (k_53, zi E 600 (fun _ => 0)), (v_53, zi E 600 (fun _ => 0)), (q62, zi E 8 (upd (fun _ => 0) 0 (-1)))] dX1_init_73 rfl rfl (by omega) (by decide) rfl ?_
  exact z_vret C0 rfl dX1_init_74 ⟨q18, q24, q35, q49, q62, q5, ma_9, ml_9, ms_9, mp_9, mt_9, mpk_9, mpv_9, k_28, v_28, k_42, v_42, k_53, v_53, rfl⟩ (by decide) (by decide)

set_option maxHeartbeats 4000000 in
set_option maxRecDepth 100000 in
theorem xinit (l_ : Launch) (E : zE) (x : Nat) (a : Int32) (b : Int32) (d : Int32)  : zMv l_ E yX6_init (zTs yX6_init cX6_init 5 none) ({ frames := 4, cells := 39, slots := 6391, locals := 81 } : Room) [.ref x, .int a, .int b, .int d] [(x, zo 6 [.int (nI 0), .null, .null, .null, .null])] (fun w_ => ∃ rr : Nat, ∃ pa : Nat, ∃ ck : Nat, ∃ jb : Nat, ∃ rrk : Nat, ∃ rrv : Nat, ∃ ch : Nat, ∃ cr : Nat, ∃ p0 : Nat, ∃ po0 : Nat, ∃ pn0 : Nat, ∃ p1 : Nat, ∃ po1 : Nat, ∃ pn1 : Nat, ∃ p2 : Nat, ∃ po2 : Nat, ∃ pn2 : Nat, ∃ p3 : Nat, ∃ po3 : Nat, ∃ pn3 : Nat, ∃ jse : Nat, ∃ jst : Nat, ∃ jjo : Nat, ∃ jre : Nat, ∃ jco : Nat, ∃ m : Nat, ∃ ma : Nat, ∃ ml : Nat, ∃ ms : Nat, ∃ mp : Nat, ∃ mt : Nat, ∃ mpk : Nat, ∃ mpv : Nat, ∃ jsk : Nat, ∃ jsv : Nat, ∃ jok : Nat, ∃ jov : Nat, ∃ tk : Nat, ∃ tv : Nat, (w_ = [(x, zo 6 [.int (nI (clampS a)), .ref rr, .ref pa, .ref ck, .ref jb]), (rr, zo 4 [.ref rrk, .ref rrv, .int (nI 0)]), (rrk, zi E 120 (fun _ => 0)), (rrv, zi E 120 (fun _ => 0)), (pa, zp E 4 (pf4 p0 p1 p2 p3)), (p0, zo 5 [.int (nI 0), .ref po0, .ref pn0, .int (nI 0)]), (po0, zi E 64 (fun _ => 0)), (pn0, zi E 64 (fun _ => 0)), (p1, zo 5 [.int (nI 1), .ref po1, .ref pn1, .int (nI 0)]), (po1, zi E 64 (fun _ => 0)), (pn1, zi E 64 (fun _ => 0)), (p2, zo 5 [.int (nI 2), .ref po2, .ref pn2, .int (nI 0)]), (po2, zi E 64 (fun _ => 0)), (pn2, zi E 64 (fun _ => 0)), (p3, zo 5 [.int (nI 3), .ref po3, .ref pn3, .int (nI 0)]), (po3, zi E 64 (fun _ => 0)), (pn3, zi E 64 (fun _ => 0)), (ck, zo 0 [.ref ch, .ref cr, .int (nI 0)]), (ch, zi E 64 (zn (fun _ => 0))), (cr, zi E 576 (zn (fun _ => 0))), (jb, zo 1 [.ref m, .ref jse, .ref jst, .ref jjo, .ref jre, .ref jco]), (m, zo 3 [.ref ma, .ref ml, .ref ms, .int (nI 0), .int 0, .ref mp, .int (nI 0), .ref mt]), (ma, zi E 3 (fun _ => 0)), (ml, zi E 4 (fun _ => 0)), (ms, zi E 8 (fun _ => 0)), (mp, zo 4 [.ref mpk, .ref mpv, .int (nI 0)]), (mpk, zi E 600 (fun _ => 0)), (mpv, zi E 600 (fun _ => 0)), (mt, zi E 4 (zn (fun _ => 0))), (jse, zi E 120 (zn (fun _ => 0))), (jst, zo 2 [.ref jsk, .ref jsv, .int (nI 0)]), (jsk, zi E 600 (fun _ => 0)), (jsv, zi E 600 (fun _ => 0)), (jjo, zo 4 [.ref jok, .ref jov, .int (nI 0)]), (jok, zi E 600 (fun _ => 0)), (jov, zi E 600 (fun _ => 0)), (jre, zo 2 [.ref tk, .ref tv, .int (nI 0)]), (tk, zi E 600 (fun _ => 0)), (tv, zi E 600 (fun _ => 0)), (jco, zi E 8 (upd (fun _ => 0) 0 (-1)))])) 39 6391 := by
  refine zMv.of (cc := cX6_init) (nL := 5) (ret := none) (by decide) rfl (Nat.le_of_ble_eq_true rfl) ?_
  intro p_ e_ s_ m_ args_ below_ meth_ c_ A_ C0 hin0
  have C0 : zC E p_ s_ m_ args_ meth_ c_ cX6_init 5 none RX6 (zTs yX6_init cX6_init 5 none) A_ := C0
  refine z_eqL (L1 := [(0, .ref x), (1, .int a), (2, .int b), (3, .int d)]) rfl ?_
  refine z_aload_n 1 C0 0 dX6_init_0 rfl rfl rfl ?_
  refine z_objInit 4 C0 (zTs_in wk_29) (zTs_in wk_30) (zTs_in wk_31) dX6_init_1 rfl (Nat.le_of_ble_eq_true rfl) (by decide) (by decide) ?_
  refine z_aload_n 5 C0 0 dX6_init_4 rfl rfl rfl ?_
  refine z_iconst 6 C0 (v := (nI 1)) dX6_init_5 rfl rfl ?_
  refine z_bipush 8 C0 (v := (nI 16)) dX6_init_6 rfl rfl ?_
  refine z_iload_n 9 C0 1 dX6_init_8 rfl rfl rfl ?_
  refine z_min 12 C0 (v := (if a < nI 16 then a else nI 16)) (zTs_in wk_32) (zTs_in wk_33) (zTs_in wk_13) (zTs_in wk_34) dX6_init_9 rfl (Nat.le_of_ble_eq_true rfl) (by decide) (by decide) (by decide) rfl ?_
  refine z_max 15 C0 (v := (nI (clampS a))) (zTs_in wk_35) (zTs_in wk_36) (zTs_in wk_13) (zTs_in wk_37) dX6_init_12 rfl (Nat.le_of_ble_eq_true rfl) (by decide) (by decide) (by decide) (clampS_eq a) ?_
  refine z_putF 18 C0 0 0 [(x, zo 6 [.int (nI (clampS a)), .null, .null, .null, .null])] wz_6 rfl (by decide) (zTs_in wk_196) tyX6 tyX6_ok nmX6 rfl (hin0 rfl) rfl rfl rfl rfl dX6_init_15 rfl rfl (Nat.le_of_ble_eq_true rfl) rfl ?_
  refine z_aload_n 19 C0 0 dX6_init_18 rfl rfl rfl ?_
  refine z_new 22 C0 1 3 (ci := 4) (fs := [.null, .null, .int (nI 0)]) wz_4 tyX4 tyX4_ok (zTs_in wk_38) (zTs_in wk_39) (zTs_in wk_14) rfl (fun j hj => by rcases (show j = 0 ∨ j = 1 ∨ j = 2 by omega) with rfl | rfl | rfl <;> rfl) (by decide) (by decide) dX6_init_19 rfl (fun q19 => ?_)
  refine z_eqw (w1 := [(x, zo 6 [.int (nI (clampS a)), .null, .null, .null, .null]), (q19, zo 4 [.null, .null, .int (nI 0)])]) rfl ?_
  refine z_dup 23 C0 dX6_init_22 rfl rfl ?_
  refine z_bipush 25 C0 (v := (nI 120)) dX6_init_23 rfl rfl ?_
  refine z_callI 28 C0 [1] [0] [(x, zo 6 [.int (nI (clampS a)), .null, .null, .null, .null])] 3 243 (As := [.int (nI 120)]) (n := 1) (rinit_120 l_ E q19 ) (zTs_good (fun _ => zTs_in) wk_42) rfl (zTs_in wk_14) (zTs_in wk_40) (zTs_in wk_41) rfl ⟨by decide, by decide, by decide +kernel⟩ rfl rfl (by decide) rfl rfl (Nat.le_of_ble_eq_true rfl) ⟨by decide, by decide⟩ rfl rfl ⟨by decide, by decide⟩ ⟨by decide, by decide⟩ dX6_init_25 rfl (fun w25 hB25 => ?_)
  obtain ⟨k_25, v_25, rfl⟩ := hB25
  refine z_perm [0, 1, 2, 3] [(x, zo 6 [.int (nI (clampS a)), .null, .null, .null, .null]), (q19, zo 4 [.ref k_25, .ref v_25, .int (nI 0)]), (k_25, zi E 120 (fun _ => 0)), (v_25, zi E 120 (fun _ => 0))] (by decide) rfl ?_
  refine z_putF 31 C0 0 1 [(x, zo 6 [.int (nI (clampS a)), .ref q19, .null, .null, .null]), (q19, zo 4 [.ref k_25, .ref v_25, .int (nI 0)]), (k_25, zi E 120 (fun _ => 0)), (v_25, zi E 120 (fun _ => 0))] wz_6 rfl (by decide) (zTs_in wk_197) tyX6 tyX6_ok nmX6 rfl (hin0 rfl) rfl rfl rfl rfl dX6_init_28 rfl rfl (Nat.le_of_ble_eq_true rfl) rfl ?_
  refine z_aload_n 32 C0 0 dX6_init_31 rfl rfl rfl ?_
  refine z_iconst 33 C0 (v := (nI 4)) dX6_init_32 rfl rfl ?_
  refine z_newP 36 C0 4 247 (zTs_in wk_60) (by decide) (by decide) (by decide) dX6_init_33 rfl (fun q33 => ?_)
  refine z_eqw (w1 := [(x, zo 6 [.int (nI (clampS a)), .ref q19, .null, .null, .null]), (q19, zo 4 [.ref k_25, .ref v_25, .int (nI 0)]), (k_25, zi E 120 (fun _ => 0)), (v_25, zi E 120 (fun _ => 0)), (q33, zp E 4 (fun _ => none))]) rfl ?_
  refine z_putF 39 C0 0 2 [(x, zo 6 [.int (nI (clampS a)), .ref q19, .ref q33, .null, .null]), (q19, zo 4 [.ref k_25, .ref v_25, .int (nI 0)]), (k_25, zi E 120 (fun _ => 0)), (v_25, zi E 120 (fun _ => 0)), (q33, zp E 4 (fun _ => none))] wz_6 rfl (by decide) (zTs_in wk_198) tyX6 tyX6_ok nmX6 rfl (hin0 rfl) rfl rfl rfl rfl dX6_init_36 rfl rfl (Nat.le_of_ble_eq_true rfl) rfl ?_
  refine z_iconst 40 C0 (v := (nI 0)) dX6_init_39 rfl rfl ?_
  refine z_istore 42 C0 [1, 2, 3, 4, 0] [(0, .ref x), (1, .int a), (2, .int b), (3, .int d), (4, .int (nI 0))] dX6_init_40 rfl (by decide) rfl ?_
  refine z_iload 44 C0 4 dX6_init_42 rfl rfl ?_
  refine z_iconst 45 C0 (v := (nI 4)) dX6_init_44 rfl rfl ?_
  refine z_icmp_geN 48 70 C0 (by decide) (by decide) dX6_init_45 rfl (by decide) (fun k45 => absurd k45 (by omega)) (fun k45 => ?_)
  refine z_aload_n 49 C0 0 dX6_init_48 rfl rfl rfl ?_
  refine z_get 52 C0 0 2 wz_6 rfl (by decide) (zTs_in wk_198) dX6_init_49 rfl rfl rfl ?_
  refine z_iload 54 C0 4 dX6_init_52 rfl rfl ?_
  refine z_new 57 C0 5 251 (ci := 5) (fs := [.int (nI 0), .null, .null, .int (nI 0)]) wz_5 tyX5 tyX5_ok (zTs_in wk_60) (zTs_in wk_62) (zTs_in wk_15) rfl (fun j hj => by rcases (show j = 0 ∨ j = 1 ∨ j = 2 ∨ j = 3 by omega) with rfl | rfl | rfl | rfl <;> rfl) (by decide) (by decide) dX6_init_54 rfl (fun q54_0 => ?_)
  refine z_eqw (w1 := [(x, zo 6 [.int (nI (clampS a)), .ref q19, .ref q33, .null, .null]), (q19, zo 4 [.ref k_25, .ref v_25, .int (nI 0)]), (k_25, zi E 120 (fun _ => 0)), (v_25, zi E 120 (fun _ => 0)), (q33, zp E 4 (fun _ => none)), (q54_0, zo 5 [.int (nI 0), .null, .null, .int (nI 0)])]) rfl ?_
  refine z_dup 58 C0 dX6_init_57 rfl rfl ?_
  refine z_iload 60 C0 4 dX6_init_58 rfl rfl ?_
  refine z_callI 63 C0 [5] [0, 1, 2, 3, 4] [(x, zo 6 [.int (nI (clampS a)), .ref q19, .ref q33, .null, .null]), (q19, zo 4 [.ref k_25, .ref v_25, .int (nI 0)]), (k_25, zi E 120 (fun _ => 0)), (v_25, zi E 120 (fun _ => 0)), (q33, zp E 4 (fun _ => none))] 7 379 (As := [.int (nI 0)]) (n := 1) (pinit l_ E q54_0 0 ) (zTs_good (fun _ => zTs_in) wk_65) rfl (zTs_in wk_15) (zTs_in wk_63) (zTs_in wk_64) rfl ⟨by decide, by decide, by decide +kernel⟩ rfl rfl (by decide) rfl rfl (Nat.le_of_ble_eq_true rfl) ⟨by decide, by decide⟩ rfl rfl ⟨by decide, by decide⟩ ⟨by decide, by decide⟩ dX6_init_60 rfl (fun w60 hB60 => ?_)
  obtain ⟨k_60_0, v_60_0, rfl⟩ := hB60
  refine z_perm [0, 1, 2, 3, 4, 5, 6, 7] [(x, zo 6 [.int (nI (clampS a)), .ref q19, .ref q33, .null, .null]), (q19, zo 4 [.ref k_25, .ref v_25, .int (nI 0)]), (k_25, zi E 120 (fun _ => 0)), (v_25, zi E 120 (fun _ => 0)), (q33, zp E 4 (fun _ => none)), (q54_0, zo 5 [.int (nI 0), .ref k_60_0, .ref v_60_0, .int (nI 0)]), (k_60_0, zi E 64 (fun _ => 0)), (v_60_0, zi E 64 (fun _ => 0))] (by decide) rfl ?_
  refine z_aast 64 C0 4 5 [(x, zo 6 [.int (nI (clampS a)), .ref q19, .ref q33, .null, .null]), (q19, zo 4 [.ref k_25, .ref v_25, .int (nI 0)]), (k_25, zi E 120 (fun _ => 0)), (v_25, zi E 120 (fun _ => 0)), (q33, zp E 4 (va_up (fun _ => none) 0 (some q54_0))), (q54_0, zo 5 [.int (nI 0), .ref k_60_0, .ref v_60_0, .int (nI 0)]), (k_60_0, zi E 64 (fun _ => 0)), (v_60_0, zi E 64 (fun _ => 0))] dX6_init_63 rfl rfl rfl (by decide) (by decide) rfl ?_
  refine z_iinc 67 C0 4 [1, 2, 3, 4, 0] [(0, .ref x), (1, .int a), (2, .int b), (3, .int d), (4, .int (nI 1))] (v := (nI 1)) dX6_init_64 rfl rfl rfl (by decide) rfl ?_
  refine z_goto 42 C0 dX6_init_67 (by decide) ?_
  refine z_iload 44 C0 4 dX6_init_42 rfl rfl ?_
  refine z_iconst 45 C0 (v := (nI 4)) dX6_init_44 rfl rfl ?_
  refine z_icmp_geN 48 70 C0 (by decide) (by decide) dX6_init_45 rfl (by decide) (fun k45 => absurd k45 (by omega)) (fun k45 => ?_)
  refine z_aload_n 49 C0 0 dX6_init_48 rfl rfl rfl ?_
  refine z_get 52 C0 0 2 wz_6 rfl (by decide) (zTs_in wk_198) dX6_init_49 rfl rfl rfl ?_
  refine z_iload 54 C0 4 dX6_init_52 rfl rfl ?_
  refine z_new 57 C0 8 383 (ci := 5) (fs := [.int (nI 0), .null, .null, .int (nI 0)]) wz_5 tyX5 tyX5_ok (zTs_in wk_60) (zTs_in wk_62) (zTs_in wk_15) rfl (fun j hj => by rcases (show j = 0 ∨ j = 1 ∨ j = 2 ∨ j = 3 by omega) with rfl | rfl | rfl | rfl <;> rfl) (by decide) (by decide) dX6_init_54 rfl (fun q54_1 => ?_)
  refine z_eqw (w1 := [(x, zo 6 [.int (nI (clampS a)), .ref q19, .ref q33, .null, .null]), (q19, zo 4 [.ref k_25, .ref v_25, .int (nI 0)]), (k_25, zi E 120 (fun _ => 0)), (v_25, zi E 120 (fun _ => 0)), (q33, zp E 4 (va_up (fun _ => none) 0 (some q54_0))), (q54_0, zo 5 [.int (nI 0), .ref k_60_0, .ref v_60_0, .int (nI 0)]), (k_60_0, zi E 64 (fun _ => 0)), (v_60_0, zi E 64 (fun _ => 0)), (q54_1, zo 5 [.int (nI 0), .null, .null, .int (nI 0)])]) rfl ?_
  refine z_dup 58 C0 dX6_init_57 rfl rfl ?_
  refine z_iload 60 C0 4 dX6_init_58 rfl rfl ?_
  refine z_callI 63 C0 [8] [0, 1, 2, 3, 4, 5, 6, 7] [(x, zo 6 [.int (nI (clampS a)), .ref q19, .ref q33, .null, .null]), (q19, zo 4 [.ref k_25, .ref v_25, .int (nI 0)]), (k_25, zi E 120 (fun _ => 0)), (v_25, zi E 120 (fun _ => 0)), (q33, zp E 4 (va_up (fun _ => none) 0 (some q54_0))), (q54_0, zo 5 [.int (nI 0), .ref k_60_0, .ref v_60_0, .int (nI 0)]), (k_60_0, zi E 64 (fun _ => 0)), (v_60_0, zi E 64 (fun _ => 0))] 10 511 (As := [.int (nI 1)]) (n := 1) (pinit l_ E q54_1 1 ) (zTs_good (fun _ => zTs_in) wk_65) rfl (zTs_in wk_15) (zTs_in wk_63) (zTs_in wk_64) rfl ⟨by decide, by decide, by decide +kernel⟩ rfl rfl (by decide) rfl rfl (Nat.le_of_ble_eq_true rfl) ⟨by decide, by decide⟩ rfl rfl ⟨by decide, by decide⟩ ⟨by decide, by decide⟩ dX6_init_60 rfl (fun w60 hB60 => ?_)
  obtain ⟨k_60_1, v_60_1, rfl⟩ := hB60
  refine z_perm [0, 1, 2, 3, 4, 5, 6, 7, 8, 9, 10] [(x, zo 6 [.int (nI (clampS a)), .ref q19, .ref q33, .null, .null]), (q19, zo 4 [.ref k_25, .ref v_25, .int (nI 0)]), (k_25, zi E 120 (fun _ => 0)), (v_25, zi E 120 (fun _ => 0)), (q33, zp E 4 (va_up (fun _ => none) 0 (some q54_0))), (q54_0, zo 5 [.int (nI 0), .ref k_60_0, .ref v_60_0, .int (nI 0)]), (k_60_0, zi E 64 (fun _ => 0)), (v_60_0, zi E 64 (fun _ => 0)), (q54_1, zo 5 [.int (nI 1), .ref k_60_1, .ref v_60_1, .int (nI 0)]), (k_60_1, zi E 64 (fun _ => 0)), (v_60_1, zi E 64 (fun _ => 0))] (by decide) rfl ?_
  refine z_aast 64 C0 4 8 [(x, zo 6 [.int (nI (clampS a)), .ref q19, .ref q33, .null, .null]), (q19, zo 4 [.ref k_25, .ref v_25, .int (nI 0)]), (k_25, zi E 120 (fun _ => 0)), (v_25, zi E 120 (fun _ => 0)), (q33, zp E 4 (va_up (va_up (fun _ => none) 0 (some q54_0)) 1 (some q54_1))), (q54_0, zo 5 [.int (nI 0), .ref k_60_0, .ref v_60_0, .int (nI 0)]), (k_60_0, zi E 64 (fun _ => 0)), (v_60_0, zi E 64 (fun _ => 0)), (q54_1, zo 5 [.int (nI 1), .ref k_60_1, .ref v_60_1, .int (nI 0)]), (k_60_1, zi E 64 (fun _ => 0)), (v_60_1, zi E 64 (fun _ => 0))] dX6_init_63 rfl rfl rfl (by decide) (by decide) rfl ?_
  refine z_iinc 67 C0 4 [1, 2, 3, 4, 0] [(0, .ref x), (1, .int a), (2, .int b), (3, .int d), (4, .int (nI 2))] (v := (nI 2)) dX6_init_64 rfl rfl rfl (by decide) rfl ?_
  refine z_goto 42 C0 dX6_init_67 (by decide) ?_
  refine z_iload 44 C0 4 dX6_init_42 rfl rfl ?_
  refine z_iconst 45 C0 (v := (nI 4)) dX6_init_44 rfl rfl ?_
  refine z_icmp_geN 48 70 C0 (by decide) (by decide) dX6_init_45 rfl (by decide) (fun k45 => absurd k45 (by omega)) (fun k45 => ?_)
  refine z_aload_n 49 C0 0 dX6_init_48 rfl rfl rfl ?_
  refine z_get 52 C0 0 2 wz_6 rfl (by decide) (zTs_in wk_198) dX6_init_49 rfl rfl rfl ?_
  refine z_iload 54 C0 4 dX6_init_52 rfl rfl ?_
  refine z_new 57 C0 11 515 (ci := 5) (fs := [.int (nI 0), .null, .null, .int (nI 0)]) wz_5 tyX5 tyX5_ok (zTs_in wk_60) (zTs_in wk_62) (zTs_in wk_15) rfl (fun j hj => by rcases (show j = 0 ∨ j = 1 ∨ j = 2 ∨ j = 3 by omega) with rfl | rfl | rfl | rfl <;> rfl) (by decide) (by decide) dX6_init_54 rfl (fun q54_2 => ?_)
  refine z_eqw (w1 := [(x, zo 6 [.int (nI (clampS a)), .ref q19, .ref q33, .null, .null]), (q19, zo 4 [.ref k_25, .ref v_25, .int (nI 0)]), (k_25, zi E 120 (fun _ => 0)), (v_25, zi E 120 (fun _ => 0)), (q33, zp E 4 (va_up (va_up (fun _ => none) 0 (some q54_0)) 1 (some q54_1))), (q54_0, zo 5 [.int (nI 0), .ref k_60_0, .ref v_60_0, .int (nI 0)]), (k_60_0, zi E 64 (fun _ => 0)), (v_60_0, zi E 64 (fun _ => 0)), (q54_1, zo 5 [.int (nI 1), .ref k_60_1, .ref v_60_1, .int (nI 0)]), (k_60_1, zi E 64 (fun _ => 0)), (v_60_1, zi E 64 (fun _ => 0)), (q54_2, zo 5 [.int (nI 0), .null, .null, .int (nI 0)])]) rfl ?_
  refine z_dup 58 C0 dX6_init_57 rfl rfl ?_
  refine z_iload 60 C0 4 dX6_init_58 rfl rfl ?_
  refine z_callI 63 C0 [11] [0, 1, 2, 3, 4, 5, 6, 7, 8, 9, 10] [(x, zo 6 [.int (nI (clampS a)), .ref q19, .ref q33, .null, .null]), (q19, zo 4 [.ref k_25, .ref v_25, .int (nI 0)]), (k_25, zi E 120 (fun _ => 0)), (v_25, zi E 120 (fun _ => 0)), (q33, zp E 4 (va_up (va_up (fun _ => none) 0 (some q54_0)) 1 (some q54_1))), (q54_0, zo 5 [.int (nI 0), .ref k_60_0, .ref v_60_0, .int (nI 0)]), (k_60_0, zi E 64 (fun _ => 0)), (v_60_0, zi E 64 (fun _ => 0)), (q54_1, zo 5 [.int (nI 1), .ref k_60_1, .ref v_60_1, .int (nI 0)]), (k_60_1, zi E 64 (fun _ => 0)), (v_60_1, zi E 64 (fun _ => 0))] 13 643 (As := [.int (nI 2)]) (n := 1) (pinit l_ E q54_2 2 ) (zTs_good (fun _ => zTs_in) wk_65) rfl (zTs_in wk_15) (zTs_in wk_63) (zTs_in wk_64) rfl ⟨by decide, by decide, by decide +kernel⟩ rfl rfl (by decide) rfl rfl (Nat.le_of_ble_eq_true rfl) ⟨by decide, by decide⟩ rfl rfl ⟨by decide, by decide⟩ ⟨by decide, by decide⟩ dX6_init_60 rfl (fun w60 hB60 => ?_)
  obtain ⟨k_60_2, v_60_2, rfl⟩ := hB60
  refine z_perm [0, 1, 2, 3, 4, 5, 6, 7, 8, 9, 10, 11, 12, 13] [(x, zo 6 [.int (nI (clampS a)), .ref q19, .ref q33, .null, .null]), (q19, zo 4 [.ref k_25, .ref v_25, .int (nI 0)]), (k_25, zi E 120 (fun _ => 0)), (v_25, zi E 120 (fun _ => 0)), (q33, zp E 4 (va_up (va_up (fun _ => none) 0 (some q54_0)) 1 (some q54_1))), (q54_0, zo 5 [.int (nI 0), .ref k_60_0, .ref v_60_0, .int (nI 0)]), (k_60_0, zi E 64 (fun _ => 0)), (v_60_0, zi E 64 (fun _ => 0)), (q54_1, zo 5 [.int (nI 1), .ref k_60_1, .ref v_60_1, .int (nI 0)]), (k_60_1, zi E 64 (fun _ => 0)), (v_60_1, zi E 64 (fun _ => 0)), (q54_2, zo 5 [.int (nI 2), .ref k_60_2, .ref v_60_2, .int (nI 0)]), (k_60_2, zi E 64 (fun _ => 0)), (v_60_2, zi E 64 (fun _ => 0))] (by decide) rfl ?_
  refine z_aast 64 C0 4 11 [(x, zo 6 [.int (nI (clampS a)), .ref q19, .ref q33, .null, .null]), (q19, zo 4 [.ref k_25, .ref v_25, .int (nI 0)]), (k_25, zi E 120 (fun _ => 0)), (v_25, zi E 120 (fun _ => 0)), (q33, zp E 4 (va_up (va_up (va_up (fun _ => none) 0 (some q54_0)) 1 (some q54_1)) 2 (some q54_2))), (q54_0, zo 5 [.int (nI 0), .ref k_60_0, .ref v_60_0, .int (nI 0)]), (k_60_0, zi E 64 (fun _ => 0)), (v_60_0, zi E 64 (fun _ => 0)), (q54_1, zo 5 [.int (nI 1), .ref k_60_1, .ref v_60_1, .int (nI 0)]), (k_60_1, zi E 64 (fun _ => 0)), (v_60_1, zi E 64 (fun _ => 0)), (q54_2, zo 5 [.int (nI 2), .ref k_60_2, .ref v_60_2, .int (nI 0)]), (k_60_2, zi E 64 (fun _ => 0)), (v_60_2, zi E 64 (fun _ => 0))] dX6_init_63 rfl rfl rfl (by decide) (by decide) rfl ?_
  refine z_iinc 67 C0 4 [1, 2, 3, 4, 0] [(0, .ref x), (1, .int a), (2, .int b), (3, .int d), (4, .int (nI 3))] (v := (nI 3)) dX6_init_64 rfl rfl rfl (by decide) rfl ?_
  refine z_goto 42 C0 dX6_init_67 (by decide) ?_
  refine z_iload 44 C0 4 dX6_init_42 rfl rfl ?_
  refine z_iconst 45 C0 (v := (nI 4)) dX6_init_44 rfl rfl ?_
  refine z_icmp_geN 48 70 C0 (by decide) (by decide) dX6_init_45 rfl (by decide) (fun k45 => absurd k45 (by omega)) (fun k45 => ?_)
  refine z_aload_n 49 C0 0 dX6_init_48 rfl rfl rfl ?_
  refine z_get 52 C0 0 2 wz_6 rfl (by decide) (zTs_in wk_198) dX6_init_49 rfl rfl rfl ?_
  refine z_iload 54 C0 4 dX6_init_52 rfl rfl ?_
  refine z_new 57 C0 14 647 (ci := 5) (fs := [.int (nI 0), .null, .null, .int (nI 0)]) wz_5 tyX5 tyX5_ok (zTs_in wk_60) (zTs_in wk_62) (zTs_in wk_15) rfl (fun j hj => by rcases (show j = 0 ∨ j = 1 ∨ j = 2 ∨ j = 3 by omega) with rfl | rfl | rfl | rfl <;> rfl) (by decide) (by decide) dX6_init_54 rfl (fun q54_3 => ?_)
  refine z_eqw (w1 := [(x, zo 6 [.int (nI (clampS a)), .ref q19, .ref q33, .null, .null]), (q19, zo 4 [.ref k_25, .ref v_25, .int (nI 0)]), (k_25, zi E 120 (fun _ => 0)), (v_25, zi E 120 (fun _ => 0)), (q33, zp E 4 (va_up (va_up (va_up (fun _ => none) 0 (some q54_0)) 1 (some q54_1)) 2 (some q54_2))), (q54_0, zo 5 [.int (nI 0), .ref k_60_0, .ref v_60_0, .int (nI 0)]), (k_60_0, zi E 64 (fun _ => 0)), (v_60_0, zi E 64 (fun _ => 0)), (q54_1, zo 5 [.int (nI 1), .ref k_60_1, .ref v_60_1, .int (nI 0)]), (k_60_1, zi E 64 (fun _ => 0)), (v_60_1, zi E 64 (fun _ => 0)), (q54_2, zo 5 [.int (nI 2), .ref k_60_2, .ref v_60_2, .int (nI 0)]), (k_60_2, zi E 64 (fun _ => 0)), (v_60_2, zi E 64 (fun _ => 0)), (q54_3, zo 5 [.int (nI 0), .null, .null, .int (nI 0)])]) rfl ?_
  refine z_dup 58 C0 dX6_init_57 rfl rfl ?_
  refine z_iload 60 C0 4 dX6_init_58 rfl rfl ?_
  refine z_callI 63 C0 [14] [0, 1, 2, 3, 4, 5, 6, 7, 8, 9, 10, 11, 12, 13] [(x, zo 6 [.int (nI (clampS a)), .ref q19, .ref q33, .null, .null]), (q19, zo 4 [.ref k_25, .ref v_25, .int (nI 0)]), (k_25, zi E 120 (fun _ => 0)), (v_25, zi E 120 (fun _ => 0)), (q33, zp E 4 (va_up (va_up (va_up (fun _ => none) 0 (some q54_0)) 1 (some q54_1)) 2 (some q54_2))), (q54_0, zo 5 [.int (nI 0), .ref k_60_0, .ref v_60_0, .int (nI 0)]), (k_60_0, zi E 64 (fun _ => 0)), (v_60_0, zi E 64 (fun _ => 0)), (q54_1, zo 5 [.int (nI 1), .ref k_60_1, .ref v_60_1, .int (nI 0)]), (k_60_1, zi E 64 (fun _ => 0)), (v_60_1, zi E 64 (fun _ => 0)), (q54_2, zo 5 [.int (nI 2), .ref k_60_2, .ref v_60_2, .int (nI 0)]), (k_60_2, zi E 64 (fun _ => 0)), (v_60_2, zi E 64 (fun _ => 0))] 16 775 (As := [.int (nI 3)]) (n := 1) (pinit l_ E q54_3 3 ) (zTs_good (fun _ => zTs_in) wk_65) rfl (zTs_in wk_15) (zTs_in wk_63) (zTs_in wk_64) rfl ⟨by decide, by decide, by decide +kernel⟩ rfl rfl (by decide) rfl rfl (Nat.le_of_ble_eq_true rfl) ⟨by decide, by decide⟩ rfl rfl ⟨by decide, by decide⟩ ⟨by decide, by decide⟩ dX6_init_60 rfl (fun w60 hB60 => ?_)
  obtain ⟨k_60_3, v_60_3, rfl⟩ := hB60
  refine z_perm [0, 1, 2, 3, 4, 5, 6, 7, 8, 9, 10, 11, 12, 13, 14, 15, 16] [(x, zo 6 [.int (nI (clampS a)), .ref q19, .ref q33, .null, .null]), (q19, zo 4 [.ref k_25, .ref v_25, .int (nI 0)]), (k_25, zi E 120 (fun _ => 0)), (v_25, zi E 120 (fun _ => 0)), (q33, zp E 4 (va_up (va_up (va_up (fun _ => none) 0 (some q54_0)) 1 (some q54_1)) 2 (some q54_2))), (q54_0, zo 5 [.int (nI 0), .ref k_60_0, .ref v_60_0, .int (nI 0)]), (k_60_0, zi E 64 (fun _ => 0)), (v_60_0, zi E 64 (fun _ => 0)), (q54_1, zo 5 [.int (nI 1), .ref k_60_1, .ref v_60_1, .int (nI 0)]), (k_60_1, zi E 64 (fun _ => 0)), (v_60_1, zi E 64 (fun _ => 0)), (q54_2, zo 5 [.int (nI 2), .ref k_60_2, .ref v_60_2, .int (nI 0)]), (k_60_2, zi E 64 (fun _ => 0)), (v_60_2, zi E 64 (fun _ => 0)), (q54_3, zo 5 [.int (nI 3), .ref k_60_3, .ref v_60_3, .int (nI 0)]), (k_60_3, zi E 64 (fun _ => 0)), (v_60_3, zi E 64 (fun _ => 0))] (by decide) rfl ?_
  refine z_aast 64 C0 4 14 [(x, zo 6 [.int (nI (clampS a)), .ref q19, .ref q33, .null, .null]), (q19, zo 4 [.ref k_25, .ref v_25, .int (nI 0)]), (k_25, zi E 120 (fun _ => 0)), (v_25, zi E 120 (fun _ => 0)), (q33, zp E 4 (va_up (va_up (va_up (va_up (fun _ => none) 0 (some q54_0)) 1 (some q54_1)) 2 (some q54_2)) 3 (some q54_3))), (q54_0, zo 5 [.int (nI 0), .ref k_60_0, .ref v_60_0, .int (nI 0)]), (k_60_0, zi E 64 (fun _ => 0)), (v_60_0, zi E 64 (fun _ => 0)), (q54_1, zo 5 [.int (nI 1), .ref k_60_1, .ref v_60_1, .int (nI 0)]), (k_60_1, zi E 64 (fun _ => 0)), (v_60_1, zi E 64 (fun _ => 0)), (q54_2, zo 5 [.int (nI 2), .ref k_60_2, .ref v_60_2, .int (nI 0)]), (k_60_2, zi E 64 (fun _ => 0)), (v_60_2, zi E 64 (fun _ => 0)), (q54_3, zo 5 [.int (nI 3), .ref k_60_3, .ref v_60_3, .int (nI 0)]), (k_60_3, zi E 64 (fun _ => 0)), (v_60_3, zi E 64 (fun _ => 0))] dX6_init_63 rfl rfl rfl (by decide) (by decide) rfl ?_
  refine z_iinc 67 C0 4 [1, 2, 3, 4, 0] [(0, .ref x), (1, .int a), (2, .int b), (3, .int d), (4, .int (nI 4))] (v := (nI 4)) dX6_init_64 rfl rfl rfl (by decide) rfl ?_
  refine z_goto 42 C0 dX6_init_67 (by decide) ?_
  refine z_iload 44 C0 4 dX6_init_42 rfl rfl ?_
  refine z_iconst 45 C0 (v := (nI 4)) dX6_init_44 rfl rfl ?_
  refine z_icmp_geN 48 70 C0 (by decide) (by decide) dX6_init_45 rfl (by decide) (fun k45 => ?_) (fun k45 => absurd k45 (by omega))
  refine z_extq 4 [(x, zo 6 [.int (nI (clampS a)), .ref q19, .ref q33, .null, .null]), (q19, zo 4 [.ref k_25, .ref v_25, .int (nI 0)]), (k_25, zi E 120 (fun _ => 0)), (v_25, zi E 120 (fun _ => 0)), (q33, zp E 4 (pf4 q54_0 q54_1 q54_2 q54_3)), (q54_0, zo 5 [.int (nI 0), .ref k_60_0, .ref v_60_0, .int (nI 0)]), (k_60_0, zi E 64 (fun _ => 0)), (v_60_0, zi E 64 (fun _ => 0)), (q54_1, zo 5 [.int (nI 1), .ref k_60_1, .ref v_60_1, .int (nI 0)]), (k_60_1, zi E 64 (fun _ => 0)), (v_60_1, zi E 64 (fun _ => 0)), (q54_2, zo 5 [.int (nI 2), .ref k_60_2, .ref v_60_2, .int (nI 0)]), (k_60_2, zi E 64 (fun _ => 0)), (v_60_2, zi E 64 (fun _ => 0)), (q54_3, zo 5 [.int (nI 3), .ref k_60_3, .ref v_60_3, .int (nI 0)]), (k_60_3, zi E 64 (fun _ => 0)), (v_60_3, zi E 64 (fun _ => 0))] (g := pf4 q54_0 q54_1 q54_2 q54_3) rfl (fun j hj => by rcases (show j = 0 ∨ j = 1 ∨ j = 2 ∨ j = 3 by omega) with rfl | rfl | rfl | rfl <;> rfl) rfl ?_
  refine z_aload_n 71 C0 0 dX6_init_70 rfl rfl rfl ?_
  refine z_new 74 C0 17 778 (ci := 0) (fs := [.null, .null, .int (nI 0)]) wz_0 tyX0 tyX0_ok (zTs_in wk_89) (zTs_in wk_90) (zTs_in wk_16) rfl (fun j hj => by rcases (show j = 0 ∨ j = 1 ∨ j = 2 by omega) with rfl | rfl | rfl <;> rfl) (by decide) (by decide) dX6_init_71 rfl (fun q71 => ?_)
  refine z_eqw (w1 := [(x, zo 6 [.int (nI (clampS a)), .ref q19, .ref q33, .null, .null]), (q19, zo 4 [.ref k_25, .ref v_25, .int (nI 0)]), (k_25, zi E 120 (fun _ => 0)), (v_25, zi E 120 (fun _ => 0)), (q33, zp E 4 (pf4 q54_0 q54_1 q54_2 q54_3)), (q54_0, zo 5 [.int (nI 0), .ref k_60_0, .ref v_60_0, .int (nI 0)]), (k_60_0, zi E 64 (fun _ => 0)), (v_60_0, zi E 64 (fun _ => 0)), (q54_1, zo 5 [.int (nI 1), .ref k_60_1, .ref v_60_1, .int (nI 0)]), (k_60_1, zi E 64 (fun _ => 0)), (v_60_1, zi E 64 (fun _ => 0)), (q54_2, zo 5 [.int (nI 2), .ref k_60_2, .ref v_60_2, .int (nI 0)]), (k_60_2, zi E 64 (fun _ => 0)), (v_60_2, zi E 64 (fun _ => 0)), (q54_3, zo 5 [.int (nI 3), .ref k_60_3, .ref v_60_3, .int (nI 0)]), (k_60_3, zi E 64 (fun _ => 0)), (v_60_3, zi E 64 (fun _ => 0)), (q71, zo 0 [.null, .null, .int (nI 0)])]) rfl ?_
  refine z_dup 75 C0 dX6_init_74 rfl rfl ?_
  refine z_callIN 78 C0 [17] [0, 1, 2, 3, 4, 5, 6, 7, 8, 9, 10, 11, 12, 13, 14, 15, 16] [(x, zo 6 [.int (nI (clampS a)), .ref q19, .ref q33, .null, .null]), (q19, zo 4 [.ref k_25, .ref v_25, .int (nI 0)]), (k_25, zi E 120 (fun _ => 0)), (v_25, zi E 120 (fun _ => 0)), (q33, zp E 4 (pf4 q54_0 q54_1 q54_2 q54_3)), (q54_0, zo 5 [.int (nI 0), .ref k_60_0, .ref v_60_0, .int (nI 0)]), (k_60_0, zi E 64 (fun _ => 0)), (v_60_0, zi E 64 (fun _ => 0)), (q54_1, zo 5 [.int (nI 1), .ref k_60_1, .ref v_60_1, .int (nI 0)]), (k_60_1, zi E 64 (fun _ => 0)), (v_60_1, zi E 64 (fun _ => 0)), (q54_2, zo 5 [.int (nI 2), .ref k_60_2, .ref v_60_2, .int (nI 0)]), (k_60_2, zi E 64 (fun _ => 0)), (v_60_2, zi E 64 (fun _ => 0)), (q54_3, zo 5 [.int (nI 3), .ref k_60_3, .ref v_60_3, .int (nI 0)]), (k_60_3, zi E 64 (fun _ => 0)), (v_60_3, zi E 64 (fun _ => 0))] 19 1418 (As := []) (n := 0) (cinit l_ E q71 ) (zTs_good (fun _ => zTs_in) wk_93) rfl C0.2.2.2.2.2.2.2.2.2.1.1.1 (zTs_in wk_16) (zTs_in wk_92) rfl ⟨by decide, by decide, by decide +kernel⟩ rfl rfl (by decide) rfl rfl (Nat.le_of_ble_eq_true rfl) ⟨by decide, by decide⟩ rfl rfl ⟨by decide, by decide⟩ ⟨by decide, by decide⟩ dX6_init_75 rfl (fun w75 hB75 => ?_)
  obtain ⟨ch_75, cr_75, rfl⟩ := hB75
  refine z_perm [0, 1, 2, 3, 4, 5, 6, 7, 8, 9, 10, 11, 12, 13, 14, 15, 16, 17, 18, 19] [(x, zo 6 [.int (nI (clampS a)), .ref q19, .ref q33, .null, .null]), (q19, zo 4 [.ref k_25, .ref v_25, .int (nI 0)]), (k_25, zi E 120 (fun _ => 0)), (v_25, zi E 120 (fun _ => 0)), (q33, zp E 4 (pf4 q54_0 q54_1 q54_2 q54_3)), (q54_0, zo 5 [.int (nI 0), .ref k_60_0, .ref v_60_0, .int (nI 0)]), (k_60_0, zi E 64 (fun _ => 0)), (v_60_0, zi E 64 (fun _ => 0)), (q54_1, zo 5 [.int (nI 1), .ref k_60_1, .ref v_60_1, .int (nI 0)]), (k_60_1, zi E 64 (fun _ => 0)), (v_60_1, zi E 64 (fun _ => 0)), (q54_2, zo 5 [.int (nI 2), .ref k_60_2, .ref v_60_2, .int (nI 0)]), (k_60_2, zi E 64 (fun _ => 0)), (v_60_2, zi E 64 (fun _ => 0)), (q54_3, zo 5 [.int (nI 3), .ref k_60_3, .ref v_60_3, .int (nI 0)]), (k_60_3, zi E 64 (fun _ => 0)), (v_60_3, zi E 64 (fun _ => 0)), (q71, zo 0 [.ref ch_75, .ref cr_75, .int (nI 0)]), (ch_75, zi E 64 (zn (fun _ => 0))), (cr_75, zi E 576 (zn (fun _ => 0)))] (by decide) rfl ?_
  refine z_putF 81 C0 0 3 [(x, zo 6 [.int (nI (clampS a)), .ref q19, .ref q33, .ref q71, .null]), (q19, zo 4 [.ref k_25, .ref v_25, .int (nI 0)]), (k_25, zi E 120 (fun _ => 0)), (v_25, zi E 120 (fun _ => 0)), (q33, zp E 4 (pf4 q54_0 q54_1 q54_2 q54_3)), (q54_0, zo 5 [.int (nI 0), .ref k_60_0, .ref v_60_0, .int (nI 0)]), (k_60_0, zi E 64 (fun _ => 0)), (v_60_0, zi E 64 (fun _ => 0)), (q54_1, zo 5 [.int (nI 1), .ref k_60_1, .ref v_60_1, .int (nI 0)]), (k_60_1, zi E 64 (fun _ => 0)), (v_60_1, zi E 64 (fun _ => 0)), (q54_2, zo 5 [.int (nI 2), .ref k_60_2, .ref v_60_2, .int (nI 0)]), (k_60_2, zi E 64 (fun _ => 0)), (v_60_2, zi E 64 (fun _ => 0)), (q54_3, zo 5 [.int (nI 3), .ref k_60_3, .ref v_60_3, .int (nI 0)]), (k_60_3, zi E 64 (fun _ => 0)), (v_60_3, zi E 64 (fun _ => 0)), (q71, zo 0 [.ref ch_75, .ref cr_75, .int (nI 0)]), (ch_75, zi E 64 (zn (fun _ => 0))), (cr_75, zi E 576 (zn (fun _ => 0)))] wz_6 rfl (by decide) (zTs_in wk_199) tyX6 tyX6_ok nmX6 rfl (hin0 rfl) rfl rfl rfl rfl dX6_init_78 rfl rfl (Nat.le_of_ble_eq_true rfl) rfl ?_
  refine z_aload_n 82 C0 0 dX6_init_81 rfl rfl rfl ?_
  refine z_new 85 C0 20 1424 (ci := 1) (fs := [.null, .null, .null, .null, .null, .null]) wz_1 tyX1 tyX1_ok (zTs_in wk_105) (zTs_in wk_106) (zTs_in wk_17) rfl (fun j hj => by rcases (show j = 0 ∨ j = 1 ∨ j = 2 ∨ j = 3 ∨ j = 4 ∨ j = 5 by omega) with rfl | rfl | rfl | rfl | rfl | rfl <;> rfl) (by decide) (by decide) dX6_init_82 rfl (fun q82 => ?_)
  refine z_eqw (w1 := [(x, zo 6 [.int (nI (clampS a)), .ref q19, .ref q33, .ref q71, .null]), (q19, zo 4 [.ref k_25, .ref v_25, .int (nI 0)]), (k_25, zi E 120 (fun _ => 0)), (v_25, zi E 120 (fun _ => 0)), (q33, zp E 4 (pf4 q54_0 q54_1 q54_2 q54_3)), (q54_0, zo 5 [.int (nI 0), .ref k_60_0, .ref v_60_0, .int (nI 0)]), (k_60_0, zi E 64 (fun _ => 0)), (v_60_0, zi E 64 (fun _ => 0)), (q54_1, zo 5 [.int (nI 1), .ref k_60_1, .ref v_60_1, .int (nI 0)]), (k_60_1, zi E 64 (fun _ => 0)), (v_60_1, zi E 64 (fun _ => 0)), (q54_2, zo 5 [.int (nI 2), .ref k_60_2, .ref v_60_2, .int (nI 0)]), (k_60_2, zi E 64 (fun _ => 0)), (v_60_2, zi E 64 (fun _ => 0)), (q54_3, zo 5 [.int (nI 3), .ref k_60_3, .ref v_60_3, .int (nI 0)]), (k_60_3, zi E 64 (fun _ => 0)), (v_60_3, zi E 64 (fun _ => 0)), (q71, zo 0 [.ref ch_75, .ref cr_75, .int (nI 0)]), (ch_75, zi E 64 (zn (fun _ => 0))), (cr_75, zi E 576 (zn (fun _ => 0))), (q82, zo 1 [.null, .null, .null, .null, .null, .null])]) rfl ?_
  refine z_dup 86 C0 dX6_init_85 rfl rfl ?_
  refine z_callI 89 C0 [20] [0, 1, 2, 3, 4, 5, 6, 7, 8, 9, 10, 11, 12, 13, 14, 15, 16, 17, 18, 19] [(x, zo 6 [.int (nI (clampS a)), .ref q19, .ref q33, .ref q71, .null]), (q19, zo 4 [.ref k_25, .ref v_25, .int (nI 0)]), (k_25, zi E 120 (fun _ => 0)), (v_25, zi E 120 (fun _ => 0)), (q33, zp E 4 (pf4 q54_0 q54_1 q54_2 q54_3)), (q54_0, zo 5 [.int (nI 0), .ref k_60_0, .ref v_60_0, .int (nI 0)]), (k_60_0, zi E 64 (fun _ => 0)), (v_60_0, zi E 64 (fun _ => 0)), (q54_1, zo 5 [.int (nI 1), .ref k_60_1, .ref v_60_1, .int (nI 0)]), (k_60_1, zi E 64 (fun _ => 0)), (v_60_1, zi E 64 (fun _ => 0)), (q54_2, zo 5 [.int (nI 2), .ref k_60_2, .ref v_60_2, .int (nI 0)]), (k_60_2, zi E 64 (fun _ => 0)), (v_60_2, zi E 64 (fun _ => 0)), (q54_3, zo 5 [.int (nI 3), .ref k_60_3, .ref v_60_3, .int (nI 0)]), (k_60_3, zi E 64 (fun _ => 0)), (v_60_3, zi E 64 (fun _ => 0)), (q71, zo 0 [.ref ch_75, .ref cr_75, .int (nI 0)]), (ch_75, zi E 64 (zn (fun _ => 0))), (cr_75, zi E 576 (zn (fun _ => 0)))] 39 6391 (As := []) (n := 0) (jinit l_ E q82 ) (zTs_good (fun _ => zTs_in) wk_109) rfl (zTs_in wk_17) (zTs_in wk_107) (zTs_in wk_108) rfl ⟨by decide, by decide, by decide +kernel⟩ rfl rfl (by decide) rfl rfl (Nat.le_of_ble_eq_true rfl) ⟨by decide, by decide⟩ rfl rfl ⟨by decide, by decide⟩ ⟨by decide, by decide⟩ dX6_init_86 rfl (fun w86 hB86 => ?_)
  obtain ⟨jse_86, jst_86, jjo_86, jre_86, jco_86, m_86, ma_86, ml_86, ms_86, mp_86, mt_86, mpk_86, mpv_86, jsk_86, jsv_86, jok_86, jov_86, tk_86, tv_86, rfl⟩ := hB86
  refine z_perm [0, 1, 2, 3, 4, 5, 6, 7, 8, 9, 10, 11, 12, 13, 14, 15, 16, 17, 18, 19, 20, 21, 22, 23, 24, 25, 26, 27, 28, 29, 30, 31, 32, 33, 34, 35, 36, 37, 38, 39] [(x, zo 6 [.int (nI (clampS a)), .ref q19, .ref q33, .ref q71, .null]), (q19, zo 4 [.ref k_25, .ref v_25, .int (nI 0)]), (k_25, zi E 120 (fun _ => 0)), (v_25, zi E 120 (fun _ => 0)), (q33, zp E 4 (pf4 q54_0 q54_1 q54_2 q54_3)), (q54_0, zo 5 [.int (nI 0), .ref k_60_0, .ref v_60_0, .int (nI 0)]), (k_60_0, zi E 64 (fun _ => 0)), (v_60_0, zi E 64 (fun _ => 0)), (q54_1, zo 5 [.int (nI 1), .ref k_60_1, .ref v_60_1, .int (nI 0)]), (k_60_1, zi E 64 (fun _ => 0)), (v_60_1, zi E 64 (fun _ => 0)), (q54_2, zo 5 [.int (nI 2), .ref k_60_2, .ref v_60_2, .int (nI 0)]), (k_60_2, zi E 64 (fun _ => 0)), (v_60_2, zi E 64 (fun _ => 0)), (q54_3, zo 5 [.int (nI 3), .ref k_60_3, .ref v_60_3, .int (nI 0)]), (k_60_3, zi E 64 (fun _ => 0)), (v_60_3, zi E 64 (fun _ => 0)), (q71, zo 0 [.ref ch_75, .ref cr_75, .int (nI 0)]), (ch_75, zi E 64 (zn (fun _ => 0))), (cr_75, zi E 576 (zn (fun _ => 0))), (q82, zo 1 [.ref m_86, .ref jse_86, .ref jst_86, .ref jjo_86, .ref jre_86, .ref jco_86]), (m_86, zo 3 [.ref ma_86, .ref ml_86, .ref ms_86, .int (nI 0), .int 0, .ref mp_86, .int (nI 0), .ref mt_86]), (ma_86, zi E 3 (fun _ => 0)), (ml_86, zi E 4 (fun _ => 0)), (ms_86, zi E 8 (fun _ => 0)), (mp_86, zo 4 [.ref mpk_86, .ref mpv_86, .int (nI 0)]), (mpk_86, zi E 600 (fun _ => 0)), (mpv_86, zi E 600 (fun _ => 0)), (mt_86, zi E 4 (zn (fun _ => 0))), (jse_86, zi E 120 (zn (fun _ => 0))), (jst_86, zo 2 [.ref jsk_86, .ref jsv_86, .int (nI 0)]), (jsk_86, zi E 600 (fun _ => 0)), (jsv_86, zi E 600 (fun _ => 0)), (jjo_86, zo 4 [.ref jok_86, .ref jov_86, .int (nI 0)]), (jok_86, zi E 600 (fun _ => 0)), (jov_86, zi E 600 (fun _ => 0)), (jre_86, zo 2 [.ref tk_86, .ref tv_86, .int (nI 0)]), (tk_86, zi E 600 (fun _ => 0)), (tv_86, zi E 600 (fun _ => 0)), (jco_86, zi E 8 (upd (fun _ => 0) 0 (-1)))] (by decide) rfl ?_
  refine z_putF 92 C0 0 4 [(x, zo 6 [.int (nI (clampS a)), .ref q19, .ref q33, .ref q71, .ref q82]), (q19, zo 4 [.ref k_25, .ref v_25, .int (nI 0)]), (k_25, zi E 120 (fun _ => 0)), (v_25, zi E 120 (fun _ => 0)), (q33, zp E 4 (pf4 q54_0 q54_1 q54_2 q54_3)), (q54_0, zo 5 [.int (nI 0), .ref k_60_0, .ref v_60_0, .int (nI 0)]), (k_60_0, zi E 64 (fun _ => 0)), (v_60_0, zi E 64 (fun _ => 0)), (q54_1, zo 5 [.int (nI 1), .ref k_60_1, .ref v_60_1, .int (nI 0)]), (k_60_1, zi E 64 (fun _ => 0)), (v_60_1, zi E 64 (fun _ => 0)), (q54_2, zo 5 [.int (nI 2), .ref k_60_2, .ref v_60_2, .int (nI 0)]), (k_60_2, zi E 64 (fun _ => 0)), (v_60_2, zi E 64 (fun _ => 0)), (q54_3, zo 5 [.int (nI 3), .ref k_60_3, .ref v_60_3, .int (nI 0)]), (k_60_3, zi E 64 (fun _ => 0)), (v_60_3, zi E 64 (fun _ => 0)), (q71, zo 0 [.ref ch_75, .ref cr_75, .int (nI 0)]), (ch_75, zi E 64 (zn (fun _ => 0))), (cr_75, zi E 576 (zn (fun _ => 0))), (q82, zo 1 [.ref m_86, .ref jse_86, .ref jst_86, .ref jjo_86, .ref jre_86, .ref jco_86]), (m_86, zo 3 [.ref ma_86, .ref ml_86, .ref ms_86, .int (nI 0), .int 0, .ref mp_86, .int (nI 0), .ref mt_86]), (ma_86, zi E 3 (fun _ => 0)), (ml_86, zi E 4 (fun _ => 0)), (ms_86, zi E 8 (fun _ => 0)), (mp_86, zo 4 [.ref mpk_86, .ref mpv_86, .int (nI 0)]), (mpk_86, zi E 600 (fun _ => 0)), (mpv_86, zi E 600 (fun _ => 0)), (mt_86, zi E 4 (zn (fun _ => 0))), (jse_86, zi E 120 (zn (fun _ => 0))), (jst_86, zo 2 [.ref jsk_86, .ref jsv_86, .int (nI 0)]), (jsk_86, zi E 600 (fun _ => 0)), (jsv_86, zi E 600 (fun _ => 0)), (jjo_86, zo 4 [.ref jok_86, .ref jov_86, .int (nI 0)]), (jok_86, zi E 600 (fun _ => 0)), (jov_86, zi E 600 (fun _ => 0)), (jre_86, zo 2 [.ref tk_86, .ref tv_86, .int (nI 0)]), (tk_86, zi E 600 (fun _ => 0)), (tv_86, zi E 600 (fun _ => 0)), (jco_86, zi E 8 (upd (fun _ => 0) 0 (-1)))] wz_6 rfl (by decide) (zTs_in wk_200) tyX6 tyX6_ok nmX6 rfl (hin0 rfl) rfl rfl rfl rfl dX6_init_89 rfl rfl (Nat.le_of_ble_eq_true rfl) rfl ?_
  exact z_vret C0 rfl dX6_init_92 ⟨q19, q33, q71, q82, k_25, v_25, ch_75, cr_75, q54_0, k_60_0, v_60_0, q54_1, k_60_1, v_60_1, q54_2, k_60_2, v_60_2, q54_3, k_60_3, v_60_3, jse_86, jst_86, jjo_86, jre_86, jco_86, m_86, ma_86, ml_86, ms_86, mp_86, mt_86, mpk_86, mpv_86, jsk_86, jsv_86, jok_86, jov_86, tk_86, tv_86, rfl⟩ (by decide) (by decide)
