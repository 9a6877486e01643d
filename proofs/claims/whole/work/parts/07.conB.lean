/-- the first i places hold v -/
def fillTo (f : Nat → Int32) (v : Int32) (i : Nat) : Nat → Int32 := fun j => if j < i then v else f j
theorem fillTo_0 (f : Nat → Int32) (v : Int32) : fillTo f v 0 = f := by funext j; unfold fillTo; rw [if_neg (Nat.not_lt_zero j)]
theorem fillTo_s (f : Nat → Int32) (v : Int32) (i : Nat) : upd (fillTo f v i) i v = fillTo f v (i + 1) := by
  funext j
  show (if j = i then v else (if j < i then v else f j)) = (if j < i + 1 then v else f j)
  by_cases h : j = i
  · rw [if_pos h, if_pos (by omega)]
  · by_cases h2 : j < i
    · rw [if_neg h, if_pos h2, if_pos (by omega)]
    · rw [if_neg h, if_neg h2, if_neg (by omega)]
set_option maxHeartbeats 4000000 in
set_option maxRecDepth 100000 in
theorem fill (l_ : Launch) (E : zE) (a : Nat) (n : Nat) (f : Nat → Int32) (v : Int32) (hn : n ≤ 1000) : zMv l_ E yJ7_fill_53178 (zTs yJ7_fill_53178 cJ7_fill_53178 4 none) ({ frames := 0, cells := 0, slots := 0, locals := 0 } : Room) [.ref a, .int v] [(a, zi E n f)] (fun w_ => (w_ = [(a, zi E n (fun _ => v))])) 0 0 := by
  refine zMv.of (cc := cJ7_fill_53178) (nL := 4) (ret := none) (by decide) rfl (Nat.le_of_ble_eq_true rfl) ?_
  intro p_ e_ s_ m_ args_ below_ meth_ c_ A_ C0 hin0
  have C0 : zC E p_ s_ m_ args_ meth_ c_ cJ7_fill_53178 4 none RJ7 (zTs yJ7_fill_53178 cJ7_fill_53178 4 none) A_ := C0
  refine z_eqL (L1 := [(0, .ref a), (1, .int v)]) rfl ?_
  refine z_iconst 1 C0 (v := (nI 0)) dJ7_fill_53178_0 rfl rfl ?_
  refine z_istore_n 2 C0 [1, 2, 0] [(0, .ref a), (1, .int v), (2, .int (nI 0))] dJ7_fill_53178_1 rfl rfl (by decide) rfl ?_
  refine z_aload_n 3 C0 0 dJ7_fill_53178_2 rfl rfl rfl ?_
  refine z_alen 4 C0 0 dJ7_fill_53178_3 rfl rfl ?_
  refine z_eq (L1 := [(0, .ref a), (1, .int v), (2, .int (nI 0))]) (st1 := [.int (nI n)]) (w1 := [(a, zi E n (fillTo f v 0))]) rfl rfl (by rw [fillTo_0]) ?_
  refine z_istore_n 5 C0 [1, 2, 3, 0] [(0, .ref a), (1, .int v), (2, .int (nI 0)), (3, .int (nI n))] dJ7_fill_53178_4 rfl rfl (by decide) rfl ?_
  have CUT5 : ∀ (N5 : Nat) (i : Nat), (i ≤ n) → n - i < N5 → Z E p_ l_ e_ ({ frames := 0, cells := 0, slots := 0, locals := 0 } : Room) s_ m_ args_ below_ meth_ c_ (MQ below_ (va_Qv (fun w_ => (w_ = [(a, zi E n (fun _ => v))])) (zPost E A_) A_) args_ s_ 0 0 A_) A_ 4 5 [(0, .ref a), (1, .int v), (2, .int (nI i)), (3, .int (nI n))] [] [(a, zi E n (fillTo f v i))] 0 0 := by
    intro N5
    induction N5 with
    | zero => intro i hi hm5; exact absurd hm5 (Nat.not_lt_zero _)
    | succ N5 ih5 =>
      intro i hi hm5
      refine z_iload_n 6 C0 2 dJ7_fill_53178_5 rfl rfl rfl ?_
      refine z_iload_n 7 C0 3 dJ7_fill_53178_6 rfl rfl rfl ?_
      refine z_icmp_geN 10 20 C0 (by omega) (by omega) dJ7_fill_53178_7 rfl (by decide) (fun k7 => ?_) (fun k7 => ?_)
      · skip
        refine z_ext 0 [(a, zi E n (fun _ => v))] (g := fun _ => v) rfl (fun j hj => by unfold fillTo; rw [if_pos (by omega)]) rfl ?_
        exact z_vret C0 rfl dJ7_fill_53178_20 rfl (by decide) (by decide)
      · skip
        refine z_aload_n 11 C0 0 dJ7_fill_53178_10 rfl rfl rfl ?_
        refine z_iload_n 12 C0 2 dJ7_fill_53178_11 rfl rfl rfl ?_
        refine z_iload_n 13 C0 1 dJ7_fill_53178_12 rfl rfl rfl ?_
        refine z_iastN 14 C0 0 [(a, zi E n (fillTo f v (i + 1)))] dJ7_fill_53178_13 rfl rfl (by omega) (by omega) (by rw [fillTo_s]; rfl) ?_
        refine z_iinc 17 C0 2 [1, 2, 0, 3] [(0, .ref a), (1, .int v), (2, .int (nI (i + 1))), (3, .int (nI n))] (v := (nI (i + 1))) dJ7_fill_53178_14 rfl rfl (z_incN _ _) (by decide) rfl ?_
        refine z_goto 5 C0 dJ7_fill_53178_17 (by decide) ?_
        exact ih5 (i + 1) (by omega) (by omega)
  exact CUT5 (n - 0 + 1) 0 (by omega) (Nat.lt_succ_self _)

set_option maxHeartbeats 4000000 in
set_option maxRecDepth 100000 in
theorem pop (l_ : Launch) (E : zE) (m : Nat) (ma : Nat) (ml : Nat) (ms : Nat) (mp : Nat) (mt : Nat) (h : Nat) (an : Int32) (em : Nat) (st : Nat → Int32) (hh : h ≤ 8) : zMi l_ E yX3_pop (zTs yX3_pop cX3_pop 1 (some .int)) ({ frames := 0, cells := 0, slots := 0, locals := 0 } : Room) [.ref m] [(m, zo 3 [.ref ma, .ref ml, .ref ms, .int (nI h), .int an, .ref mp, .int (nI em), .ref mt]), (ms, zi E 8 st)] (fun r_ w_ => (r_ = (popV h st) ∧ w_ = [(m, zo 3 [.ref ma, .ref ml, .ref ms, .int (nI (h - 1)), .int an, .ref mp, .int (nI em), .ref mt]), (ms, zi E 8 st)])) 0 0 := by
  refine zMi.of (cc := cX3_pop) (nL := 1) (ret := (some .int)) (by decide) rfl (Nat.le_of_ble_eq_true rfl) ?_
  intro p_ e_ s_ m_ args_ below_ meth_ c_ A_ C0 hin0
  have C0 : zC E p_ s_ m_ args_ meth_ c_ cX3_pop 1 (some .int) RX3 (zTs yX3_pop cX3_pop 1 (some .int)) A_ := C0
  refine z_eqL (L1 := [(0, .ref m)]) rfl ?_
  refine z_aload_n 1 C0 0 dX3_pop_0 rfl rfl rfl ?_
  refine z_get 4 C0 0 3 wz_3 rfl (by decide) (zTs_in wk_122) dX3_pop_1 rfl rfl rfl ?_
  refine z_if_gtN 7 9 C0 (by omega) dX3_pop_4 rfl (by decide) (fun k4 => ?_) (fun k4 => ?_)
  · skip
    refine z_aload_n 10 C0 0 dX3_pop_9 rfl rfl rfl ?_
    refine z_dup 11 C0 dX3_pop_10 rfl rfl ?_
    refine z_get 14 C0 0 3 wz_3 rfl (by decide) (zTs_in wk_122) dX3_pop_11 rfl rfl rfl ?_
    refine z_iconst 15 C0 (v := (nI 1)) dX3_pop_14 rfl rfl ?_
    refine z_isub 16 C0 (v := (nI (h - 1))) dX3_pop_15 rfl (z_subN (by omega)) ?_
    refine z_put 19 C0 0 3 [(m, zo 3 [.ref ma, .ref ml, .ref ms, .int (nI (h - 1)), .int an, .ref mp, .int (nI em), .ref mt]), (ms, zi E 8 st)] wz_3 rfl (by decide) (zTs_in wk_122) tyX3 tyX3_ok nmX3 rfl rfl rfl rfl dX3_pop_16 rfl rfl (Nat.le_of_ble_eq_true rfl) rfl ?_
    refine z_aload_n 20 C0 0 dX3_pop_19 rfl rfl rfl ?_
    refine z_get 23 C0 0 2 wz_3 rfl (by decide) (zTs_in wk_121) dX3_pop_20 rfl rfl rfl ?_
    refine z_aload_n 24 C0 0 dX3_pop_23 rfl rfl rfl ?_
    refine z_get 27 C0 0 3 wz_3 rfl (by decide) (zTs_in wk_122) dX3_pop_24 rfl rfl rfl ?_
    refine z_ialdN 28 C0 1 (v := (st (h - 1))) dX3_pop_27 rfl rfl (by omega) (by decide) rfl ?_
    exact z_iret C0 rfl dX3_pop_28 ⟨(by unfold popV; rw [if_neg (by omega)]), rfl⟩ (by decide) (by decide)
  · skip
    refine z_iconst 8 C0 (v := (nI 0)) dX3_pop_7 rfl rfl ?_
    exact z_iret C0 rfl dX3_pop_8 ⟨(by rw [k4]; rfl), (by rw [k4])⟩ (by decide) (by decide)

set_option maxHeartbeats 4000000 in
set_option maxRecDepth 100000 in
theorem push (l_ : Launch) (E : zE) (m : Nat) (ma : Nat) (ml : Nat) (ms : Nat) (mp : Nat) (mt : Nat) (h : Nat) (an : Int32) (em : Nat) (st : Nat → Int32) (v : Int32) (hh : h < 8) : zMv l_ E yX3_push (zTs yX3_push cX3_push 2 none) ({ frames := 0, cells := 0, slots := 0, locals := 0 } : Room) [.ref m, .int v] [(m, zo 3 [.ref ma, .ref ml, .ref ms, .int (nI h), .int an, .ref mp, .int (nI em), .ref mt]), (ms, zi E 8 st)] (fun w_ => (w_ = [(m, zo 3 [.ref ma, .ref ml, .ref ms, .int (nI (h + 1)), .int an, .ref mp, .int (nI em), .ref mt]), (ms, zi E 8 (upd st h v))])) 0 0 := by
  refine zMv.of (cc := cX3_push) (nL := 2) (ret := none) (by decide) rfl (Nat.le_of_ble_eq_true rfl) ?_
  intro p_ e_ s_ m_ args_ below_ meth_ c_ A_ C0 hin0
  have C0 : zC E p_ s_ m_ args_ meth_ c_ cX3_push 2 none RX3 (zTs yX3_push cX3_push 2 none) A_ := C0
  refine z_eqL (L1 := [(0, .ref m), (1, .int v)]) rfl ?_
  refine z_aload_n 1 C0 0 dX3_push_0 rfl rfl rfl ?_
  refine z_get 4 C0 0 3 wz_3 rfl (by decide) (zTs_in wk_122) dX3_push_1 rfl rfl rfl ?_
  refine z_bipush 6 C0 (v := (nI 8)) dX3_push_4 rfl rfl ?_
  refine z_icmp_geN 9 29 C0 (by omega) (by decide) dX3_push_6 rfl (by decide) (fun k6 => absurd k6 (by omega)) (fun k6 => ?_)
  refine z_aload_n 10 C0 0 dX3_push_9 rfl rfl rfl ?_
  refine z_get 13 C0 0 2 wz_3 rfl (by decide) (zTs_in wk_121) dX3_push_10 rfl rfl rfl ?_
  refine z_aload_n 14 C0 0 dX3_push_13 rfl rfl rfl ?_
  refine z_get 17 C0 0 3 wz_3 rfl (by decide) (zTs_in wk_122) dX3_push_14 rfl rfl rfl ?_
  refine z_iload_n 18 C0 1 dX3_push_17 rfl rfl rfl ?_
  refine z_iastN 19 C0 1 [(m, zo 3 [.ref ma, .ref ml, .ref ms, .int (nI h), .int an, .ref mp, .int (nI em), .ref mt]), (ms, zi E 8 (upd st h v))] dX3_push_18 rfl rfl (by omega) (by decide) rfl ?_
  refine z_aload_n 20 C0 0 dX3_push_19 rfl rfl rfl ?_
  refine z_dup 21 C0 dX3_push_20 rfl rfl ?_
  refine z_get 24 C0 0 3 wz_3 rfl (by decide) (zTs_in wk_122) dX3_push_21 rfl rfl rfl ?_
  refine z_iconst 25 C0 (v := (nI 1)) dX3_push_24 rfl rfl ?_
  refine z_iadd 26 C0 (v := (nI (h + 1))) dX3_push_25 rfl (nI_add _ _) ?_
  refine z_put 29 C0 0 3 [(m, zo 3 [.ref ma, .ref ml, .ref ms, .int (nI (h + 1)), .int an, .ref mp, .int (nI em), .ref mt]), (ms, zi E 8 (upd st h v))] wz_3 rfl (by decide) (zTs_in wk_122) tyX3 tyX3_ok nmX3 rfl rfl rfl rfl dX3_push_26 rfl rfl (Nat.le_of_ble_eq_true rfl) rfl ?_
  exact z_vret C0 rfl dX3_push_29 rfl (by decide) (by decide)

set_option maxHeartbeats 4000000 in
set_option maxRecDepth 100000 in
theorem store (l_ : Launch) (E : zE) (m : Nat) (ma : Nat) (ml : Nat) (ms : Nat) (mp : Nat) (mt : Nat) (h : Nat) (an : Int32) (em : Nat) (lo : Nat → Int32) (j : Nat) (v : Int32) (hj : j < 4) : zMv l_ E yX3_store (zTs yX3_store cX3_store 3 none) ({ frames := 0, cells := 0, slots := 0, locals := 0 } : Room) [.ref m, .int (nI j), .int v] [(m, zo 3 [.ref ma, .ref ml, .ref ms, .int (nI h), .int an, .ref mp, .int (nI em), .ref mt]), (ml, zi E 4 lo)] (fun w_ => (w_ = [(m, zo 3 [.ref ma, .ref ml, .ref ms, .int (nI h), .int an, .ref mp, .int (nI em), .ref mt]), (ml, zi E 4 (upd lo j v))])) 0 0 := by
  refine zMv.of (cc := cX3_store) (nL := 3) (ret := none) (by decide) rfl (Nat.le_of_ble_eq_true rfl) ?_
  intro p_ e_ s_ m_ args_ below_ meth_ c_ A_ C0 hin0
  have C0 : zC E p_ s_ m_ args_ meth_ c_ cX3_store 3 none RX3 (zTs yX3_store cX3_store 3 none) A_ := C0
  refine z_eqL (L1 := [(0, .ref m), (1, .int (nI j)), (2, .int v)]) rfl ?_
  refine z_iload_n 1 C0 1 dX3_store_0 rfl rfl rfl ?_
  refine z_if_ltN 4 C0 16 (by omega) dX3_store_1 rfl (by decide) ?_
  refine z_iload_n 5 C0 1 dX3_store_4 rfl rfl rfl ?_
  refine z_iconst 6 C0 (v := (nI 4)) dX3_store_5 rfl rfl ?_
  refine z_icmp_geN 9 16 C0 (by omega) (by decide) dX3_store_6 rfl (by decide) (fun k6 => absurd k6 (by omega)) (fun k6 => ?_)
  refine z_aload_n 10 C0 0 dX3_store_9 rfl rfl rfl ?_
  refine z_get 13 C0 0 1 wz_3 rfl (by decide) (zTs_in wk_120) dX3_store_10 rfl rfl rfl ?_
  refine z_iload_n 14 C0 1 dX3_store_13 rfl rfl rfl ?_
  refine z_iload_n 15 C0 2 dX3_store_14 rfl rfl rfl ?_
  refine z_iastN 16 C0 1 [(m, zo 3 [.ref ma, .ref ml, .ref ms, .int (nI h), .int an, .ref mp, .int (nI em), .ref mt]), (ml, zi E 4 (upd lo j v))] dX3_store_15 rfl rfl (by omega) (by decide) rfl ?_
  exact z_vret C0 rfl dX3_store_16 rfl (by decide) (by decide)

set_option maxHeartbeats 4000000 in
set_option maxRecDepth 100000 in
theorem begin (l_ : Launch) (E : zE) (m : Nat) (ma : Nat) (ml : Nat) (ms : Nat) (mp : Nat) (mt : Nat) (h : Nat) (an : Int32) (em : Nat) (ar : Nat → Int32) (lo : Nat → Int32) (a : Int32) (b : Int32) (d : Int32)  : zMv l_ E yX3_begin (zTs yX3_begin cX3_begin 4 none) ({ frames := 1, cells := 0, slots := 0, locals := 23 } : Room) [.ref m, .int a, .int b, .int d] [(m, zo 3 [.ref ma, .ref ml, .ref ms, .int (nI h), .int an, .ref mp, .int (nI em), .ref mt]), (ma, zi E 3 ar), (ml, zi E 4 lo)] (fun w_ => (w_ = [(m, zo 3 [.ref ma, .ref ml, .ref ms, .int (nI 0), .int an, .ref mp, .int (nI 0), .ref mt]), (ma, zi E 3 (upd (upd (upd ar 0 a) 1 b) 2 d)), (ml, zi E 4 (fun _ => 0))])) 0 0 := by
  refine zMv.of (cc := cX3_begin) (nL := 4) (ret := none) (by decide) rfl (Nat.le_of_ble_eq_true rfl) ?_
  intro p_ e_ s_ m_ args_ below_ meth_ c_ A_ C0 hin0
  have C0 : zC E p_ s_ m_ args_ meth_ c_ cX3_begin 4 none RX3 (zTs yX3_begin cX3_begin 4 none) A_ := C0
  refine z_eqL (L1 := [(0, .ref m), (1, .int a), (2, .int b), (3, .int d)]) rfl ?_
  refine z_aload_n 1 C0 0 dX3_begin_0 rfl rfl rfl ?_
  refine z_get 4 C0 0 0 wz_3 rfl (by decide) (zTs_in wk_119) dX3_begin_1 rfl rfl rfl ?_
  refine z_iconst 5 C0 (v := (nI 0)) dX3_begin_4 rfl rfl ?_
  refine z_iload_n 6 C0 1 dX3_begin_5 rfl rfl rfl ?_
  refine z_iastN 7 C0 1 [(m, zo 3 [.ref ma, .ref ml, .ref ms, .int (nI h), .int an, .ref mp, .int (nI em), .ref mt]), (ma, zi E 3 (upd ar 0 a)), (ml, zi E 4 lo)] dX3_begin_6 rfl rfl (by omega) (by decide) rfl ?_
  refine z_aload_n 8 C0 0 dX3_begin_7 rfl rfl rfl ?_
  refine z_get 11 C0 0 0 wz_3 rfl (by decide) (zTs_in wk_119) dX3_begin_8 rfl rfl rfl ?_
  refine z_iconst 12 C0 (v := (nI 1)) dX3_begin_11 rfl rfl ?_
  refine z_iload_n 13 C0 2 dX3_begin_12 rfl rfl rfl ?_
  refine z_iastN 14 C0 1 [(m, zo 3 [.ref ma, .ref ml, .ref ms, .int (nI h), .int an, .ref mp, .int (nI em), .ref mt]), (ma, zi E 3 (upd (upd ar 0 a) 1 b)), (ml, zi E 4 lo)] dX3_begin_13 rfl rfl (by omega) (by decide) rfl ?_
  refine z_aload_n 15 C0 0 dX3_begin_14 rfl rfl rfl ?_
  refine z_get 18 C0 0 0 wz_3 rfl (by decide) (zTs_in wk_119) dX3_begin_15 rfl rfl rfl ?_
  refine z_iconst 19 C0 (v := (nI 2)) dX3_begin_18 rfl rfl ?_
  refine z_iload_n 20 C0 3 dX3_begin_19 rfl rfl rfl ?_
  refine z_iastN 21 C0 1 [(m, zo 3 [.ref ma, .ref ml, .ref ms, .int (nI h), .int an, .ref mp, .int (nI em), .ref mt]), (ma, zi E 3 (upd (upd (upd ar 0 a) 1 b) 2 d)), (ml, zi E 4 lo)] dX3_begin_20 rfl rfl (by omega) (by decide) rfl ?_
  refine z_aload_n 22 C0 0 dX3_begin_21 rfl rfl rfl ?_
  refine z_get 25 C0 0 1 wz_3 rfl (by decide) (zTs_in wk_120) dX3_begin_22 rfl rfl rfl ?_
  refine z_iconst 26 C0 (v := (nI 0)) dX3_begin_25 rfl rfl ?_
  refine z_callSv 29 C0 [2] [0, 1] [(m, zo 3 [.ref ma, .ref ml, .ref ms, .int (nI h), .int an, .ref mp, .int (nI em), .ref mt]), (ma, zi E 3 (upd (upd (upd ar 0 a) 1 b) 2 d))] 0 0 (As := [.ref ml, .int (nI 0)]) (n := 2) (fill l_ E ml 4 lo (nI 0) (by omega)) (zGIS (fun _ => zTs_in) wk_253 wk_334 wk_252 wk_21) rfl ⟨by decide, by decide, by decide +kernel⟩ rfl rfl (by decide) rfl rfl (Nat.le_of_ble_eq_true rfl) ⟨by decide, by decide⟩ rfl rfl ⟨by decide, by decide⟩ ⟨by decide, by decide⟩ dX3_begin_26 rfl (fun w26 hB26 => ?_)
  obtain rfl := hB26
  refine z_perm [0, 1, 2] [(m, zo 3 [.ref ma, .ref ml, .ref ms, .int (nI h), .int an, .ref mp, .int (nI em), .ref mt]), (ma, zi E 3 (upd (upd (upd ar 0 a) 1 b) 2 d)), (ml, zi E 4 (fun _ => (nI 0)))] (by decide) rfl ?_
  refine z_aload_n 30 C0 0 dX3_begin_29 rfl rfl rfl ?_
  refine z_iconst 31 C0 (v := (nI 0)) dX3_begin_30 rfl rfl ?_
  refine z_put 34 C0 0 3 [(m, zo 3 [.ref ma, .ref ml, .ref ms, .int (nI 0), .int an, .ref mp, .int (nI em), .ref mt]), (ma, zi E 3 (upd (upd (upd ar 0 a) 1 b) 2 d)), (ml, zi E 4 (fun _ => (nI 0)))] wz_3 rfl (by decide) (zTs_in wk_122) tyX3 tyX3_ok nmX3 rfl rfl rfl rfl dX3_begin_31 rfl rfl (Nat.le_of_ble_eq_true rfl) rfl ?_
  refine z_aload_n 35 C0 0 dX3_begin_34 rfl rfl rfl ?_
  refine z_iconst 36 C0 (v := (nI 0)) dX3_begin_35 rfl rfl ?_
  refine z_put 39 C0 0 6 [(m, zo 3 [.ref ma, .ref ml, .ref ms, .int (nI 0), .int an, .ref mp, .int (nI 0), .ref mt]), (ma, zi E 3 (upd (upd (upd ar 0 a) 1 b) 2 d)), (ml, zi E 4 (fun _ => (nI 0)))] wz_3 rfl (by decide) (zTs_in wk_127) tyX3 tyX3_ok nmX3 rfl rfl rfl rfl dX3_begin_36 rfl rfl (Nat.le_of_ble_eq_true rfl) rfl ?_
  exact z_vret C0 rfl dX3_begin_39 rfl (by decide) (by decide)


set_option maxHeartbeats 4000000 in
set_option maxRecDepth 100000 in
theorem combined (l_ : Launch) (E : zE) (o : Nat) (a : Int32) (b : Int32) (h7 : 7 ≤ o) (h13 : o ≤ 13) : zMi l_ E yX3_combined (zTs yX3_combined cX3_combined 3 (some .int)) ({ frames := 0, cells := 0, slots := 0, locals := 0 } : Room) [.int (nI o), .int a, .int b] [] (fun r_ w_ => (r_ = (cmb o a b) ∧ w_ = [])) 0 0 := by
  refine zMi.of (cc := cX3_combined) (nL := 3) (ret := (some .int)) (by decide) rfl (Nat.le_of_ble_eq_true rfl) ?_
  intro p_ e_ s_ m_ args_ below_ meth_ c_ A_ C0 hin0
  have C0 : zC E p_ s_ m_ args_ meth_ c_ cX3_combined 3 (some .int) RX3 (zTs yX3_combined cX3_combined 3 (some .int)) A_ := C0
  refine z_eqL (L1 := [(0, .int (nI o)), (1, .int a), (2, .int b)]) rfl ?_
  rcases (show o = 7 ∨ o = 8 ∨ o = 9 ∨ o = 10 ∨ o = 11 ∨ o = 12 ∨ o = 13 by omega) with rfl | rfl | rfl | rfl | rfl | rfl | rfl
  · skip
    refine z_iload_n 1 C0 0 dX3_combined_0 rfl rfl rfl ?_
    refine z_switch 40 C0 dX3_combined_1 (by decide) (by decide) rfl (by decide) ?_
    refine z_iload_n 41 C0 1 dX3_combined_40 rfl rfl rfl ?_
    refine z_iload_n 42 C0 2 dX3_combined_41 rfl rfl rfl ?_
    refine z_iadd 43 C0 (v := (a + b)) dX3_combined_42 rfl rfl ?_
    exact z_iret C0 rfl dX3_combined_43 ⟨rfl, rfl⟩ (by decide) (by decide)
  · skip
    refine z_iload_n 1 C0 0 dX3_combined_0 rfl rfl rfl ?_
    refine z_switch 44 C0 dX3_combined_1 (by decide) (by decide) rfl (by decide) ?_
    refine z_iload_n 45 C0 1 dX3_combined_44 rfl rfl rfl ?_
    refine z_iload_n 46 C0 2 dX3_combined_45 rfl rfl rfl ?_
    refine z_isub 47 C0 (v := (a - b)) dX3_combined_46 rfl rfl ?_
    exact z_iret C0 rfl dX3_combined_47 ⟨rfl, rfl⟩ (by decide) (by decide)
  · skip
    refine z_iload_n 1 C0 0 dX3_combined_0 rfl rfl rfl ?_
    refine z_switch 48 C0 dX3_combined_1 (by decide) (by decide) rfl (by decide) ?_
    refine z_iload_n 49 C0 1 dX3_combined_48 rfl rfl rfl ?_
    refine z_iload_n 50 C0 2 dX3_combined_49 rfl rfl rfl ?_
    refine z_imul 51 C0 (v := (a * b)) dX3_combined_50 rfl rfl ?_
    exact z_iret C0 rfl dX3_combined_51 ⟨rfl, rfl⟩ (by decide) (by decide)
  · skip
    refine z_iload_n 1 C0 0 dX3_combined_0 rfl rfl rfl ?_
    refine z_switch 52 C0 dX3_combined_1 (by decide) (by decide) rfl (by decide) ?_
    refine z_iload_n 53 C0 2 dX3_combined_52 rfl rfl rfl ?_
    refine z_if_ne 56 60 C0 dX3_combined_53 rfl (by decide) (fun k53 => ?_) (fun k53 => ?_)
    · skip
      refine z_iload_n 61 C0 1 dX3_combined_60 rfl rfl rfl ?_
      refine z_iload_n 62 C0 2 dX3_combined_61 rfl rfl rfl ?_
      refine z_idiv 63 C0 (v := (a / b)) dX3_combined_62 rfl k53 rfl ?_
      exact z_iret C0 rfl dX3_combined_63 ⟨(cmb_div k53), rfl⟩ (by decide) (by decide)
    · skip
      refine z_iconst 57 C0 (v := (nI 0)) dX3_combined_56 rfl rfl ?_
      refine z_goto 63 C0 dX3_combined_57 (by decide) ?_
      exact z_iret C0 rfl dX3_combined_63 ⟨(by rw [k53]; rfl), rfl⟩ (by decide) (by decide)
  · skip
    refine z_iload_n 1 C0 0 dX3_combined_0 rfl rfl rfl ?_
    refine z_switch 64 C0 dX3_combined_1 (by decide) (by decide) rfl (by decide) ?_
    refine z_iload_n 65 C0 2 dX3_combined_64 rfl rfl rfl ?_
    refine z_if_ne 68 72 C0 dX3_combined_65 rfl (by decide) (fun k65 => ?_) (fun k65 => ?_)
    · skip
      refine z_iload_n 73 C0 1 dX3_combined_72 rfl rfl rfl ?_
      refine z_iload_n 74 C0 2 dX3_combined_73 rfl rfl rfl ?_
      refine z_irem 75 C0 (v := (a - a / b * b)) dX3_combined_74 rfl k65 rfl ?_
      exact z_iret C0 rfl dX3_combined_75 ⟨(cmb_rem k65), rfl⟩ (by decide) (by decide)
    · skip
      refine z_iconst 69 C0 (v := (nI 0)) dX3_combined_68 rfl rfl ?_
      refine z_goto 75 C0 dX3_combined_69 (by decide) ?_
      exact z_iret C0 rfl dX3_combined_75 ⟨(by rw [k65]; rfl), rfl⟩ (by decide) (by decide)
  · skip
    refine z_iload_n 1 C0 0 dX3_combined_0 rfl rfl rfl ?_
    refine z_switch 76 C0 dX3_combined_1 (by decide) (by decide) rfl (by decide) ?_
    refine z_iload_n 77 C0 1 dX3_combined_76 rfl rfl rfl ?_
    refine z_iload_n 78 C0 2 dX3_combined_77 rfl rfl rfl ?_
    refine z_icmp_ge 81 85 C0 dX3_combined_78 rfl (by decide) (fun k78 => ?_) (fun k78 => ?_)
    · skip
      refine z_iconst 86 C0 (v := (nI 0)) dX3_combined_85 rfl rfl ?_
      exact z_iret C0 rfl dX3_combined_86 ⟨(cmb_nlt k78), rfl⟩ (by decide) (by decide)
    · skip
      refine z_iconst 82 C0 (v := (nI 1)) dX3_combined_81 rfl rfl ?_
      refine z_goto 86 C0 dX3_combined_82 (by decide) ?_
      exact z_iret C0 rfl dX3_combined_86 ⟨(cmb_lt k78), rfl⟩ (by decide) (by decide)
  · skip
    refine z_iload_n 1 C0 0 dX3_combined_0 rfl rfl rfl ?_
    refine z_switchO 87 C0 dX3_combined_1 (by decide) (by decide) ?_
    refine z_iload_n 88 C0 1 dX3_combined_87 rfl rfl rfl ?_
    refine z_iload_n 89 C0 2 dX3_combined_88 rfl rfl rfl ?_
    refine z_icmp_ne 92 96 C0 dX3_combined_89 rfl (by decide) (fun k89 => ?_) (fun k89 => ?_)
    · skip
      refine z_iconst 97 C0 (v := (nI 0)) dX3_combined_96 rfl rfl ?_
      exact z_iret C0 rfl dX3_combined_97 ⟨(cmb_ne k89), rfl⟩ (by decide) (by decide)
    · skip
      refine z_iconst 93 C0 (v := (nI 1)) dX3_combined_92 rfl rfl ?_
      refine z_goto 97 C0 dX3_combined_93 (by decide) ?_
      exact z_iret C0 rfl dX3_combined_97 ⟨(cmb_eq k89), rfl⟩ (by decide) (by decide)

set_option maxHeartbeats 4000000 in
set_option maxRecDepth 100000 in
theorem jump14 (l_ : Launch) (E : zE) (m : Nat) (ma : Nat) (ml : Nat) (ms : Nat) (mp : Nat) (mt : Nat) (h : Nat) (an : Int32) (em : Nat) (st : Nat → Int32) (n : Int32) (at_ : Nat) (hh : h ≤ 8) : zMi l_ E yX3_jump (zTs yX3_jump cX3_jump 4 (some .int)) ({ frames := 1, cells := 0, slots := 0, locals := 20 } : Room) [.ref m, .int (nI 14), .int n, .int (nI at_)] [(m, zo 3 [.ref ma, .ref ml, .ref ms, .int (nI h), .int an, .ref mp, .int (nI em), .ref mt]), (ms, zi E 8 st)] (fun r_ w_ => (r_ = n ∧ w_ = [(m, zo 3 [.ref ma, .ref ml, .ref ms, .int (nI h), .int an, .ref mp, .int (nI em), .ref mt]), (ms, zi E 8 st)])) 0 0 := by
  refine zMi.of (cc := cX3_jump) (nL := 4) (ret := (some .int)) (by decide) rfl (Nat.le_of_ble_eq_true rfl) ?_
  intro p_ e_ s_ m_ args_ below_ meth_ c_ A_ C0 hin0
  have C0 : zC E p_ s_ m_ args_ meth_ c_ cX3_jump 4 (some .int) RX3 (zTs yX3_jump cX3_jump 4 (some .int)) A_ := C0
  refine z_eqL (L1 := [(0, .ref m), (1, .int (nI 14)), (2, .int n), (3, .int (nI at_))]) rfl ?_
  refine z_iload_n 1 C0 1 dX3_jump_0 rfl rfl rfl ?_
  refine z_bipush 3 C0 (v := (nI 15)) dX3_jump_1 rfl rfl ?_
  refine z_icmp_neN 6 17 C0 (by decide) (by decide) dX3_jump_3 rfl (by decide) (fun k3 => ?_) (fun k3 => absurd k3 (by decide))
  refine z_iload_n 18 C0 2 dX3_jump_17 rfl rfl rfl ?_
  exact z_iret C0 rfl dX3_jump_18 ⟨rfl, rfl⟩ (by decide) (by decide)

set_option maxHeartbeats 4000000 in
set_option maxRecDepth 100000 in
theorem jump15 (l_ : Launch) (E : zE) (m : Nat) (ma : Nat) (ml : Nat) (ms : Nat) (mp : Nat) (mt : Nat) (h : Nat) (an : Int32) (em : Nat) (st : Nat → Int32) (n : Int32) (at_ : Nat) (hh : h ≤ 8) : zMi l_ E yX3_jump (zTs yX3_jump cX3_jump 4 (some .int)) ({ frames := 1, cells := 0, slots := 0, locals := 20 } : Room) [.ref m, .int (nI 15), .int n, .int (nI at_)] [(m, zo 3 [.ref ma, .ref ml, .ref ms, .int (nI h), .int an, .ref mp, .int (nI em), .ref mt]), (ms, zi E 8 st)] (fun r_ w_ => (r_ = (if popV h st = 0 then n else nI (at_ + 1)) ∧ w_ = [(m, zo 3 [.ref ma, .ref ml, .ref ms, .int (nI (h - 1)), .int an, .ref mp, .int (nI em), .ref mt]), (ms, zi E 8 st)])) 0 0 := by
  refine zMi.of (cc := cX3_jump) (nL := 4) (ret := (some .int)) (by decide) rfl (Nat.le_of_ble_eq_true rfl) ?_
  intro p_ e_ s_ m_ args_ below_ meth_ c_ A_ C0 hin0
  have C0 : zC E p_ s_ m_ args_ meth_ c_ cX3_jump 4 (some .int) RX3 (zTs yX3_jump cX3_jump 4 (some .int)) A_ := C0
  refine z_eqL (L1 := [(0, .ref m), (1, .int (nI 15)), (2, .int n), (3, .int (nI at_))]) rfl ?_
  refine z_iload_n 1 C0 1 dX3_jump_0 rfl rfl rfl ?_
  refine z_bipush 3 C0 (v := (nI 15)) dX3_jump_1 rfl rfl ?_
  refine z_icmp_neN 6 17 C0 (by decide) (by decide) dX3_jump_3 rfl (by decide) (fun k3 => absurd k3 (by decide)) (fun k3 => ?_)
  refine z_aload_n 7 C0 0 dX3_jump_6 rfl rfl rfl ?_
  refine z_callVi 10 C0 [0, 1] [] [] 0 0 (As := []) (T := TX3) (N := 8) (C := RX3) (ci := 3) (n := 0) 0 (pop l_ E m ma ml ms mp mt h an em st (by omega)) (zGIV (fun _ => zTs_in) wk_352 wk_349 wk_350 wk_351 wk_18) rfl ⟨rfl, by decide, by decide, by decide +kernel⟩ rfl rfl rfl rfl (by decide) rfl rfl (Nat.le_of_ble_eq_true rfl) ⟨by decide, by decide⟩ rfl rfl ⟨by decide, by decide⟩ ⟨by decide, by decide⟩ dX3_jump_7 rfl (fun r7 w7 hB7 => ?_)
  obtain ⟨rfl, rfl⟩ := hB7
  refine z_perm [0, 1] [(m, zo 3 [.ref ma, .ref ml, .ref ms, .int (nI (h - 1)), .int an, .ref mp, .int (nI em), .ref mt]), (ms, zi E 8 st)] (by decide) rfl ?_
  refine z_if_eq 13 17 C0 dX3_jump_10 rfl (by decide) (fun k10 => ?_) (fun k10 => ?_)
  · skip
    refine z_iload_n 18 C0 2 dX3_jump_17 rfl rfl rfl ?_
    exact z_iret C0 rfl dX3_jump_18 ⟨(by first | rw [if_neg k10] | rw [if_pos k10]), rfl⟩ (by decide) (by decide)
  · skip
    refine z_iload_n 14 C0 3 dX3_jump_13 rfl rfl rfl ?_
    refine z_iconst 15 C0 (v := (nI 1)) dX3_jump_14 rfl rfl ?_
    refine z_iadd 16 C0 (v := (nI (at_ + 1))) dX3_jump_15 rfl (nI_add _ _) ?_
    exact z_iret C0 rfl dX3_jump_16 ⟨(by first | rw [if_neg k10] | rw [if_pos k10]), rfl⟩ (by decide) (by decide)

set_option maxHeartbeats 4000000 in
set_option maxRecDepth 100000 in
theorem combine (l_ : Launch) (E : zE) (m : Nat) (ma : Nat) (ml : Nat) (ms : Nat) (mp : Nat) (mt : Nat) (h : Nat) (an : Int32) (em : Nat) (st : Nat → Int32) (o : Nat) (h7 : 7 ≤ o) (h13 : o ≤ 13) (hh : 2 ≤ h) (hh8 : h ≤ 8) : zMv l_ E yX3_combine (zTs yX3_combine cX3_combine 4 none) ({ frames := 1, cells := 0, slots := 0, locals := 22 } : Room) [.ref m, .int (nI o)] [(m, zo 3 [.ref ma, .ref ml, .ref ms, .int (nI h), .int an, .ref mp, .int (nI em), .ref mt]), (ms, zi E 8 st)] (fun w_ => (w_ = [(m, zo 3 [.ref ma, .ref ml, .ref ms, .int (nI (h - 1)), .int an, .ref mp, .int (nI em), .ref mt]), (ms, zi E 8 (upd st (h - 2) (cmb o (st (h - 2)) (st (h - 1)))))])) 0 0 := by
  refine zMv.of (cc := cX3_combine) (nL := 4) (ret := none) (by decide) rfl (Nat.le_of_ble_eq_true rfl) ?_
  intro p_ e_ s_ m_ args_ below_ meth_ c_ A_ C0 hin0
  have C0 : zC E p_ s_ m_ args_ meth_ c_ cX3_combine 4 none RX3 (zTs yX3_combine cX3_combine 4 none) A_ := C0
  refine z_eqL (L1 := [(0, .ref m), (1, .int (nI o))]) rfl ?_
  refine z_aload_n 1 C0 0 dX3_combine_0 rfl rfl rfl ?_
  refine z_callVi 4 C0 [0, 1] [] [] 0 0 (As := []) (T := TX3) (N := 8) (C := RX3) (ci := 3) (n := 0) 0 (pop l_ E m ma ml ms mp mt h an em st (by omega)) (zGIV (fun _ => zTs_in) wk_352 wk_349 wk_350 wk_351 wk_18) rfl ⟨rfl, by decide, by decide, by decide +kernel⟩ rfl rfl rfl rfl (by decide) rfl rfl (Nat.le_of_ble_eq_true rfl) ⟨by decide, by decide⟩ rfl rfl ⟨by decide, by decide⟩ ⟨by decide, by decide⟩ dX3_combine_1 rfl (fun r1 w1 hB1 => ?_)
  obtain ⟨rfl, rfl⟩ := hB1
  refine z_perm [0, 1] [(m, zo 3 [.ref ma, .ref ml, .ref ms, .int (nI (h - 1)), .int an, .ref mp, .int (nI em), .ref mt]), (ms, zi E 8 st)] (by decide) rfl ?_
  refine z_istore_n 5 C0 [1, 2, 0] [(0, .ref m), (1, .int (nI o)), (2, .int (popV h st))] dX3_combine_4 rfl rfl (by decide) rfl ?_
  refine z_aload_n 6 C0 0 dX3_combine_5 rfl rfl rfl ?_
  refine z_callVi 9 C0 [0, 1] [] [] 0 0 (As := []) (T := TX3) (N := 8) (C := RX3) (ci := 3) (n := 0) 0 (pop l_ E m ma ml ms mp mt (h - 1) an em st (by omega)) (zGIV (fun _ => zTs_in) wk_352 wk_349 wk_350 wk_351 wk_18) rfl ⟨rfl, by decide, by decide, by decide +kernel⟩ rfl rfl rfl rfl (by decide) rfl rfl (Nat.le_of_ble_eq_true rfl) ⟨by decide, by decide⟩ rfl rfl ⟨by decide, by decide⟩ ⟨by decide, by decide⟩ dX3_combine_6 rfl (fun r6 w6 hB6 => ?_)
  obtain ⟨rfl, rfl⟩ := hB6
  refine z_perm [0, 1] [(m, zo 3 [.ref ma, .ref ml, .ref ms, .int (nI ((h - 1) - 1)), .int an, .ref mp, .int (nI em), .ref mt]), (ms, zi E 8 st)] (by decide) rfl ?_
  refine z_istore_n 10 C0 [1, 2, 3, 0] [(0, .ref m), (1, .int (nI o)), (2, .int (popV h st)), (3, .int (popV (h - 1) st))] dX3_combine_9 rfl rfl (by decide) rfl ?_
  refine z_aload_n 11 C0 0 dX3_combine_10 rfl rfl rfl ?_
  refine z_iload_n 12 C0 1 dX3_combine_11 rfl rfl rfl ?_
  refine z_iload_n 13 C0 3 dX3_combine_12 rfl rfl rfl ?_
  refine z_iload_n 14 C0 2 dX3_combine_13 rfl rfl rfl ?_
  refine z_callSi 17 C0 [] [0, 1] [(m, zo 3 [.ref ma, .ref ml, .ref ms, .int (nI ((h - 1) - 1)), .int an, .ref mp, .int (nI em), .ref mt]), (ms, zi E 8 st)] 0 0 (As := [.int (nI o), .int (popV (h - 1) st), .int (popV h st)]) (n := 3) (combined l_ E o (popV (h - 1) st) (popV h st) (by omega) (by omega)) (zGIS (fun _ => zTs_in) wk_367 wk_365 wk_366 wk_18) rfl ⟨by decide, by decide, by decide +kernel⟩ rfl rfl (by decide) rfl rfl (Nat.le_of_ble_eq_true rfl) ⟨by decide, by decide⟩ rfl rfl ⟨by decide, by decide⟩ ⟨by decide, by decide⟩ dX3_combine_14 rfl (fun r14 w14 hB14 => ?_)
  obtain ⟨rfl, rfl⟩ := hB14
  refine z_perm [0, 1] [(m, zo 3 [.ref ma, .ref ml, .ref ms, .int (nI ((h - 1) - 1)), .int an, .ref mp, .int (nI em), .ref mt]), (ms, zi E 8 st)] (by decide) rfl ?_
  refine z_callVv 20 C0 [0, 1] [] [] 0 0 (As := [.int (cmb o (popV (h - 1) st) (popV h st))]) (T := TX3) (N := 8) (C := RX3) (ci := 3) (n := 1) 0 (push l_ E m ma ml ms mp mt ((h - 1) - 1) an em st (cmb o (popV (h - 1) st) (popV h st)) (by omega)) (zGIV (fun _ => zTs_in) wk_371 wk_368 wk_369 wk_370 wk_18) rfl ⟨rfl, by decide, by decide, by decide +kernel⟩ rfl rfl rfl rfl (by decide) rfl rfl (Nat.le_of_ble_eq_true rfl) ⟨by decide, by decide⟩ rfl rfl ⟨by decide, by decide⟩ ⟨by decide, by decide⟩ dX3_combine_17 rfl (fun w17 hB17 => ?_)
  obtain rfl := hB17
  refine z_perm [0, 1] [(m, zo 3 [.ref ma, .ref ml, .ref ms, .int (nI (((h - 1) - 1) + 1)), .int an, .ref mp, .int (nI em), .ref mt]), (ms, zi E 8 (upd st ((h - 1) - 1) (cmb o (popV (h - 1) st) (popV h st))))] (by decide) rfl ?_
  exact z_vret C0 rfl dX3_combine_20 (by rw [popV_s (by omega), popV_s (by omega), show h - 1 - 1 = h - 2 by omega, show h - 2 + 1 = h - 1 by omega]) (by decide) (by decide)

set_option maxHeartbeats 4000000 in
set_option maxRecDepth 100000 in
theorem emit_ (l_ : Launch) (E : zE) (m : Nat) (ma : Nat) (ml : Nat) (ms : Nat) (mp : Nat) (mt : Nat) (h : Nat) (an : Int32) (em : Nat) (st : Nat → Int32) (mpk : Nat) (mpv : Nat) (f : Nat → Int32) (g : Nat → Int32) (n : Nat) (hh : 2 ≤ h) (hh8 : h ≤ 8) (hn : n ≤ 600) (hem : em < 2147483647) : zMv l_ E yX3_emit (zTs yX3_emit cX3_emit 3 none) ({ frames := 1, cells := 0, slots := 0, locals := 22 } : Room) [.ref m] [(m, zo 3 [.ref ma, .ref ml, .ref ms, .int (nI h), .int an, .ref mp, .int (nI em), .ref mt]), (ms, zi E 8 st), (mp, zo 4 [.ref mpk, .ref mpv, .int (nI n)]), (mpk, zi E 600 f), (mpv, zi E 600 g)] (fun w_ => (w_ = [(m, zo 3 [.ref ma, .ref ml, .ref ms, .int (nI (h - 2)), .int an, .ref mp, .int (nI (em + 1)), .ref mt]), (ms, zi E 8 st), (mp, zo 4 [.ref mpk, .ref mpv, .int (nI (capN 600 n))]), (mpk, zi E 600 (capU 600 n f (st (h - 2)))), (mpv, zi E 600 (capU 600 n g (st (h - 1))))])) 0 0 := by
  refine zMv.of (cc := cX3_emit) (nL := 3) (ret := none) (by decide) rfl (Nat.le_of_ble_eq_true rfl) ?_
  intro p_ e_ s_ m_ args_ below_ meth_ c_ A_ C0 hin0
  have C0 : zC E p_ s_ m_ args_ meth_ c_ cX3_emit 3 none RX3 (zTs yX3_emit cX3_emit 3 none) A_ := C0
  refine z_eqL (L1 := [(0, .ref m)]) rfl ?_
  refine z_aload_n 1 C0 0 dX3_emit_0 rfl rfl rfl ?_
  refine z_callVi 4 C0 [0, 1] [2, 3, 4] [(mp, zo 4 [.ref mpk, .ref mpv, .int (nI n)]), (mpk, zi E 600 f), (mpv, zi E 600 g)] 0 0 (As := []) (T := TX3) (N := 8) (C := RX3) (ci := 3) (n := 0) 0 (pop l_ E m ma ml ms mp mt h an em st (by omega)) (zGIV (fun _ => zTs_in) wk_352 wk_349 wk_350 wk_351 wk_18) rfl ⟨rfl, by decide, by decide, by decide +kernel⟩ rfl rfl rfl rfl (by decide) rfl rfl (Nat.le_of_ble_eq_true rfl) ⟨by decide, by decide⟩ rfl rfl ⟨by decide, by decide⟩ ⟨by decide, by decide⟩ dX3_emit_1 rfl (fun r1 w1 hB1 => ?_)
  obtain ⟨rfl, rfl⟩ := hB1
  refine z_perm [3, 4, 0, 1, 2] [(m, zo 3 [.ref ma, .ref ml, .ref ms, .int (nI (h - 1)), .int an, .ref mp, .int (nI em), .ref mt]), (ms, zi E 8 st), (mp, zo 4 [.ref mpk, .ref mpv, .int (nI n)]), (mpk, zi E 600 f), (mpv, zi E 600 g)] (by decide) rfl ?_
  refine z_istore_n 5 C0 [1, 0] [(0, .ref m), (1, .int (popV h st))] dX3_emit_4 rfl rfl (by decide) rfl ?_
  refine z_aload_n 6 C0 0 dX3_emit_5 rfl rfl rfl ?_
  refine z_callVi 9 C0 [0, 1] [2, 3, 4] [(mp, zo 4 [.ref mpk, .ref mpv, .int (nI n)]), (mpk, zi E 600 f), (mpv, zi E 600 g)] 0 0 (As := []) (T := TX3) (N := 8) (C := RX3) (ci := 3) (n := 0) 0 (pop l_ E m ma ml ms mp mt (h - 1) an em st (by omega)) (zGIV (fun _ => zTs_in) wk_352 wk_349 wk_350 wk_351 wk_18) rfl ⟨rfl, by decide, by decide, by decide +kernel⟩ rfl rfl rfl rfl (by decide) rfl rfl (Nat.le_of_ble_eq_true rfl) ⟨by decide, by decide⟩ rfl rfl ⟨by decide, by decide⟩ ⟨by decide, by decide⟩ dX3_emit_6 rfl (fun r6 w6 hB6 => ?_)
  obtain ⟨rfl, rfl⟩ := hB6
  refine z_perm [3, 4, 0, 1, 2] [(m, zo 3 [.ref ma, .ref ml, .ref ms, .int (nI ((h - 1) - 1)), .int an, .ref mp, .int (nI em), .ref mt]), (ms, zi E 8 st), (mp, zo 4 [.ref mpk, .ref mpv, .int (nI n)]), (mpk, zi E 600 f), (mpv, zi E 600 g)] (by decide) rfl ?_
  refine z_istore_n 10 C0 [1, 2, 0] [(0, .ref m), (1, .int (popV h st)), (2, .int (popV (h - 1) st))] dX3_emit_9 rfl rfl (by decide) rfl ?_
  refine z_aload_n 11 C0 0 dX3_emit_10 rfl rfl rfl ?_
  refine z_dup 12 C0 dX3_emit_11 rfl rfl ?_
  refine z_get 15 C0 0 6 wz_3 rfl (by decide) (zTs_in wk_127) dX3_emit_12 rfl rfl rfl ?_
  refine z_iconst 16 C0 (v := (nI 1)) dX3_emit_15 rfl rfl ?_
  refine z_iadd 17 C0 (v := (nI (em + 1))) dX3_emit_16 rfl (nI_add _ _) ?_
  refine z_put 20 C0 0 6 [(m, zo 3 [.ref ma, .ref ml, .ref ms, .int (nI ((h - 1) - 1)), .int an, .ref mp, .int (nI (em + 1)), .ref mt]), (ms, zi E 8 st), (mp, zo 4 [.ref mpk, .ref mpv, .int (nI n)]), (mpk, zi E 600 f), (mpv, zi E 600 g)] wz_3 rfl (by decide) (zTs_in wk_127) tyX3 tyX3_ok nmX3 rfl rfl rfl rfl dX3_emit_17 rfl rfl (Nat.le_of_ble_eq_true rfl) rfl ?_
  refine z_aload_n 21 C0 0 dX3_emit_20 rfl rfl rfl ?_
  refine z_get 24 C0 0 5 wz_3 rfl (by decide) (zTs_in wk_125) dX3_emit_21 rfl rfl rfl ?_
  refine z_iload_n 25 C0 2 dX3_emit_24 rfl rfl rfl ?_
  refine z_iload_n 26 C0 1 dX3_emit_25 rfl rfl rfl ?_
  refine z_callVi 29 C0 [2, 3, 4] [0, 1] [(m, zo 3 [.ref ma, .ref ml, .ref ms, .int (nI ((h - 1) - 1)), .int an, .ref mp, .int (nI (em + 1)), .ref mt]), (ms, zi E 8 st)] 0 0 (As := [.int (popV (h - 1) st), .int (popV h st)]) (T := TX4) (N := 3) (C := RX4) (ci := 4) (n := 2) 0 (rappend l_ E mp mpk mpv f g n 600 (popV (h - 1) st) (popV h st) (by omega) (by omega)) (zGIV (fun _ => zTs_in) wk_219 wk_384 wk_217 wk_218 wk_14) rfl ⟨rfl, by decide, by decide, by decide +kernel⟩ rfl rfl rfl rfl (by decide) rfl rfl (Nat.le_of_ble_eq_true rfl) ⟨by decide, by decide⟩ rfl rfl ⟨by decide, by decide⟩ ⟨by decide, by decide⟩ dX3_emit_26 rfl (fun r26 w26 hB26 => ?_)
  obtain ⟨rfl, rfl⟩ := hB26
  refine z_perm [0, 1, 2, 3, 4] [(m, zo 3 [.ref ma, .ref ml, .ref ms, .int (nI ((h - 1) - 1)), .int an, .ref mp, .int (nI (em + 1)), .ref mt]), (ms, zi E 8 st), (mp, zo 4 [.ref mpk, .ref mpv, .int (nI (capN 600 n))]), (mpk, zi E 600 (capU 600 n f (popV (h - 1) st))), (mpv, zi E 600 (capU 600 n g (popV h st)))] (by decide) rfl ?_
  refine z_pop 30 C0 dX3_emit_29 rfl rfl ?_
  exact z_vret C0 rfl dX3_emit_30 (by rw [popV_s (by omega), popV_s (by omega), show h - 1 - 1 = h - 2 by omega]) (by decide) (by decide)

set_option maxHeartbeats 4000000 in
set_option maxRecDepth 100000 in
theorem move0 (l_ : Launch) (E : zE) (m : Nat) (ma : Nat) (ml : Nat) (ms : Nat) (mp : Nat) (mt : Nat) (h : Nat) (an : Int32) (em : Nat) (ar : Nat → Int32) (lo : Nat → Int32) (st : Nat → Int32) (mpk : Nat) (mpv : Nat) (f : Nat → Int32) (g : Nat → Int32) (n : Nat) (nv : Int32) (hh8 : h ≤ 8) (hh : h < 8) : zMv l_ E yX3_move (zTs yX3_move cX3_move 6 none) ({ frames := 2, cells := 0, slots := 0, locals := 44 } : Room) [.ref m, .int (nI 0), .int nv] [(m, zo 3 [.ref ma, .ref ml, .ref ms, .int (nI h), .int an, .ref mp, .int (nI em), .ref mt]), (ma, zi E 3 ar), (ml, zi E 4 lo), (ms, zi E 8 st), (mp, zo 4 [.ref mpk, .ref mpv, .int (nI n)]), (mpk, zi E 600 f), (mpv, zi E 600 g)] (fun w_ => (w_ = [(m, zo 3 [.ref ma, .ref ml, .ref ms, .int (nI (h + 1)), .int an, .ref mp, .int (nI em), .ref mt]), (ma, zi E 3 ar), (ml, zi E 4 lo), (ms, zi E 8 (upd st h nv)), (mp, zo 4 [.ref mpk, .ref mpv, .int (nI n)]), (mpk, zi E 600 f), (mpv, zi E 600 g)])) 0 0 := by
  refine zMv.of (cc := cX3_move) (nL := 6) (ret := none) (by decide) rfl (Nat.le_of_ble_eq_true rfl) ?_
  intro p_ e_ s_ m_ args_ below_ meth_ c_ A_ C0 hin0
  have C0 : zC E p_ s_ m_ args_ meth_ c_ cX3_move 6 none RX3 (zTs yX3_move cX3_move 6 none) A_ := C0
  refine z_eqL (L1 := [(0, .ref m), (1, .int (nI 0)), (2, .int nv)]) rfl ?_
  refine z_iload_n 1 C0 1 dX3_move_0 rfl rfl rfl ?_
  refine z_switch 44 C0 dX3_move_1 (by decide) (by decide) rfl (by decide) ?_
  refine z_aload_n 45 C0 0 dX3_move_44 rfl rfl rfl ?_
  refine z_iload_n 46 C0 2 dX3_move_45 rfl rfl rfl ?_
  refine z_callVv 49 C0 [0, 3] [1, 2, 4, 5, 6] [(ma, zi E 3 ar), (ml, zi E 4 lo), (mp, zo 4 [.ref mpk, .ref mpv, .int (nI n)]), (mpk, zi E 600 f), (mpv, zi E 600 g)] 0 0 (As := [.int nv]) (T := TX3) (N := 8) (C := RX3) (ci := 3) (n := 1) 0 (push l_ E m ma ml ms mp mt h an em st nv (by omega)) (zGIV (fun _ => zTs_in) wk_371 wk_368 wk_369 wk_370 wk_18) rfl ⟨rfl, by decide, by decide, by decide +kernel⟩ rfl rfl rfl rfl (by decide) rfl rfl (Nat.le_of_ble_eq_true rfl) ⟨by decide, by decide⟩ rfl rfl ⟨by decide, by decide⟩ ⟨by decide, by decide⟩ dX3_move_46 rfl (fun w46 hB46 => ?_)
  obtain rfl := hB46
  refine z_perm [5, 0, 1, 6, 2, 3, 4] [(m, zo 3 [.ref ma, .ref ml, .ref ms, .int (nI (h + 1)), .int an, .ref mp, .int (nI em), .ref mt]), (ma, zi E 3 ar), (ml, zi E 4 lo), (ms, zi E 8 (upd st h nv)), (mp, zo 4 [.ref mpk, .ref mpv, .int (nI n)]), (mpk, zi E 600 f), (mpv, zi E 600 g)] (by decide) rfl ?_
  refine z_goto 173 C0 dX3_move_49 (by decide) ?_
  exact z_vret C0 rfl dX3_move_173 rfl (by decide) (by decide)

set_option maxHeartbeats 4000000 in
set_option maxRecDepth 100000 in
theorem move1 (l_ : Launch) (E : zE) (m : Nat) (ma : Nat) (ml : Nat) (ms : Nat) (mp : Nat) (mt : Nat) (h : Nat) (an : Int32) (em : Nat) (ar : Nat → Int32) (lo : Nat → Int32) (st : Nat → Int32) (mpk : Nat) (mpv : Nat) (f : Nat → Int32) (g : Nat → Int32) (n : Nat) (j : Nat) (hh8 : h ≤ 8) (hh : h < 8) (hj : j < 3) : zMv l_ E yX3_move (zTs yX3_move cX3_move 6 none) ({ frames := 2, cells := 0, slots := 0, locals := 44 } : Room) [.ref m, .int (nI 1), .int (nI j)] [(m, zo 3 [.ref ma, .ref ml, .ref ms, .int (nI h), .int an, .ref mp, .int (nI em), .ref mt]), (ma, zi E 3 ar), (ml, zi E 4 lo), (ms, zi E 8 st), (mp, zo 4 [.ref mpk, .ref mpv, .int (nI n)]), (mpk, zi E 600 f), (mpv, zi E 600 g)] (fun w_ => (w_ = [(m, zo 3 [.ref ma, .ref ml, .ref ms, .int (nI (h + 1)), .int an, .ref mp, .int (nI em), .ref mt]), (ma, zi E 3 ar), (ml, zi E 4 lo), (ms, zi E 8 (upd st h (ar j))), (mp, zo 4 [.ref mpk, .ref mpv, .int (nI n)]), (mpk, zi E 600 f), (mpv, zi E 600 g)])) 0 0 := by
  refine zMv.of (cc := cX3_move) (nL := 6) (ret := none) (by decide) rfl (Nat.le_of_ble_eq_true rfl) ?_
  intro p_ e_ s_ m_ args_ below_ meth_ c_ A_ C0 hin0
  have C0 : zC E p_ s_ m_ args_ meth_ c_ cX3_move 6 none RX3 (zTs yX3_move cX3_move 6 none) A_ := C0
  refine z_eqL (L1 := [(0, .ref m), (1, .int (nI 1)), (2, .int (nI j))]) rfl ?_
  refine z_iload_n 1 C0 1 dX3_move_0 rfl rfl rfl ?_
  refine z_switch 52 C0 dX3_move_1 (by decide) (by decide) rfl (by decide) ?_
  refine z_aload_n 53 C0 0 dX3_move_52 rfl rfl rfl ?_
  refine z_iload_n 54 C0 2 dX3_move_53 rfl rfl rfl ?_
  refine z_if_ltN 57 C0 71 (by omega) dX3_move_54 rfl (by decide) ?_
  refine z_iload_n 58 C0 2 dX3_move_57 rfl rfl rfl ?_
  refine z_iconst 59 C0 (v := (nI 3)) dX3_move_58 rfl rfl ?_
  refine z_icmp_geN 62 71 C0 (by omega) (by decide) dX3_move_59 rfl (by decide) (fun k59 => absurd k59 (by omega)) (fun k59 => ?_)
  refine z_aload_n 63 C0 0 dX3_move_62 rfl rfl rfl ?_
  refine z_get 66 C0 0 0 wz_3 rfl (by decide) (zTs_in wk_119) dX3_move_63 rfl rfl rfl ?_
  refine z_iload_n 67 C0 2 dX3_move_66 rfl rfl rfl ?_
  refine z_ialdN 68 C0 1 (v := (ar j)) dX3_move_67 rfl rfl (by omega) (by decide) rfl ?_
  refine z_goto 72 C0 dX3_move_68 (by decide) ?_
  refine z_callVv 75 C0 [0, 3] [1, 2, 4, 5, 6] [(ma, zi E 3 ar), (ml, zi E 4 lo), (mp, zo 4 [.ref mpk, .ref mpv, .int (nI n)]), (mpk, zi E 600 f), (mpv, zi E 600 g)] 0 0 (As := [.int (ar j)]) (T := TX3) (N := 8) (C := RX3) (ci := 3) (n := 1) 0 (push l_ E m ma ml ms mp mt h an em st (ar j) (by omega)) (zGIV (fun _ => zTs_in) wk_371 wk_368 wk_369 wk_370 wk_18) rfl ⟨rfl, by decide, by decide, by decide +kernel⟩ rfl rfl rfl rfl (by decide) rfl rfl (Nat.le_of_ble_eq_true rfl) ⟨by decide, by decide⟩ rfl rfl ⟨by decide, by decide⟩ ⟨by decide, by decide⟩ dX3_move_72 rfl (fun w72 hB72 => ?_)
  obtain rfl := hB72
  refine z_perm [5, 0, 1, 6, 2, 3, 4] [(m, zo 3 [.ref ma, .ref ml, .ref ms, .int (nI (h + 1)), .int an, .ref mp, .int (nI em), .ref mt]), (ma, zi E 3 ar), (ml, zi E 4 lo), (ms, zi E 8 (upd st h (ar j))), (mp, zo 4 [.ref mpk, .ref mpv, .int (nI n)]), (mpk, zi E 600 f), (mpv, zi E 600 g)] (by decide) rfl ?_
  refine z_goto 173 C0 dX3_move_75 (by decide) ?_
  exact z_vret C0 rfl dX3_move_173 rfl (by decide) (by decide)

set_option maxHeartbeats 4000000 in
set_option maxRecDepth 100000 in
theorem move2 (l_ : Launch) (E : zE) (m : Nat) (ma : Nat) (ml : Nat) (ms : Nat) (mp : Nat) (mt : Nat) (h : Nat) (an : Int32) (em : Nat) (ar : Nat → Int32) (lo : Nat → Int32) (st : Nat → Int32) (mpk : Nat) (mpv : Nat) (f : Nat → Int32) (g : Nat → Int32) (n : Nat) (j : Nat) (hh8 : h ≤ 8) (hh : h < 8) (hj : j < 4) : zMv l_ E yX3_move (zTs yX3_move cX3_move 6 none) ({ frames := 2, cells := 0, slots := 0, locals := 44 } : Room) [.ref m, .int (nI 2), .int (nI j)] [(m, zo 3 [.ref ma, .ref ml, .ref ms, .int (nI h), .int an, .ref mp, .int (nI em), .ref mt]), (ma, zi E 3 ar), (ml, zi E 4 lo), (ms, zi E 8 st), (mp, zo 4 [.ref mpk, .ref mpv, .int (nI n)]), (mpk, zi E 600 f), (mpv, zi E 600 g)] (fun w_ => (w_ = [(m, zo 3 [.ref ma, .ref ml, .ref ms, .int (nI (h + 1)), .int an, .ref mp, .int (nI em), .ref mt]), (ma, zi E 3 ar), (ml, zi E 4 lo), (ms, zi E 8 (upd st h (lo j))), (mp, zo 4 [.ref mpk, .ref mpv, .int (nI n)]), (mpk, zi E 600 f), (mpv, zi E 600 g)])) 0 0 := by
  refine zMv.of (cc := cX3_move) (nL := 6) (ret := none) (by decide) rfl (Nat.le_of_ble_eq_true rfl) ?_
  intro p_ e_ s_ m_ args_ below_ meth_ c_ A_ C0 hin0
  have C0 : zC E p_ s_ m_ args_ meth_ c_ cX3_move 6 none RX3 (zTs yX3_move cX3_move 6 none) A_ := C0
  refine z_eqL (L1 := [(0, .ref m), (1, .int (nI 2)), (2, .int (nI j))]) rfl ?_
  refine z_iload_n 1 C0 1 dX3_move_0 rfl rfl rfl ?_
  refine z_switch 78 C0 dX3_move_1 (by decide) (by decide) rfl (by decide) ?_
  refine z_aload_n 79 C0 0 dX3_move_78 rfl rfl rfl ?_
  refine z_iload_n 80 C0 2 dX3_move_79 rfl rfl rfl ?_
  refine z_if_ltN 83 C0 97 (by omega) dX3_move_80 rfl (by decide) ?_
  refine z_iload_n 84 C0 2 dX3_move_83 rfl rfl rfl ?_
  refine z_iconst 85 C0 (v := (nI 4)) dX3_move_84 rfl rfl ?_
  refine z_icmp_geN 88 97 C0 (by omega) (by decide) dX3_move_85 rfl (by decide) (fun k85 => absurd k85 (by omega)) (fun k85 => ?_)
  refine z_aload_n 89 C0 0 dX3_move_88 rfl rfl rfl ?_
  refine z_get 92 C0 0 1 wz_3 rfl (by decide) (zTs_in wk_120) dX3_move_89 rfl rfl rfl ?_
  refine z_iload_n 93 C0 2 dX3_move_92 rfl rfl rfl ?_
  refine z_ialdN 94 C0 2 (v := (lo j)) dX3_move_93 rfl rfl (by omega) (by decide) rfl ?_
  refine z_goto 98 C0 dX3_move_94 (by decide) ?_
  refine z_callVv 101 C0 [0, 3] [1, 2, 4, 5, 6] [(ma, zi E 3 ar), (ml, zi E 4 lo), (mp, zo 4 [.ref mpk, .ref mpv, .int (nI n)]), (mpk, zi E 600 f), (mpv, zi E 600 g)] 0 0 (As := [.int (lo j)]) (T := TX3) (N := 8) (C := RX3) (ci := 3) (n := 1) 0 (push l_ E m ma ml ms mp mt h an em st (lo j) (by omega)) (zGIV (fun _ => zTs_in) wk_371 wk_368 wk_369 wk_370 wk_18) rfl ⟨rfl, by decide, by decide, by decide +kernel⟩ rfl rfl rfl rfl (by decide) rfl rfl (Nat.le_of_ble_eq_true rfl) ⟨by decide, by decide⟩ rfl rfl ⟨by decide, by decide⟩ ⟨by decide, by decide⟩ dX3_move_98 rfl (fun w98 hB98 => ?_)
  obtain rfl := hB98
  refine z_perm [5, 0, 1, 6, 2, 3, 4] [(m, zo 3 [.ref ma, .ref ml, .ref ms, .int (nI (h + 1)), .int an, .ref mp, .int (nI em), .ref mt]), (ma, zi E 3 ar), (ml, zi E 4 lo), (ms, zi E 8 (upd st h (lo j))), (mp, zo 4 [.ref mpk, .ref mpv, .int (nI n)]), (mpk, zi E 600 f), (mpv, zi E 600 g)] (by decide) rfl ?_
  refine z_goto 173 C0 dX3_move_101 (by decide) ?_
  exact z_vret C0 rfl dX3_move_173 rfl (by decide) (by decide)

set_option maxHeartbeats 4000000 in
set_option maxRecDepth 100000 in
theorem move3 (l_ : Launch) (E : zE) (m : Nat) (ma : Nat) (ml : Nat) (ms : Nat) (mp : Nat) (mt : Nat) (h : Nat) (an : Int32) (em : Nat) (ar : Nat → Int32) (lo : Nat → Int32) (st : Nat → Int32) (mpk : Nat) (mpv : Nat) (f : Nat → Int32) (g : Nat → Int32) (n : Nat) (j : Nat) (hh8 : h ≤ 8) (hh : 1 ≤ h) (hj : j < 4) : zMv l_ E yX3_move (zTs yX3_move cX3_move 6 none) ({ frames := 2, cells := 0, slots := 0, locals := 44 } : Room) [.ref m, .int (nI 3), .int (nI j)] [(m, zo 3 [.ref ma, .ref ml, .ref ms, .int (nI h), .int an, .ref mp, .int (nI em), .ref mt]), (ma, zi E 3 ar), (ml, zi E 4 lo), (ms, zi E 8 st), (mp, zo 4 [.ref mpk, .ref mpv, .int (nI n)]), (mpk, zi E 600 f), (mpv, zi E 600 g)] (fun w_ => (w_ = [(m, zo 3 [.ref ma, .ref ml, .ref ms, .int (nI (h - 1)), .int an, .ref mp, .int (nI em), .ref mt]), (ma, zi E 3 ar), (ml, zi E 4 (upd lo j (st (h - 1)))), (ms, zi E 8 st), (mp, zo 4 [.ref mpk, .ref mpv, .int (nI n)]), (mpk, zi E 600 f), (mpv, zi E 600 g)])) 0 0 := by
  refine zMv.of (cc := cX3_move) (nL := 6) (ret := none) (by decide) rfl (Nat.le_of_ble_eq_true rfl) ?_
  intro p_ e_ s_ m_ args_ below_ meth_ c_ A_ C0 hin0
  have C0 : zC E p_ s_ m_ args_ meth_ c_ cX3_move 6 none RX3 (zTs yX3_move cX3_move 6 none) A_ := C0
  refine z_eqL (L1 := [(0, .ref m), (1, .int (nI 3)), (2, .int (nI j))]) rfl ?_
  refine z_iload_n 1 C0 1 dX3_move_0 rfl rfl rfl ?_
  refine z_switch 104 C0 dX3_move_1 (by decide) (by decide) rfl (by decide) ?_
  refine z_aload_n 105 C0 0 dX3_move_104 rfl rfl rfl ?_
  refine z_iload_n 106 C0 2 dX3_move_105 rfl rfl rfl ?_
  refine z_aload_n 107 C0 0 dX3_move_106 rfl rfl rfl ?_
  refine z_callVi 110 C0 [0, 3] [1, 2, 4, 5, 6] [(ma, zi E 3 ar), (ml, zi E 4 lo), (mp, zo 4 [.ref mpk, .ref mpv, .int (nI n)]), (mpk, zi E 600 f), (mpv, zi E 600 g)] 0 0 (As := []) (T := TX3) (N := 8) (C := RX3) (ci := 3) (n := 0) 0 (pop l_ E m ma ml ms mp mt h an em st (by omega)) (zGIV (fun _ => zTs_in) wk_352 wk_349 wk_350 wk_351 wk_18) rfl ⟨rfl, by decide, by decide, by decide +kernel⟩ rfl rfl rfl rfl (by decide) rfl rfl (Nat.le_of_ble_eq_true rfl) ⟨by decide, by decide⟩ rfl rfl ⟨by decide, by decide⟩ ⟨by decide, by decide⟩ dX3_move_107 rfl (fun r107 w107 hB107 => ?_)
  obtain ⟨rfl, rfl⟩ := hB107
  refine z_perm [5, 0, 1, 6, 2, 3, 4] [(m, zo 3 [.ref ma, .ref ml, .ref ms, .int (nI (h - 1)), .int an, .ref mp, .int (nI em), .ref mt]), (ma, zi E 3 ar), (ml, zi E 4 lo), (ms, zi E 8 st), (mp, zo 4 [.ref mpk, .ref mpv, .int (nI n)]), (mpk, zi E 600 f), (mpv, zi E 600 g)] (by decide) rfl ?_
  refine z_callVv 113 C0 [0, 2] [1, 3, 4, 5, 6] [(ma, zi E 3 ar), (ms, zi E 8 st), (mp, zo 4 [.ref mpk, .ref mpv, .int (nI n)]), (mpk, zi E 600 f), (mpv, zi E 600 g)] 0 0 (As := [.int (nI j), .int (popV h st)]) (T := TX3) (N := 8) (C := RX3) (ci := 3) (n := 2) 0 (store l_ E m ma ml ms mp mt (h - 1) an em lo j (popV h st) (by omega)) (zGIV (fun _ => zTs_in) wk_379 wk_376 wk_377 wk_378 wk_18) rfl ⟨rfl, by decide, by decide, by decide +kernel⟩ rfl rfl rfl rfl (by decide) rfl rfl (Nat.le_of_ble_eq_true rfl) ⟨by decide, by decide⟩ rfl rfl ⟨by decide, by decide⟩ ⟨by decide, by decide⟩ dX3_move_110 rfl (fun w110 hB110 => ?_)
  obtain rfl := hB110
  refine z_perm [5, 0, 6, 1, 2, 3, 4] [(m, zo 3 [.ref ma, .ref ml, .ref ms, .int (nI (h - 1)), .int an, .ref mp, .int (nI em), .ref mt]), (ma, zi E 3 ar), (ml, zi E 4 (upd lo j (popV h st))), (ms, zi E 8 st), (mp, zo 4 [.ref mpk, .ref mpv, .int (nI n)]), (mpk, zi E 600 f), (mpv, zi E 600 g)] (by decide) rfl ?_
  refine z_goto 173 C0 dX3_move_113 (by decide) ?_
  exact z_vret C0 rfl dX3_move_173 (by rw [popV_s (by omega)]) (by decide) (by decide)

set_option maxHeartbeats 4000000 in
set_option maxRecDepth 100000 in
theorem move4 (l_ : Launch) (E : zE) (m : Nat) (ma : Nat) (ml : Nat) (ms : Nat) (mp : Nat) (mt : Nat) (h : Nat) (an : Int32) (em : Nat) (ar : Nat → Int32) (lo : Nat → Int32) (st : Nat → Int32) (mpk : Nat) (mpv : Nat) (f : Nat → Int32) (g : Nat → Int32) (n : Nat) (nv : Int32) (hh8 : h ≤ 8) (hh : 1 ≤ h) (hh2 : h < 8) : zMv l_ E yX3_move (zTs yX3_move cX3_move 6 none) ({ frames := 2, cells := 0, slots := 0, locals := 44 } : Room) [.ref m, .int (nI 4), .int nv] [(m, zo 3 [.ref ma, .ref ml, .ref ms, .int (nI h), .int an, .ref mp, .int (nI em), .ref mt]), (ma, zi E 3 ar), (ml, zi E 4 lo), (ms, zi E 8 st), (mp, zo 4 [.ref mpk, .ref mpv, .int (nI n)]), (mpk, zi E 600 f), (mpv, zi E 600 g)] (fun w_ => (w_ = [(m, zo 3 [.ref ma, .ref ml, .ref ms, .int (nI (h + 1)), .int an, .ref mp, .int (nI em), .ref mt]), (ma, zi E 3 ar), (ml, zi E 4 lo), (ms, zi E 8 (upd st h (st (h - 1)))), (mp, zo 4 [.ref mpk, .ref mpv, .int (nI n)]), (mpk, zi E 600 f), (mpv, zi E 600 g)])) 0 0 := by
  refine zMv.of (cc := cX3_move) (nL := 6) (ret := none) (by decide) rfl (Nat.le_of_ble_eq_true rfl) ?_
  intro p_ e_ s_ m_ args_ below_ meth_ c_ A_ C0 hin0
  have C0 : zC E p_ s_ m_ args_ meth_ c_ cX3_move 6 none RX3 (zTs yX3_move cX3_move 6 none) A_ := C0
  refine z_eqL (L1 := [(0, .ref m), (1, .int (nI 4)), (2, .int nv)]) rfl ?_
  refine z_iload_n 1 C0 1 dX3_move_0 rfl rfl rfl ?_
  refine z_switch 116 C0 dX3_move_1 (by decide) (by decide) rfl (by decide) ?_
  refine z_aload_n 117 C0 0 dX3_move_116 rfl rfl rfl ?_
  refine z_callVi 120 C0 [0, 3] [1, 2, 4, 5, 6] [(ma, zi E 3 ar), (ml, zi E 4 lo), (mp, zo 4 [.ref mpk, .ref mpv, .int (nI n)]), (mpk, zi E 600 f), (mpv, zi E 600 g)] 0 0 (As := []) (T := TX3) (N := 8) (C := RX3) (ci := 3) (n := 0) 0 (pop l_ E m ma ml ms mp mt h an em st (by omega)) (zGIV (fun _ => zTs_in) wk_352 wk_349 wk_350 wk_351 wk_18) rfl ⟨rfl, by decide, by decide, by decide +kernel⟩ rfl rfl rfl rfl (by decide) rfl rfl (Nat.le_of_ble_eq_true rfl) ⟨by decide, by decide⟩ rfl rfl ⟨by decide, by decide⟩ ⟨by decide, by decide⟩ dX3_move_117 rfl (fun r117 w117 hB117 => ?_)
  obtain ⟨rfl, rfl⟩ := hB117
  refine z_perm [5, 0, 1, 6, 2, 3, 4] [(m, zo 3 [.ref ma, .ref ml, .ref ms, .int (nI (h - 1)), .int an, .ref mp, .int (nI em), .ref mt]), (ma, zi E 3 ar), (ml, zi E 4 lo), (ms, zi E 8 st), (mp, zo 4 [.ref mpk, .ref mpv, .int (nI n)]), (mpk, zi E 600 f), (mpv, zi E 600 g)] (by decide) rfl ?_
  refine z_istore_n 121 C0 [1, 2, 3, 0] [(0, .ref m), (1, .int (nI 4)), (2, .int nv), (3, .int (popV h st))] dX3_move_120 rfl rfl (by decide) rfl ?_
  refine z_aload_n 122 C0 0 dX3_move_121 rfl rfl rfl ?_
  refine z_iload_n 123 C0 3 dX3_move_122 rfl rfl rfl ?_
  refine z_callVv 126 C0 [0, 3] [1, 2, 4, 5, 6] [(ma, zi E 3 ar), (ml, zi E 4 lo), (mp, zo 4 [.ref mpk, .ref mpv, .int (nI n)]), (mpk, zi E 600 f), (mpv, zi E 600 g)] 0 0 (As := [.int (popV h st)]) (T := TX3) (N := 8) (C := RX3) (ci := 3) (n := 1) 0 (push l_ E m ma ml ms mp mt (h - 1) an em st (popV h st) (by omega)) (zGIV (fun _ => zTs_in) wk_371 wk_368 wk_369 wk_370 wk_18) rfl ⟨rfl, by decide, by decide, by decide +kernel⟩ rfl rfl rfl rfl (by decide) rfl rfl (Nat.le_of_ble_eq_true rfl) ⟨by decide, by decide⟩ rfl rfl ⟨by decide, by decide⟩ ⟨by decide, by decide⟩ dX3_move_123 rfl (fun w123 hB123 => ?_)
  obtain rfl := hB123
  refine z_perm [5, 0, 1, 6, 2, 3, 4] [(m, zo 3 [.ref ma, .ref ml, .ref ms, .int (nI ((h - 1) + 1)), .int an, .ref mp, .int (nI em), .ref mt]), (ma, zi E 3 ar), (ml, zi E 4 lo), (ms, zi E 8 (upd st (h - 1) (popV h st))), (mp, zo 4 [.ref mpk, .ref mpv, .int (nI n)]), (mpk, zi E 600 f), (mpv, zi E 600 g)] (by decide) rfl ?_
  refine z_aload_n 127 C0 0 dX3_move_126 rfl rfl rfl ?_
  refine z_iload_n 128 C0 3 dX3_move_127 rfl rfl rfl ?_
  refine z_callVv 131 C0 [0, 3] [1, 2, 4, 5, 6] [(ma, zi E 3 ar), (ml, zi E 4 lo), (mp, zo 4 [.ref mpk, .ref mpv, .int (nI n)]), (mpk, zi E 600 f), (mpv, zi E 600 g)] 0 0 (As := [.int (popV h st)]) (T := TX3) (N := 8) (C := RX3) (ci := 3) (n := 1) 0 (push l_ E m ma ml ms mp mt ((h - 1) + 1) an em (upd st (h - 1) (popV h st)) (popV h st) (by omega)) (zGIV (fun _ => zTs_in) wk_371 wk_368 wk_369 wk_370 wk_18) rfl ⟨rfl, by decide, by decide, by decide +kernel⟩ rfl rfl rfl rfl (by decide) rfl rfl (Nat.le_of_ble_eq_true rfl) ⟨by decide, by decide⟩ rfl rfl ⟨by decide, by decide⟩ ⟨by decide, by decide⟩ dX3_move_128 rfl (fun w128 hB128 => ?_)
  obtain rfl := hB128
  refine z_perm [5, 0, 1, 6, 2, 3, 4] [(m, zo 3 [.ref ma, .ref ml, .ref ms, .int (nI (((h - 1) + 1) + 1)), .int an, .ref mp, .int (nI em), .ref mt]), (ma, zi E 3 ar), (ml, zi E 4 lo), (ms, zi E 8 (upd (upd st (h - 1) (popV h st)) ((h - 1) + 1) (popV h st))), (mp, zo 4 [.ref mpk, .ref mpv, .int (nI n)]), (mpk, zi E 600 f), (mpv, zi E 600 g)] (by decide) rfl ?_
  refine z_goto 173 C0 dX3_move_131 (by decide) ?_
  exact z_vret C0 rfl dX3_move_173 (by rw [popV_s (by omega), upd_self, show h - 1 + 1 = h by omega]) (by decide) (by decide)

set_option maxHeartbeats 4000000 in
set_option maxRecDepth 100000 in
theorem move5 (l_ : Launch) (E : zE) (m : Nat) (ma : Nat) (ml : Nat) (ms : Nat) (mp : Nat) (mt : Nat) (h : Nat) (an : Int32) (em : Nat) (ar : Nat → Int32) (lo : Nat → Int32) (st : Nat → Int32) (mpk : Nat) (mpv : Nat) (f : Nat → Int32) (g : Nat → Int32) (n : Nat) (nv : Int32) (hh8 : h ≤ 8) (hh : 2 ≤ h) : zMv l_ E yX3_move (zTs yX3_move cX3_move 6 none) ({ frames := 2, cells := 0, slots := 0, locals := 44 } : Room) [.ref m, .int (nI 5), .int nv] [(m, zo 3 [.ref ma, .ref ml, .ref ms, .int (nI h), .int an, .ref mp, .int (nI em), .ref mt]), (ma, zi E 3 ar), (ml, zi E 4 lo), (ms, zi E 8 st), (mp, zo 4 [.ref mpk, .ref mpv, .int (nI n)]), (mpk, zi E 600 f), (mpv, zi E 600 g)] (fun w_ => (w_ = [(m, zo 3 [.ref ma, .ref ml, .ref ms, .int (nI h), .int an, .ref mp, .int (nI em), .ref mt]), (ma, zi E 3 ar), (ml, zi E 4 lo), (ms, zi E 8 (upd (upd st (h - 2) (st (h - 1))) (h - 1) (st (h - 2)))), (mp, zo 4 [.ref mpk, .ref mpv, .int (nI n)]), (mpk, zi E 600 f), (mpv, zi E 600 g)])) 0 0 := by
  refine zMv.of (cc := cX3_move) (nL := 6) (ret := none) (by decide) rfl (Nat.le_of_ble_eq_true rfl) ?_
  intro p_ e_ s_ m_ args_ below_ meth_ c_ A_ C0 hin0
  have C0 : zC E p_ s_ m_ args_ meth_ c_ cX3_move 6 none RX3 (zTs yX3_move cX3_move 6 none) A_ := C0
  refine z_eqL (L1 := [(0, .ref m), (1, .int (nI 5)), (2, .int nv)]) rfl ?_
  refine z_iload_n 1 C0 1 dX3_move_0 rfl rfl rfl ?_
  refine z_switch 134 C0 dX3_move_1 (by decide) (by decide) rfl (by decide) ?_
  refine z_aload_n 135 C0 0 dX3_move_134 rfl rfl rfl ?_
  refine z_callVi 138 C0 [0, 3] [1, 2, 4, 5, 6] [(ma, zi E 3 ar), (ml, zi E 4 lo), (mp, zo 4 [.ref mpk, .ref mpv, .int (nI n)]), (mpk, zi E 600 f), (mpv, zi E 600 g)] 0 0 (As := []) (T := TX3) (N := 8) (C := RX3) (ci := 3) (n := 0) 0 (pop l_ E m ma ml ms mp mt h an em st (by omega)) (zGIV (fun _ => zTs_in) wk_352 wk_349 wk_350 wk_351 wk_18) rfl ⟨rfl, by decide, by decide, by decide +kernel⟩ rfl rfl rfl rfl (by decide) rfl rfl (Nat.le_of_ble_eq_true rfl) ⟨by decide, by decide⟩ rfl rfl ⟨by decide, by decide⟩ ⟨by decide, by decide⟩ dX3_move_135 rfl (fun r135 w135 hB135 => ?_)
  obtain ⟨rfl, rfl⟩ := hB135
  refine z_perm [5, 0, 1, 6, 2, 3, 4] [(m, zo 3 [.ref ma, .ref ml, .ref ms, .int (nI (h - 1)), .int an, .ref mp, .int (nI em), .ref mt]), (ma, zi E 3 ar), (ml, zi E 4 lo), (ms, zi E 8 st), (mp, zo 4 [.ref mpk, .ref mpv, .int (nI n)]), (mpk, zi E 600 f), (mpv, zi E 600 g)] (by decide) rfl ?_
  refine z_istore 140 C0 [1, 2, 3, 0] [(0, .ref m), (1, .int (nI 5)), (2, .int nv), (4, .int (popV h st))] dX3_move_138 rfl (by decide) rfl ?_
  refine z_aload_n 141 C0 0 dX3_move_140 rfl rfl rfl ?_
  refine z_callVi 144 C0 [0, 3] [1, 2, 4, 5, 6] [(ma, zi E 3 ar), (ml, zi E 4 lo), (mp, zo 4 [.ref mpk, .ref mpv, .int (nI n)]), (mpk, zi E 600 f), (mpv, zi E 600 g)] 0 0 (As := []) (T := TX3) (N := 8) (C := RX3) (ci := 3) (n := 0) 0 (pop l_ E m ma ml ms mp mt (h - 1) an em st (by omega)) (zGIV (fun _ => zTs_in) wk_352 wk_349 wk_350 wk_351 wk_18) rfl ⟨rfl, by decide, by decide, by decide +kernel⟩ rfl rfl rfl rfl (by decide) rfl rfl (Nat.le_of_ble_eq_true rfl) ⟨by decide, by decide⟩ rfl rfl ⟨by decide, by decide⟩ ⟨by decide, by decide⟩ dX3_move_141 rfl (fun r141 w141 hB141 => ?_)
  obtain ⟨rfl, rfl⟩ := hB141
  refine z_perm [5, 0, 1, 6, 2, 3, 4] [(m, zo 3 [.ref ma, .ref ml, .ref ms, .int (nI ((h - 1) - 1)), .int an, .ref mp, .int (nI em), .ref mt]), (ma, zi E 3 ar), (ml, zi E 4 lo), (ms, zi E 8 st), (mp, zo 4 [.ref mpk, .ref mpv, .int (nI n)]), (mpk, zi E 600 f), (mpv, zi E 600 g)] (by decide) rfl ?_
  refine z_istore 146 C0 [1, 2, 3, 4, 0] [(0, .ref m), (1, .int (nI 5)), (2, .int nv), (4, .int (popV h st)), (5, .int (popV (h - 1) st))] dX3_move_144 rfl (by decide) rfl ?_
  refine z_aload_n 147 C0 0 dX3_move_146 rfl rfl rfl ?_
  refine z_iload 149 C0 3 dX3_move_147 rfl rfl ?_
  refine z_callVv 152 C0 [0, 3] [1, 2, 4, 5, 6] [(ma, zi E 3 ar), (ml, zi E 4 lo), (mp, zo 4 [.ref mpk, .ref mpv, .int (nI n)]), (mpk, zi E 600 f), (mpv, zi E 600 g)] 0 0 (As := [.int (popV h st)]) (T := TX3) (N := 8) (C := RX3) (ci := 3) (n := 1) 0 (push l_ E m ma ml ms mp mt ((h - 1) - 1) an em st (popV h st) (by omega)) (zGIV (fun _ => zTs_in) wk_371 wk_368 wk_369 wk_370 wk_18) rfl ⟨rfl, by decide, by decide, by decide +kernel⟩ rfl rfl rfl rfl (by decide) rfl rfl (Nat.le_of_ble_eq_true rfl) ⟨by decide, by decide⟩ rfl rfl ⟨by decide, by decide⟩ ⟨by decide, by decide⟩ dX3_move_149 rfl (fun w149 hB149 => ?_)
  obtain rfl := hB149
  refine z_perm [5, 0, 1, 6, 2, 3, 4] [(m, zo 3 [.ref ma, .ref ml, .ref ms, .int (nI (((h - 1) - 1) + 1)), .int an, .ref mp, .int (nI em), .ref mt]), (ma, zi E 3 ar), (ml, zi E 4 lo), (ms, zi E 8 (upd st ((h - 1) - 1) (popV h st))), (mp, zo 4 [.ref mpk, .ref mpv, .int (nI n)]), (mpk, zi E 600 f), (mpv, zi E 600 g)] (by decide) rfl ?_
  refine z_aload_n 153 C0 0 dX3_move_152 rfl rfl rfl ?_
  refine z_iload 155 C0 4 dX3_move_153 rfl rfl ?_
  refine z_callVv 158 C0 [0, 3] [1, 2, 4, 5, 6] [(ma, zi E 3 ar), (ml, zi E 4 lo), (mp, zo 4 [.ref mpk, .ref mpv, .int (nI n)]), (mpk, zi E 600 f), (mpv, zi E 600 g)] 0 0 (As := [.int (popV (h - 1) st)]) (T := TX3) (N := 8) (C := RX3) (ci := 3) (n := 1) 0 (push l_ E m ma ml ms mp mt (((h - 1) - 1) + 1) an em (upd st ((h - 1) - 1) (popV h st)) (popV (h - 1) st) (by omega)) (zGIV (fun _ => zTs_in) wk_371 wk_368 wk_369 wk_370 wk_18) rfl ⟨rfl, by decide, by decide, by decide +kernel⟩ rfl rfl rfl rfl (by decide) rfl rfl (Nat.le_of_ble_eq_true rfl) ⟨by decide, by decide⟩ rfl rfl ⟨by decide, by decide⟩ ⟨by decide, by decide⟩ dX3_move_155 rfl (fun w155 hB155 => ?_)
  obtain rfl := hB155
  refine z_perm [5, 0, 1, 6, 2, 3, 4] [(m, zo 3 [.ref ma, .ref ml, .ref ms, .int (nI ((((h - 1) - 1) + 1) + 1)), .int an, .ref mp, .int (nI em), .ref mt]), (ma, zi E 3 ar), (ml, zi E 4 lo), (ms, zi E 8 (upd (upd st ((h - 1) - 1) (popV h st)) (((h - 1) - 1) + 1) (popV (h - 1) st))), (mp, zo 4 [.ref mpk, .ref mpv, .int (nI n)]), (mpk, zi E 600 f), (mpv, zi E 600 g)] (by decide) rfl ?_
  refine z_goto 173 C0 dX3_move_158 (by decide) ?_
  exact z_vret C0 rfl dX3_move_173 (by rw [popV_s (by omega), popV_s (by omega), show h - 1 - 1 = h - 2 by omega, show h - 2 + 1 = h - 1 by omega, show h - 1 + 1 = h by omega]) (by decide) (by decide)

set_option maxHeartbeats 4000000 in
set_option maxRecDepth 100000 in
theorem move6 (l_ : Launch) (E : zE) (m : Nat) (ma : Nat) (ml : Nat) (ms : Nat) (mp : Nat) (mt : Nat) (h : Nat) (an : Int32) (em : Nat) (ar : Nat → Int32) (lo : Nat → Int32) (st : Nat → Int32) (mpk : Nat) (mpv : Nat) (f : Nat → Int32) (g : Nat → Int32) (n : Nat) (nv : Int32) (hh8 : h ≤ 8) (hh : 1 ≤ h) : zMv l_ E yX3_move (zTs yX3_move cX3_move 6 none) ({ frames := 2, cells := 0, slots := 0, locals := 44 } : Room) [.ref m, .int (nI 6), .int nv] [(m, zo 3 [.ref ma, .ref ml, .ref ms, .int (nI h), .int an, .ref mp, .int (nI em), .ref mt]), (ma, zi E 3 ar), (ml, zi E 4 lo), (ms, zi E 8 st), (mp, zo 4 [.ref mpk, .ref mpv, .int (nI n)]), (mpk, zi E 600 f), (mpv, zi E 600 g)] (fun w_ => (w_ = [(m, zo 3 [.ref ma, .ref ml, .ref ms, .int (nI (h - 1)), .int an, .ref mp, .int (nI em), .ref mt]), (ma, zi E 3 ar), (ml, zi E 4 lo), (ms, zi E 8 st), (mp, zo 4 [.ref mpk, .ref mpv, .int (nI n)]), (mpk, zi E 600 f), (mpv, zi E 600 g)])) 0 0 := by
  refine zMv.of (cc := cX3_move) (nL := 6) (ret := none) (by decide) rfl (Nat.le_of_ble_eq_true rfl) ?_
  intro p_ e_ s_ m_ args_ below_ meth_ c_ A_ C0 hin0
  have C0 : zC E p_ s_ m_ args_ meth_ c_ cX3_move 6 none RX3 (zTs yX3_move cX3_move 6 none) A_ := C0
  refine z_eqL (L1 := [(0, .ref m), (1, .int (nI 6)), (2, .int nv)]) rfl ?_
  refine z_iload_n 1 C0 1 dX3_move_0 rfl rfl rfl ?_
  refine z_switch 161 C0 dX3_move_1 (by decide) (by decide) rfl (by decide) ?_
  refine z_aload_n 162 C0 0 dX3_move_161 rfl rfl rfl ?_
  refine z_callVi 165 C0 [0, 3] [1, 2, 4, 5, 6] [(ma, zi E 3 ar), (ml, zi E 4 lo), (mp, zo 4 [.ref mpk, .ref mpv, .int (nI n)]), (mpk, zi E 600 f), (mpv, zi E 600 g)] 0 0 (As := []) (T := TX3) (N := 8) (C := RX3) (ci := 3) (n := 0) 0 (pop l_ E m ma ml ms mp mt h an em st (by omega)) (zGIV (fun _ => zTs_in) wk_352 wk_349 wk_350 wk_351 wk_18) rfl ⟨rfl, by decide, by decide, by decide +kernel⟩ rfl rfl rfl rfl (by decide) rfl rfl (Nat.le_of_ble_eq_true rfl) ⟨by decide, by decide⟩ rfl rfl ⟨by decide, by decide⟩ ⟨by decide, by decide⟩ dX3_move_162 rfl (fun r162 w162 hB162 => ?_)
  obtain ⟨rfl, rfl⟩ := hB162
  refine z_perm [5, 0, 1, 6, 2, 3, 4] [(m, zo 3 [.ref ma, .ref ml, .ref ms, .int (nI (h - 1)), .int an, .ref mp, .int (nI em), .ref mt]), (ma, zi E 3 ar), (ml, zi E 4 lo), (ms, zi E 8 st), (mp, zo 4 [.ref mpk, .ref mpv, .int (nI n)]), (mpk, zi E 600 f), (mpv, zi E 600 g)] (by decide) rfl ?_
  refine z_pop 166 C0 dX3_move_165 rfl rfl ?_
  refine z_goto 173 C0 dX3_move_166 (by decide) ?_
  exact z_vret C0 rfl dX3_move_173 rfl (by decide) (by decide)

set_option maxHeartbeats 4000000 in
set_option maxRecDepth 100000 in
theorem move16 (l_ : Launch) (E : zE) (m : Nat) (ma : Nat) (ml : Nat) (ms : Nat) (mp : Nat) (mt : Nat) (h : Nat) (an : Int32) (em : Nat) (ar : Nat → Int32) (lo : Nat → Int32) (st : Nat → Int32) (mpk : Nat) (mpv : Nat) (f : Nat → Int32) (g : Nat → Int32) (n : Nat) (nv : Int32) (hh8 : h ≤ 8) (hh : 2 ≤ h) (hn : n ≤ 600) (hem : em < 2147483647) : zMv l_ E yX3_move (zTs yX3_move cX3_move 6 none) ({ frames := 2, cells := 0, slots := 0, locals := 44 } : Room) [.ref m, .int (nI 16), .int nv] [(m, zo 3 [.ref ma, .ref ml, .ref ms, .int (nI h), .int an, .ref mp, .int (nI em), .ref mt]), (ma, zi E 3 ar), (ml, zi E 4 lo), (ms, zi E 8 st), (mp, zo 4 [.ref mpk, .ref mpv, .int (nI n)]), (mpk, zi E 600 f), (mpv, zi E 600 g)] (fun w_ => (w_ = [(m, zo 3 [.ref ma, .ref ml, .ref ms, .int (nI (h - 2)), .int an, .ref mp, .int (nI (em + 1)), .ref mt]), (ma, zi E 3 ar), (ml, zi E 4 lo), (ms, zi E 8 st), (mp, zo 4 [.ref mpk, .ref mpv, .int (nI (capN 600 n))]), (mpk, zi E 600 (capU 600 n f (st (h - 2)))), (mpv, zi E 600 (capU 600 n g (st (h - 1))))])) 0 0 := by
  refine zMv.of (cc := cX3_move) (nL := 6) (ret := none) (by decide) rfl (Nat.le_of_ble_eq_true rfl) ?_
  intro p_ e_ s_ m_ args_ below_ meth_ c_ A_ C0 hin0
  have C0 : zC E p_ s_ m_ args_ meth_ c_ cX3_move 6 none RX3 (zTs yX3_move cX3_move 6 none) A_ := C0
  refine z_eqL (L1 := [(0, .ref m), (1, .int (nI 16)), (2, .int nv)]) rfl ?_
  refine z_iload_n 1 C0 1 dX3_move_0 rfl rfl rfl ?_
  refine z_switchO 169 C0 dX3_move_1 (by decide) (by decide) ?_
  refine z_aload_n 170 C0 0 dX3_move_169 rfl rfl rfl ?_
  refine z_callVv 173 C0 [0, 3, 4, 5, 6] [1, 2] [(ma, zi E 3 ar), (ml, zi E 4 lo)] 0 0 (As := []) (T := TX3) (N := 8) (C := RX3) (ci := 3) (n := 0) 0 (emit_ l_ E m ma ml ms mp mt h an em st mpk mpv f g n (by omega) (by omega) (by omega) (by omega)) (zGIV (fun _ => zTs_in) wk_383 wk_380 wk_381 wk_382 wk_18) rfl ⟨rfl, by decide, by decide, by decide +kernel⟩ rfl rfl rfl rfl (by decide) rfl rfl (Nat.le_of_ble_eq_true rfl) ⟨by decide, by decide⟩ rfl rfl ⟨by decide, by decide⟩ ⟨by decide, by decide⟩ dX3_move_170 rfl (fun w170 hB170 => ?_)
  obtain rfl := hB170
  refine z_perm [2, 0, 1, 3, 4, 5, 6] [(m, zo 3 [.ref ma, .ref ml, .ref ms, .int (nI (h - 2)), .int an, .ref mp, .int (nI (em + 1)), .ref mt]), (ma, zi E 3 ar), (ml, zi E 4 lo), (ms, zi E 8 st), (mp, zo 4 [.ref mpk, .ref mpv, .int (nI (capN 600 n))]), (mpk, zi E 600 (capU 600 n f (st (h - 2)))), (mpv, zi E 600 (capU 600 n g (st (h - 1))))] (by decide) rfl ?_
  exact z_vret C0 rfl dX3_move_173 rfl (by decide) (by decide)
