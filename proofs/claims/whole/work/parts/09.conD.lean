set_option maxHeartbeats 4000000 in
set_option maxRecDepth 100000 in
theorem placeOf (l_ : Launch) (E : zE) (t : Nat) (tk : Nat) (tv : Nat) (kf : Nat → Int32) (vf : Nat → Int32) (tn : Nat) (key : Int32) (hs : srt tn kf) (hn : tn ≤ 600) : zMi l_ E yX2_placeOf (zTs yX2_placeOf cX2_placeOf 4 (some .int)) ({ frames := 0, cells := 0, slots := 0, locals := 0 } : Room) [.ref t, .int key] [(t, zo 2 [.ref tk, .ref tv, .int (nI tn)]), (tk, zi E 600 kf), (tv, zi E 600 vf)] (fun r_ w_ => ∃ pl : Nat, (r_ = (nI pl) ∧ w_ = [(t, zo 2 [.ref tk, .ref tv, .int (nI tn)]), (tk, zi E 600 kf), (tv, zi E 600 vf)]) ∧ (plc tn kf key pl)) 0 0 := by
  refine zMi.of (cc := cX2_placeOf) (nL := 4) (ret := (some .int)) (by decide) rfl (Nat.le_of_ble_eq_true rfl) ?_
  intro p_ e_ s_ m_ args_ below_ meth_ c_ A_ C0 hin0
  have C0 : zC E p_ s_ m_ args_ meth_ c_ cX2_placeOf 4 (some .int) RX2 (zTs yX2_placeOf cX2_placeOf 4 (some .int)) A_ := C0
  refine z_eqL (L1 := [(0, .ref t), (1, .int key)]) rfl ?_
  refine z_iconst 1 C0 (v := (nI 0)) dX2_placeOf_0 rfl rfl ?_
  refine z_istore_n 2 C0 [1, 2, 0] [(0, .ref t), (1, .int key), (2, .int (nI 0))] dX2_placeOf_1 rfl rfl (by decide) rfl ?_
  refine z_sipush 5 C0 (v := (nI 512)) dX2_placeOf_2 rfl rfl ?_
  refine z_istore_n 6 C0 [1, 2, 3, 0] [(0, .ref t), (1, .int key), (2, .int (nI 0)), (3, .int (nI 512))] dX2_placeOf_5 rfl rfl (by decide) rfl ?_
  have CUT6 : ∀ (N6 : Nat) (pl : Nat) (sd : Nat), (sd = 0 ∨ sd = 1 ∨ sd = 2 ∨ sd = 4 ∨ sd = 8 ∨ sd = 16 ∨ sd = 32 ∨ sd = 64 ∨ sd = 128 ∨ sd = 256 ∨ sd = 512) → (pl ≤ tn) → (∀ i, i < pl → kf i < key) → (∀ i, pl + (2 * sd - 1) ≤ i → i < tn → ¬ kf i < key) → sd < N6 → Z E p_ l_ e_ ({ frames := 0, cells := 0, slots := 0, locals := 0 } : Room) s_ m_ args_ below_ meth_ c_ (MQ below_ (va_Qi (fun r_ w_ => ∃ pl : Nat, (r_ = (nI pl) ∧ w_ = [(t, zo 2 [.ref tk, .ref tv, .int (nI tn)]), (tk, zi E 600 kf), (tv, zi E 600 vf)]) ∧ (plc tn kf key pl)) (zPost E A_) A_) args_ s_ 0 0 A_) A_ 4 6 [(0, .ref t), (1, .int key), (2, .int (nI pl)), (3, .int (nI sd))] [] [(t, zo 2 [.ref tk, .ref tv, .int (nI tn)]), (tk, zi E 600 kf), (tv, zi E 600 vf)] 0 0 := by
    intro N6
    induction N6 with
    | zero => intro pl sd hsd hpl h1 h2 hm6; exact absurd hm6 (Nat.not_lt_zero _)
    | succ N6 ih6 =>
      intro pl sd hsd hpl h1 h2 hm6
      refine z_iload_n 7 C0 3 dX2_placeOf_6 rfl rfl rfl ?_
      refine z_if_leN 10 45 C0 (by omega) dX2_placeOf_7 rfl (by decide) (fun k7 => ?_) (fun k7 => ?_)
      · skip
        refine z_iload_n 46 C0 2 dX2_placeOf_45 rfl rfl rfl ?_
        exact z_iret C0 rfl dX2_placeOf_46 ⟨pl, ⟨rfl, rfl⟩, (⟨hpl, h1, fun i hi hi2 => h2 i (by omega) hi2⟩)⟩ (by decide) (by decide)
      · skip
        refine z_iload_n 11 C0 2 dX2_placeOf_10 rfl rfl rfl ?_
        refine z_iload_n 12 C0 3 dX2_placeOf_11 rfl rfl rfl ?_
        refine z_iadd 13 C0 (v := (nI (pl + sd))) dX2_placeOf_12 rfl (nI_add _ _) ?_
        refine z_aload_n 14 C0 0 dX2_placeOf_13 rfl rfl rfl ?_
        refine z_get 17 C0 0 2 wz_2 rfl (by decide) (zTs_in wk_162) dX2_placeOf_14 rfl rfl rfl ?_
        refine z_icmp_gtN 20 38 C0 (by omega) (by omega) dX2_placeOf_17 rfl (by decide) (fun k17 => ?_) (fun k17 => ?_)
        · skip
          first | (have h2n : ∀ i, pl + (2 * (sd / 2) - 1) ≤ i → i < tn → ¬ kf i < key := fun i hi hi2 => by omega) | (have h2n : ∀ i, pl + (2 * (sd / 2) - 1) ≤ i → i < tn → ¬ kf i < key := fun i hi hi2 => by rcases Nat.lt_or_ge (pl + sd - 1) i with q | q; exact fun z => k31 |> fun w => i32_nlt_of_le w (i32_lt_trans (hs _ i q hi2) z); rw [show i = pl + sd - 1 by omega]; exact i32_nlt_of_le k31) | skip
          refine z_iload_n 39 C0 3 dX2_placeOf_38 rfl rfl rfl ?_
          refine z_iconst 40 C0 (v := (nI 2)) dX2_placeOf_39 rfl rfl ?_
          refine z_idiv 41 C0 (v := (nI (sd / 2))) dX2_placeOf_40 rfl (nI_ne0 (by omega) (by omega)) (pk_div (by omega) (by omega) (by omega)) ?_
          refine z_istore_n 42 C0 [1, 2, 3, 0] [(0, .ref t), (1, .int key), (2, .int (nI pl)), (3, .int (nI (sd / 2)))] dX2_placeOf_41 rfl rfl (by decide) rfl ?_
          refine z_goto 6 C0 dX2_placeOf_42 (by decide) ?_
          exact ih6 pl (sd / 2) (by omega) (by omega) h1 h2n (by omega)
        · skip
          skip
          refine z_aload_n 21 C0 0 dX2_placeOf_20 rfl rfl rfl ?_
          refine z_get 24 C0 0 0 wz_2 rfl (by decide) (zTs_in wk_154) dX2_placeOf_21 rfl rfl rfl ?_
          refine z_iload_n 25 C0 2 dX2_placeOf_24 rfl rfl rfl ?_
          refine z_iload_n 26 C0 3 dX2_placeOf_25 rfl rfl rfl ?_
          refine z_iadd 27 C0 (v := (nI (pl + sd))) dX2_placeOf_26 rfl (nI_add _ _) ?_
          refine z_iconst 28 C0 (v := (nI 1)) dX2_placeOf_27 rfl rfl ?_
          refine z_isub 29 C0 (v := (nI ((pl + sd) - 1))) dX2_placeOf_28 rfl (z_subN (by omega)) ?_
          refine z_ialdN 30 C0 1 (v := (kf ((pl + sd) - 1))) dX2_placeOf_29 rfl rfl (by omega) (by decide) rfl ?_
          refine z_iload_n 31 C0 1 dX2_placeOf_30 rfl rfl rfl ?_
          refine z_icmp_ge 34 38 C0 dX2_placeOf_31 rfl (by decide) (fun k31 => ?_) (fun k31 => ?_)
          · skip
            first | (have h2n : ∀ i, pl + (2 * (sd / 2) - 1) ≤ i → i < tn → ¬ kf i < key := fun i hi hi2 => by omega) | (have h2n : ∀ i, pl + (2 * (sd / 2) - 1) ≤ i → i < tn → ¬ kf i < key := fun i hi hi2 => by rcases Nat.lt_or_ge (pl + sd - 1) i with q | q; exact fun z => k31 |> fun w => i32_nlt_of_le w (i32_lt_trans (hs _ i q hi2) z); rw [show i = pl + sd - 1 by omega]; exact i32_nlt_of_le k31) | skip
            refine z_iload_n 39 C0 3 dX2_placeOf_38 rfl rfl rfl ?_
            refine z_iconst 40 C0 (v := (nI 2)) dX2_placeOf_39 rfl rfl ?_
            refine z_idiv 41 C0 (v := (nI (sd / 2))) dX2_placeOf_40 rfl (nI_ne0 (by omega) (by omega)) (pk_div (by omega) (by omega) (by omega)) ?_
            refine z_istore_n 42 C0 [1, 2, 3, 0] [(0, .ref t), (1, .int key), (2, .int (nI pl)), (3, .int (nI (sd / 2)))] dX2_placeOf_41 rfl rfl (by decide) rfl ?_
            refine z_goto 6 C0 dX2_placeOf_42 (by decide) ?_
            exact ih6 pl (sd / 2) (by omega) (by omega) h1 h2n (by omega)
          · skip
            refine z_iload_n 35 C0 2 dX2_placeOf_34 rfl rfl rfl ?_
            refine z_iload_n 36 C0 3 dX2_placeOf_35 rfl rfl rfl ?_
            refine z_iadd 37 C0 (v := (nI (pl + sd))) dX2_placeOf_36 rfl (nI_add _ _) ?_
            refine z_istore_n 38 C0 [1, 2, 0, 3] [(0, .ref t), (1, .int key), (2, .int (nI (pl + sd))), (3, .int (nI sd))] dX2_placeOf_37 rfl rfl (by decide) rfl ?_
            first | (have h2n : ∀ i, pl + (2 * (sd / 2) - 1) ≤ i → i < tn → ¬ kf i < key := fun i hi hi2 => by omega) | (have h2n : ∀ i, pl + (2 * (sd / 2) - 1) ≤ i → i < tn → ¬ kf i < key := fun i hi hi2 => by rcases Nat.lt_or_ge (pl + sd - 1) i with q | q; exact fun z => k31 |> fun w => i32_nlt_of_le w (i32_lt_trans (hs _ i q hi2) z); rw [show i = pl + sd - 1 by omega]; exact i32_nlt_of_le k31) | skip
            refine z_iload_n 39 C0 3 dX2_placeOf_38 rfl rfl rfl ?_
            refine z_iconst 40 C0 (v := (nI 2)) dX2_placeOf_39 rfl rfl ?_
            refine z_idiv 41 C0 (v := (nI (sd / 2))) dX2_placeOf_40 rfl (nI_ne0 (by omega) (by omega)) (pk_div (by omega) (by omega) (by omega)) ?_
            refine z_istore_n 42 C0 [1, 2, 3, 0] [(0, .ref t), (1, .int key), (2, .int (nI (pl + sd))), (3, .int (nI (sd / 2)))] dX2_placeOf_41 rfl rfl (by decide) rfl ?_
            refine z_goto 6 C0 dX2_placeOf_42 (by decide) ?_
            exact ih6 (pl + sd) (sd / 2) (by omega) (by omega) (fun i hi => by rcases Nat.lt_or_ge i (pl + sd - 1) with q | q; exact i32_lt_trans (hs i (pl + sd - 1) q (by omega)) (i32_lt_of_nle k31); rw [show i = pl + sd - 1 by omega]; exact i32_lt_of_nle k31) (fun i hi hi2 => h2 i (by omega) hi2) (by omega)
  exact CUT6 (512 + 1) 0 512 (by omega) (by omega) (fun i hi => absurd hi (Nat.not_lt_zero i)) (fun i hi hi2 => by omega) (Nat.lt_succ_self _)

set_option maxHeartbeats 4000000 in
set_option maxRecDepth 100000 in
theorem holds (l_ : Launch) (E : zE) (t : Nat) (tk : Nat) (tv : Nat) (kf : Nat → Int32) (vf : Nat → Int32) (tn : Nat) (j : Nat) (key : Int32) (hj : j ≤ 600) (hn : tn ≤ 600) : zMi l_ E yX2_holds (zTs yX2_holds cX2_holds 3 (some .boolean)) ({ frames := 0, cells := 0, slots := 0, locals := 0 } : Room) [.ref t, .int (nI j), .int key] [(t, zo 2 [.ref tk, .ref tv, .int (nI tn)]), (tk, zi E 600 kf), (tv, zi E 600 vf)] (fun r_ w_ => (r_ = (zb (j < tn ∧ kf j = key)) ∧ w_ = [(t, zo 2 [.ref tk, .ref tv, .int (nI tn)]), (tk, zi E 600 kf), (tv, zi E 600 vf)])) 0 0 := by
  refine zMi.of (cc := cX2_holds) (nL := 3) (ret := (some .boolean)) (by decide) rfl (Nat.le_of_ble_eq_true rfl) ?_
  intro p_ e_ s_ m_ args_ below_ meth_ c_ A_ C0 hin0
  have C0 : zC E p_ s_ m_ args_ meth_ c_ cX2_holds 3 (some .boolean) RX2 (zTs yX2_holds cX2_holds 3 (some .boolean)) A_ := C0
  refine z_eqL (L1 := [(0, .ref t), (1, .int (nI j)), (2, .int key)]) rfl ?_
  refine z_iload_n 1 C0 1 dX2_holds_0 rfl rfl rfl ?_
  refine z_aload_n 2 C0 0 dX2_holds_1 rfl rfl rfl ?_
  refine z_get 5 C0 0 2 wz_2 rfl (by decide) (zTs_in wk_162) dX2_holds_2 rfl rfl rfl ?_
  refine z_icmp_geN 8 22 C0 (by omega) (by omega) dX2_holds_5 rfl (by decide) (fun k5 => ?_) (fun k5 => ?_)
  · skip
    refine z_iconst 23 C0 (v := (nI 0)) dX2_holds_22 rfl rfl ?_
    exact z_zret C0 rfl rfl dX2_holds_23 ⟨(zb_fN (fun q => by first | exact absurd q.1 (by omega) | exact k15 q.2)), rfl⟩ (by decide) (by decide)
  · skip
    refine z_aload_n 9 C0 0 dX2_holds_8 rfl rfl rfl ?_
    refine z_get 12 C0 0 0 wz_2 rfl (by decide) (zTs_in wk_154) dX2_holds_9 rfl rfl rfl ?_
    refine z_iload_n 13 C0 1 dX2_holds_12 rfl rfl rfl ?_
    refine z_ialdN 14 C0 1 (v := (kf j)) dX2_holds_13 rfl rfl (by omega) (by decide) rfl ?_
    refine z_iload_n 15 C0 2 dX2_holds_14 rfl rfl rfl ?_
    refine z_icmp_ne 18 22 C0 dX2_holds_15 rfl (by decide) (fun k15 => ?_) (fun k15 => ?_)
    · skip
      refine z_iconst 23 C0 (v := (nI 0)) dX2_holds_22 rfl rfl ?_
      exact z_zret C0 rfl rfl dX2_holds_23 ⟨(zb_fN (fun q => by first | exact absurd q.1 (by omega) | exact k15 q.2)), rfl⟩ (by decide) (by decide)
    · skip
      refine z_iconst 19 C0 (v := (nI 1)) dX2_holds_18 rfl rfl ?_
      refine z_goto 23 C0 dX2_holds_19 (by decide) ?_
      exact z_zret C0 rfl rfl dX2_holds_23 ⟨(zb_tN ⟨k5, k15⟩), rfl⟩ (by decide) (by decide)

set_option maxHeartbeats 4000000 in
set_option maxRecDepth 100000 in
theorem insert (l_ : Launch) (E : zE) (t : Nat) (tk : Nat) (tv : Nat) (kf : Nat → Int32) (vf : Nat → Int32) (tn : Nat) (j : Nat) (key : Int32) (v : Int32) (hj : j ≤ tn) (hn : tn < 600) : zMv l_ E yX2_insert (zTs yX2_insert cX2_insert 4 none) ({ frames := 1, cells := 0, slots := 0, locals := 60 } : Room) [.ref t, .int (nI j), .int key, .int v] [(t, zo 2 [.ref tk, .ref tv, .int (nI tn)]), (tk, zi E 600 kf), (tv, zi E 600 vf)] (fun w_ => (w_ = [(t, zo 2 [.ref tk, .ref tv, .int (nI (tn + 1))]), (tk, zi E 600 (insA kf j tn key)), (tv, zi E 600 (insA vf j tn v))])) 0 0 := by
  refine zMv.of (cc := cX2_insert) (nL := 4) (ret := none) (by decide) rfl (Nat.le_of_ble_eq_true rfl) ?_
  intro p_ e_ s_ m_ args_ below_ meth_ c_ A_ C0 hin0
  have C0 : zC E p_ s_ m_ args_ meth_ c_ cX2_insert 4 none RX2 (zTs yX2_insert cX2_insert 4 none) A_ := C0
  refine z_eqL (L1 := [(0, .ref t), (1, .int (nI j)), (2, .int key), (3, .int v)]) rfl ?_
  refine z_iload_n 1 C0 1 dX2_insert_0 rfl rfl rfl ?_
  refine z_aload_n 2 C0 0 dX2_insert_1 rfl rfl rfl ?_
  refine z_get 5 C0 0 2 wz_2 rfl (by decide) (zTs_in wk_162) dX2_insert_2 rfl rfl rfl ?_
  refine z_icmp_gtN 8 18 C0 (by omega) (by omega) dX2_insert_5 rfl (by decide) (fun k5 => absurd k5 (by omega)) (fun k5 => ?_)
  refine z_aload_n 9 C0 0 dX2_insert_8 rfl rfl rfl ?_
  refine z_get 12 C0 0 2 wz_2 rfl (by decide) (zTs_in wk_162) dX2_insert_9 rfl rfl rfl ?_
  refine z_sipush 15 C0 (v := (nI 600)) dX2_insert_12 rfl rfl ?_
  refine z_icmp_ltN 18 19 C0 (by omega) (by decide) dX2_insert_15 rfl (by decide) (fun k15 => ?_) (fun k15 => absurd k15 (by omega))
  refine z_aload_n 20 C0 0 dX2_insert_19 rfl rfl rfl ?_
  refine z_get 23 C0 0 0 wz_2 rfl (by decide) (zTs_in wk_154) dX2_insert_20 rfl rfl rfl ?_
  refine z_iload_n 24 C0 1 dX2_insert_23 rfl rfl rfl ?_
  refine z_aload_n 25 C0 0 dX2_insert_24 rfl rfl rfl ?_
  refine z_get 28 C0 0 0 wz_2 rfl (by decide) (zTs_in wk_154) dX2_insert_25 rfl rfl rfl ?_
  refine z_iload_n 29 C0 1 dX2_insert_28 rfl rfl rfl ?_
  refine z_iconst 30 C0 (v := (nI 1)) dX2_insert_29 rfl rfl ?_
  refine z_iadd 31 C0 (v := (nI (j + 1))) dX2_insert_30 rfl (nI_add _ _) ?_
  refine z_aload_n 32 C0 0 dX2_insert_31 rfl rfl rfl ?_
  refine z_get 35 C0 0 2 wz_2 rfl (by decide) (zTs_in wk_162) dX2_insert_32 rfl rfl rfl ?_
  refine z_iload_n 36 C0 1 dX2_insert_35 rfl rfl rfl ?_
  refine z_isub 37 C0 (v := (nI (tn - j))) dX2_insert_36 rfl (z_subN (by omega)) ?_
  refine z_copy 40 C0 1 1 [(t, zo 2 [.ref tk, .ref tv, .int (nI tn)]), (tk, zi E 600 (va_cpy kf kf j (j + 1) (tn - j))), (tv, zi E 600 vf)] (zTs_in wk_405) (zTs_in wk_407) (zTs_in wk_406) (zTs_in wk_23) rfl rfl (by omega) (by omega) (by decide) (by decide) (by decide) (Nat.le_of_ble_eq_true rfl) (by decide) dX2_insert_37 rfl rfl ?_
  refine z_aload_n 41 C0 0 dX2_insert_40 rfl rfl rfl ?_
  refine z_get 44 C0 0 1 wz_2 rfl (by decide) (zTs_in wk_158) dX2_insert_41 rfl rfl rfl ?_
  refine z_iload_n 45 C0 1 dX2_insert_44 rfl rfl rfl ?_
  refine z_aload_n 46 C0 0 dX2_insert_45 rfl rfl rfl ?_
  refine z_get 49 C0 0 1 wz_2 rfl (by decide) (zTs_in wk_158) dX2_insert_46 rfl rfl rfl ?_
  refine z_iload_n 50 C0 1 dX2_insert_49 rfl rfl rfl ?_
  refine z_iconst 51 C0 (v := (nI 1)) dX2_insert_50 rfl rfl ?_
  refine z_iadd 52 C0 (v := (nI (j + 1))) dX2_insert_51 rfl (nI_add _ _) ?_
  refine z_aload_n 53 C0 0 dX2_insert_52 rfl rfl rfl ?_
  refine z_get 56 C0 0 2 wz_2 rfl (by decide) (zTs_in wk_162) dX2_insert_53 rfl rfl rfl ?_
  refine z_iload_n 57 C0 1 dX2_insert_56 rfl rfl rfl ?_
  refine z_isub 58 C0 (v := (nI (tn - j))) dX2_insert_57 rfl (z_subN (by omega)) ?_
  refine z_copy 61 C0 2 2 [(t, zo 2 [.ref tk, .ref tv, .int (nI tn)]), (tk, zi E 600 (va_cpy kf kf j (j + 1) (tn - j))), (tv, zi E 600 (va_cpy vf vf j (j + 1) (tn - j)))] (zTs_in wk_405) (zTs_in wk_407) (zTs_in wk_406) (zTs_in wk_23) rfl rfl (by omega) (by omega) (by decide) (by decide) (by decide) (Nat.le_of_ble_eq_true rfl) (by decide) dX2_insert_58 rfl rfl ?_
  refine z_aload_n 62 C0 0 dX2_insert_61 rfl rfl rfl ?_
  refine z_get 65 C0 0 0 wz_2 rfl (by decide) (zTs_in wk_154) dX2_insert_62 rfl rfl rfl ?_
  refine z_iload_n 66 C0 1 dX2_insert_65 rfl rfl rfl ?_
  refine z_iload_n 67 C0 2 dX2_insert_66 rfl rfl rfl ?_
  refine z_iastN 68 C0 1 [(t, zo 2 [.ref tk, .ref tv, .int (nI tn)]), (tk, zi E 600 (upd (va_cpy kf kf j (j + 1) (tn - j)) j key)), (tv, zi E 600 (va_cpy vf vf j (j + 1) (tn - j)))] dX2_insert_67 rfl rfl (by omega) (by decide) rfl ?_
  refine z_aload_n 69 C0 0 dX2_insert_68 rfl rfl rfl ?_
  refine z_get 72 C0 0 1 wz_2 rfl (by decide) (zTs_in wk_158) dX2_insert_69 rfl rfl rfl ?_
  refine z_iload_n 73 C0 1 dX2_insert_72 rfl rfl rfl ?_
  refine z_iload_n 74 C0 3 dX2_insert_73 rfl rfl rfl ?_
  refine z_iastN 75 C0 2 [(t, zo 2 [.ref tk, .ref tv, .int (nI tn)]), (tk, zi E 600 (upd (va_cpy kf kf j (j + 1) (tn - j)) j key)), (tv, zi E 600 (upd (va_cpy vf vf j (j + 1) (tn - j)) j v))] dX2_insert_74 rfl rfl (by omega) (by decide) rfl ?_
  refine z_aload_n 76 C0 0 dX2_insert_75 rfl rfl rfl ?_
  refine z_dup 77 C0 dX2_insert_76 rfl rfl ?_
  refine z_get 80 C0 0 2 wz_2 rfl (by decide) (zTs_in wk_162) dX2_insert_77 rfl rfl rfl ?_
  refine z_iconst 81 C0 (v := (nI 1)) dX2_insert_80 rfl rfl ?_
  refine z_iadd 82 C0 (v := (nI (tn + 1))) dX2_insert_81 rfl (nI_add _ _) ?_
  refine z_put 85 C0 0 2 [(t, zo 2 [.ref tk, .ref tv, .int (nI (tn + 1))]), (tk, zi E 600 (upd (va_cpy kf kf j (j + 1) (tn - j)) j key)), (tv, zi E 600 (upd (va_cpy vf vf j (j + 1) (tn - j)) j v))] wz_2 rfl (by decide) (zTs_in wk_162) tyX2 tyX2_ok nmX2 rfl rfl rfl rfl dX2_insert_82 rfl rfl (Nat.le_of_ble_eq_true rfl) rfl ?_
  exact z_vret C0 rfl dX2_insert_85 rfl (by decide) (by decide)
