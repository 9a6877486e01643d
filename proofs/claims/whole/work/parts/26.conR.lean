theorem pNeed_le {kd o : Nat} (ho : o ≤ 18) : pNeed kd o ≤ 2 := by
  unfold pNeed
  split
  · exact Nat.zero_le 2
  · exact (gD_le ho).2.2.1
theorem pNeed_gD {kd o h : Nat} (ho : o ≤ 18) (hn : pNeed kd o ≤ h) : gD o ≤ h := by
  unfold pNeed at hn
  split at hn
  · rename_i q
    have := (gD_le ho).2.2.2 q.1
    omega
  · exact Nat.le_trans (gD_le ho).1 hn
set_option maxHeartbeats 4000000 in
set_option maxRecDepth 100000 in
theorem fw7 (l_ : Launch) (E : zE) (y : Nat) (sz : Nat) (yrk : Nat) (yrv : Nat) (rn : Nat) (yop : Nat) (ynu : Nat) (yle : Nat) (yk : Nat) (yv : Nat) (ysp : Nat) (prs : Nat) (yxk : Nat) (yxv : Nat) (rs : Nat) (err : Int32) (yto : Nat) (yst : Nat) (ylo : Nat) (stp : Nat) (res : Int32) (wo : Nat) (p : Nat) (oo : Nat → Option Nat) (nu : Nat → Option Nat) (ra : Nat) (rb : Nat) (op : Nat → Int32) (nn : Nat → Int32) (ln : Nat → Nat) (hp : p < 4) (hoo : oo p = some ra) (hnu : nu p = some rb) (h0 : 0 < ln p) (hlen : ln p ≤ 64) : zMi l_ E yX7_firstWrong (zTs yX7_firstWrong cX7_firstWrong 13 (some .int)) ({ frames := 1, cells := 2, slots := 640, locals := 24 } : Room) [.ref y, .int (nI p)] [(y, zo 7 [.int (nI sz), .ref yrk, .ref yrv, .int (nI rn), .ref yop, .ref ynu, .ref yle, .ref yk, .ref yv, .ref ysp, .int (nI prs), .ref yxk, .ref yxv, .int (nI rs), .int err, .ref yto, .ref yst, .ref ylo, .int (nI stp), .int res, .int (nI wo)]), (yop, zg E 4 oo), (ra, zi E 64 op), (ynu, zg E 4 nu), (rb, zi E 64 nn), (yle, zi E 4 (zn ln))] (fun r_ w_ => ∃ r2 : Int32, (r_ = r2 ∧ w_ = [(y, zo 7 [.int (nI sz), .ref yrk, .ref yrv, .int (nI rn), .ref yop, .ref ynu, .ref yle, .ref yk, .ref yv, .ref ysp, .int (nI prs), .ref yxk, .ref yxv, .int (nI rs), .int err, .ref yto, .ref yst, .ref ylo, .int (nI stp), .int res, .int (nI wo)]), (yop, zg E 4 oo), (ra, zi E 64 op), (ynu, zg E 4 nu), (rb, zi E 64 nn), (yle, zi E 4 (zn ln))]) ∧ (fwR p op nn (ln p) r2)) 2 640 := by
  refine zMi.of (cc := cX7_firstWrong) (nL := 13) (ret := (some .int)) (by decide) rfl (Nat.le_of_ble_eq_true rfl) ?_
  intro p_ e_ s_ m_ args_ below_ meth_ c_ A_ C0 hin0
  have C0 : zC E p_ s_ m_ args_ meth_ c_ cX7_firstWrong 13 (some .int) RX7 (zTs yX7_firstWrong cX7_firstWrong 13 (some .int)) A_ := C0
  refine z_eqL (L1 := [(0, .ref y), (1, .int (nI p))]) rfl ?_
  refine z_aload_n 1 C0 0 dX7_firstWrong_0 rfl rfl rfl ?_
  refine z_get 4 C0 0 6 wz_7 rfl (by decide) (zTs_in wk_454) dX7_firstWrong_1 rfl rfl rfl ?_
  refine z_iload_n 5 C0 1 dX7_firstWrong_4 rfl rfl rfl ?_
  refine z_ialdN 6 C0 5 (v := (nI (ln p))) dX7_firstWrong_5 rfl rfl (by omega) (by decide) rfl ?_
  refine z_istore_n 7 C0 [1, 2, 0] [(0, .ref y), (1, .int (nI p)), (2, .int (nI (ln p)))] dX7_firstWrong_6 rfl rfl (by decide) rfl ?_
  refine z_iload_n 8 C0 2 dX7_firstWrong_7 rfl rfl rfl ?_
  refine z_newiW 10 C0 1 64 (zTs_in wk_59) (by omega) ⟨by decide, by show 0 + (ln p) ≤ 640; omega⟩ ⟨by decide, by show 0 + (ln p) ≤ 64; omega⟩ dX7_firstWrong_8 rfl (fun q8 => ?_)
  refine z_eqw (w1 := [(y, zo 7 [.int (nI sz), .ref yrk, .ref yrv, .int (nI rn), .ref yop, .ref ynu, .ref yle, .ref yk, .ref yv, .ref ysp, .int (nI prs), .ref yxk, .ref yxv, .int (nI rs), .int err, .ref yto, .ref yst, .ref ylo, .int (nI stp), .int res, .int (nI wo)]), (yop, zg E 4 oo), (ra, zi E 64 op), (ynu, zg E 4 nu), (rb, zi E 64 nn), (yle, zi E 4 (zn ln)), (q8, zi E (ln p) (fun _ => 0))]) rfl ?_
  refine z_eq (L1 := [(0, .ref y), (1, .int (nI p)), (2, .int (nI (ln p)))]) (st1 := [.ref q8]) (w1 := [(y, zo 7 [.int (nI sz), .ref yrk, .ref yrv, .int (nI rn), .ref yop, .ref ynu, .ref yle, .ref yk, .ref yv, .ref ysp, .int (nI prs), .ref yxk, .ref yxv, .int (nI rs), .int err, .ref yto, .ref yst, .ref ylo, .int (nI stp), .int res, .int (nI wo)]), (yop, zg E 4 oo), (ra, zi E 64 op), (ynu, zg E 4 nu), (rb, zi E 64 nn), (yle, zi E 4 (zn ln)), (q8, zi E (ln p) (zn (fun _ => 0)))]) rfl rfl rfl ?_
  refine z_astore_n 11 C0 [1, 2, 3, 0] [(0, .ref y), (1, .int (nI p)), (2, .int (nI (ln p))), (3, .ref q8)] dX7_firstWrong_10 rfl rfl (by decide) rfl ?_
  refine z_iconst 12 C0 (v := (nI 0)) dX7_firstWrong_11 rfl rfl ?_
  refine z_istore 14 C0 [1, 2, 3, 4, 0] [(0, .ref y), (1, .int (nI p)), (2, .int (nI (ln p))), (3, .ref q8), (4, .int (nI 0))] dX7_firstWrong_12 rfl (by decide) rfl ?_
  have CUT14 : ∀ (N14 : Nat) (i : Nat) (wr : Nat → Nat), (i ≤ ln p) → (∀ x, x < i → (wr x = 1 ↔ (¬ ∃ o, pOK p op nn (ln p) x o))) → (∀ x, wr x ≤ 1) → ln p - i < N14 → Z E p_ l_ e_ ({ frames := 1, cells := 2, slots := 640, locals := 24 } : Room) s_ m_ args_ below_ meth_ c_ (MQ below_ (va_Qi (fun r_ w_ => ∃ r2 : Int32, (r_ = r2 ∧ w_ = [(y, zo 7 [.int (nI sz), .ref yrk, .ref yrv, .int (nI rn), .ref yop, .ref ynu, .ref yle, .ref yk, .ref yv, .ref ysp, .int (nI prs), .ref yxk, .ref yxv, .int (nI rs), .int err, .ref yto, .ref yst, .ref ylo, .int (nI stp), .int res, .int (nI wo)]), (yop, zg E 4 oo), (ra, zi E 64 op), (ynu, zg E 4 nu), (rb, zi E 64 nn), (yle, zi E 4 (zn ln))]) ∧ (fwR p op nn (ln p) r2)) (zPost E A_) A_) args_ s_ 2 640 A_) A_ 13 14 [(0, .ref y), (1, .int (nI p)), (2, .int (nI (ln p))), (3, .ref q8), (4, .int (nI i))] [] [(y, zo 7 [.int (nI sz), .ref yrk, .ref yrv, .int (nI rn), .ref yop, .ref ynu, .ref yle, .ref yk, .ref yv, .ref ysp, .int (nI prs), .ref yxk, .ref yxv, .int (nI rs), .int err, .ref yto, .ref yst, .ref ylo, .int (nI stp), .int res, .int (nI wo)]), (yop, zg E 4 oo), (ra, zi E 64 op), (ynu, zg E 4 nu), (rb, zi E 64 nn), (yle, zi E 4 (zn ln)), (q8, zi E (ln p) (zn wr))] 1 64 := by
    intro N14
    induction N14 with
    | zero => intro i wr hi hw hl hm14; exact absurd hm14 (Nat.not_lt_zero _)
    | succ N14 ih14 =>
      intro i wr hi hw hl hm14
      refine z_iload 16 C0 4 dX7_firstWrong_14 rfl rfl ?_
      refine z_iload_n 17 C0 2 dX7_firstWrong_16 rfl rfl rfl ?_
      refine z_icmp_geN 20 45 C0 (by omega) (by omega) dX7_firstWrong_17 rfl (by decide) (fun k17 => ?_) (fun k17 => ?_)
      · skip
        refine z_bipush 47 C0 (v := (nI 9)) dX7_firstWrong_45 rfl rfl ?_
        refine z_iload_n 48 C0 2 dX7_firstWrong_47 rfl rfl rfl ?_
        refine z_imul 49 C0 (v := (nI (9 * (ln p)))) dX7_firstWrong_48 rfl (pk_mul _ _) ?_
        refine z_newiW 51 C0 2 640 (zTs_in wk_59) (by omega) ⟨by decide, by show 64 + (9 * (ln p)) ≤ 640; omega⟩ ⟨by decide, by show 64 + (9 * (ln p)) ≤ 640; omega⟩ dX7_firstWrong_49 rfl (fun q49 => ?_)
        refine z_eqw (w1 := [(y, zo 7 [.int (nI sz), .ref yrk, .ref yrv, .int (nI rn), .ref yop, .ref ynu, .ref yle, .ref yk, .ref yv, .ref ysp, .int (nI prs), .ref yxk, .ref yxv, .int (nI rs), .int err, .ref yto, .ref yst, .ref ylo, .int (nI stp), .int res, .int (nI wo)]), (yop, zg E 4 oo), (ra, zi E 64 op), (ynu, zg E 4 nu), (rb, zi E 64 nn), (yle, zi E 4 (zn ln)), (q8, zi E (ln p) (zn wr)), (q49, zi E (9 * (ln p)) (fun _ => 0))]) rfl ?_
        refine z_eq (L1 := [(0, .ref y), (1, .int (nI p)), (2, .int (nI (ln p))), (3, .ref q8), (4, .int (nI i))]) (st1 := [.ref q49]) (w1 := [(y, zo 7 [.int (nI sz), .ref yrk, .ref yrv, .int (nI rn), .ref yop, .ref ynu, .ref yle, .ref yk, .ref yv, .ref ysp, .int (nI prs), .ref yxk, .ref yxv, .int (nI rs), .int err, .ref yto, .ref yst, .ref ylo, .int (nI stp), .int res, .int (nI wo)]), (yop, zg E 4 oo), (ra, zi E 64 op), (ynu, zg E 4 nu), (rb, zi E 64 nn), (yle, zi E 4 (zn ln)), (q8, zi E (ln p) (zn wr)), (q49, zi E (9 * (ln p)) (zn (fun _ => 0)))]) rfl rfl rfl ?_
        refine z_astore 53 C0 [1, 2, 3, 4, 0] [(0, .ref y), (1, .int (nI p)), (2, .int (nI (ln p))), (3, .ref q8), (4, .ref q49)] dX7_firstWrong_51 rfl (by decide) rfl ?_
        refine z_aload 55 C0 4 dX7_firstWrong_53 rfl rfl ?_
        refine z_iconst 56 C0 (v := (nI 0)) dX7_firstWrong_55 rfl rfl ?_
        refine z_iconst 57 C0 (v := (nI 1)) dX7_firstWrong_56 rfl rfl ?_
        refine z_iastN 58 C0 7 [(y, zo 7 [.int (nI sz), .ref yrk, .ref yrv, .int (nI rn), .ref yop, .ref ynu, .ref yle, .ref yk, .ref yv, .ref ysp, .int (nI prs), .ref yxk, .ref yxv, .int (nI rs), .int err, .ref yto, .ref yst, .ref ylo, .int (nI stp), .int res, .int (nI wo)]), (yop, zg E 4 oo), (ra, zi E 64 op), (ynu, zg E 4 nu), (rb, zi E 64 nn), (yle, zi E 4 (zn ln)), (q8, zi E (ln p) (zn wr)), (q49, zi E (9 * (ln p)) (zn (va_up (fun _ => 0) 0 1)))] dX7_firstWrong_57 rfl rfl (by omega) (by omega) (by rw [z_upN]; rfl) ?_
        refine z_iconst 59 C0 (v := (nI 1)) dX7_firstWrong_58 rfl rfl ?_
        refine z_istore 61 C0 [1, 2, 3, 4, 5, 0] [(0, .ref y), (1, .int (nI p)), (2, .int (nI (ln p))), (3, .ref q8), (4, .ref q49), (5, .int (nI 1))] dX7_firstWrong_59 rfl (by decide) rfl ?_
        have CUT61 : ∀ (N61 : Nat) (rs0 : Nat → Nat) (wr0 : Nat → Nat) (m0 : Nat), (fwP p op nn (ln p) rs0 wr0) → (m0 = 0 → fwPS rs0 wr0 (ln p)) → (m0 ≤ 1) → fwMu (ln p) rs0 + m0 < N61 → Z E p_ l_ e_ ({ frames := 1, cells := 2, slots := 640, locals := 24 } : Room) s_ m_ args_ below_ meth_ c_ (MQ below_ (va_Qi (fun r_ w_ => ∃ r2 : Int32, (r_ = r2 ∧ w_ = [(y, zo 7 [.int (nI sz), .ref yrk, .ref yrv, .int (nI rn), .ref yop, .ref ynu, .ref yle, .ref yk, .ref yv, .ref ysp, .int (nI prs), .ref yxk, .ref yxv, .int (nI rs), .int err, .ref yto, .ref yst, .ref ylo, .int (nI stp), .int res, .int (nI wo)]), (yop, zg E 4 oo), (ra, zi E 64 op), (ynu, zg E 4 nu), (rb, zi E 64 nn), (yle, zi E 4 (zn ln))]) ∧ (fwR p op nn (ln p) r2)) (zPost E A_) A_) args_ s_ 2 640 A_) A_ 13 61 [(0, .ref y), (1, .int (nI p)), (2, .int (nI (ln p))), (3, .ref q8), (4, .ref q49), (5, .int (nI m0))] [] [(y, zo 7 [.int (nI sz), .ref yrk, .ref yrv, .int (nI rn), .ref yop, .ref ynu, .ref yle, .ref yk, .ref yv, .ref ysp, .int (nI prs), .ref yxk, .ref yxv, .int (nI rs), .int err, .ref yto, .ref yst, .ref ylo, .int (nI stp), .int res, .int (nI wo)]), (yop, zg E 4 oo), (ra, zi E 64 op), (ynu, zg E 4 nu), (rb, zi E 64 nn), (yle, zi E 4 (zn ln)), (q8, zi E (ln p) (zn wr0)), (q49, zi E (9 * (ln p)) (zn rs0))] 2 640 := by
          intro N61
          induction N61 with
          | zero => intro rs0 wr0 m0 hF0 hS0 hm1 hm61; exact absurd hm61 (Nat.not_lt_zero _)
          | succ N61 ih61 =>
            intro rs0 wr0 m0 hF0 hS0 hm1 hm61
            refine z_iload 63 C0 5 dX7_firstWrong_61 rfl rfl ?_
            refine z_if_eqN 66 357 C0 (by omega) dX7_firstWrong_63 rfl (by decide) (fun k63 => ?_) (fun k63 => ?_)
            · skip
              have hend := fw_end h0 hF0 (hS0 (by omega))
              refine z_iconst 358 C0 (v := (nI 0)) dX7_firstWrong_357 rfl rfl ?_
              refine z_istore 360 C0 [1, 2, 3, 4, 5, 6, 0] [(0, .ref y), (1, .int (nI p)), (2, .int (nI (ln p))), (3, .ref q8), (4, .ref q49), (5, .int (nI m0)), (6, .int (nI 0))] dX7_firstWrong_358 rfl (by decide) rfl ?_
              have CUT360 : ∀ (N360 : Nat) (i : Nat), (i ≤ ln p) → (∀ x, x < i → wr0 x ≠ 1) → ln p - i < N360 → Z E p_ l_ e_ ({ frames := 1, cells := 2, slots := 640, locals := 24 } : Room) s_ m_ args_ below_ meth_ c_ (MQ below_ (va_Qi (fun r_ w_ => ∃ r2 : Int32, (r_ = r2 ∧ w_ = [(y, zo 7 [.int (nI sz), .ref yrk, .ref yrv, .int (nI rn), .ref yop, .ref ynu, .ref yle, .ref yk, .ref yv, .ref ysp, .int (nI prs), .ref yxk, .ref yxv, .int (nI rs), .int err, .ref yto, .ref yst, .ref ylo, .int (nI stp), .int res, .int (nI wo)]), (yop, zg E 4 oo), (ra, zi E 64 op), (ynu, zg E 4 nu), (rb, zi E 64 nn), (yle, zi E 4 (zn ln))]) ∧ (fwR p op nn (ln p) r2)) (zPost E A_) A_) args_ s_ 2 640 A_) A_ 13 360 [(0, .ref y), (1, .int (nI p)), (2, .int (nI (ln p))), (3, .ref q8), (6, .int (nI i))] [] [(y, zo 7 [.int (nI sz), .ref yrk, .ref yrv, .int (nI rn), .ref yop, .ref ynu, .ref yle, .ref yk, .ref yv, .ref ysp, .int (nI prs), .ref yxk, .ref yxv, .int (nI rs), .int err, .ref yto, .ref yst, .ref ylo, .int (nI stp), .int res, .int (nI wo)]), (yop, zg E 4 oo), (ra, zi E 64 op), (ynu, zg E 4 nu), (rb, zi E 64 nn), (yle, zi E 4 (zn ln)), (q8, zi E (ln p) (zn wr0)), (q49, zi E (9 * (ln p)) (zn rs0))] 2 640 := by
                intro N360
                induction N360 with
                | zero => intro i hi hno hm360; exact absurd hm360 (Nat.not_lt_zero _)
                | succ N360 ih360 =>
                  intro i hi hno hm360
                  refine z_iload 362 C0 4 dX7_firstWrong_360 rfl rfl ?_
                  refine z_iload_n 363 C0 2 dX7_firstWrong_362 rfl rfl rfl ?_
                  refine z_icmp_geN 366 383 C0 (by omega) (by omega) dX7_firstWrong_363 rfl (by decide) (fun k363 => ?_) (fun k363 => ?_)
                  · skip
                    refine z_bipush 385 C0 (v := (-2)) dX7_firstWrong_383 rfl (by decide) ?_
                    refine z_perm [0, 1, 2, 3, 4, 5] [(y, zo 7 [.int (nI sz), .ref yrk, .ref yrv, .int (nI rn), .ref yop, .ref ynu, .ref yle, .ref yk, .ref yv, .ref ysp, .int (nI prs), .ref yxk, .ref yxv, .int (nI rs), .int err, .ref yto, .ref yst, .ref ylo, .int (nI stp), .int res, .int (nI wo)]), (yop, zg E 4 oo), (ra, zi E 64 op), (ynu, zg E 4 nu), (rb, zi E 64 nn), (yle, zi E 4 (zn ln))] (by decide) rfl ?_
                    exact z_iret C0 rfl dX7_firstWrong_385 ⟨(-2), ⟨rfl, rfl⟩, (Or.inr ⟨fun x hx q => hno x (by omega) ((hend x hx).mpr q), rfl⟩)⟩ (by decide) (by decide)
                  · skip
                    have hi2 : i < ln p := by omega
                    have hb0 := hF0.1.2.2.2.2.2 i
                    refine z_aload_n 367 C0 3 dX7_firstWrong_366 rfl rfl rfl ?_
                    refine z_iload 369 C0 4 dX7_firstWrong_367 rfl rfl ?_
                    refine z_ialdN 370 C0 6 (v := (nI (wr0 i))) dX7_firstWrong_369 rfl rfl (by omega) (by omega) rfl ?_
                    refine z_iconst 371 C0 (v := (nI 1)) dX7_firstWrong_370 rfl rfl ?_
                    refine z_icmp_neN 374 377 C0 (by omega) (by decide) dX7_firstWrong_371 rfl (by decide) (fun k371 => ?_) (fun k371 => ?_)
                    · skip
                      refine z_iinc 380 C0 4 [1, 2, 3, 4, 0] [(0, .ref y), (1, .int (nI p)), (2, .int (nI (ln p))), (3, .ref q8), (6, .int (nI (i + 1)))] (v := (nI (i + 1))) dX7_firstWrong_377 rfl rfl (z_incN _ _) (by decide) rfl ?_
                      refine z_goto 360 C0 dX7_firstWrong_380 (by decide) ?_
                      exact ih360 (i + 1) (by omega) (fun x hx => by rcases Nat.lt_or_ge x i with q | q; exact hno x q; obtain rfl : x = i := (by omega); exact k371) (by omega)
                    · skip
                      refine z_iload 376 C0 4 dX7_firstWrong_374 rfl rfl ?_
                      refine z_perm [0, 1, 2, 3, 4, 5] [(y, zo 7 [.int (nI sz), .ref yrk, .ref yrv, .int (nI rn), .ref yop, .ref ynu, .ref yle, .ref yk, .ref yv, .ref ysp, .int (nI prs), .ref yxk, .ref yxv, .int (nI rs), .int err, .ref yto, .ref yst, .ref ylo, .int (nI stp), .int res, .int (nI wo)]), (yop, zg E 4 oo), (ra, zi E 64 op), (ynu, zg E 4 nu), (rb, zi E 64 nn), (yle, zi E 4 (zn ln))] (by decide) rfl ?_
                      exact z_iret C0 rfl dX7_firstWrong_376 ⟨(nI i), ⟨rfl, rfl⟩, (Or.inl ⟨i, by omega, (hend i (by omega)).mp k371, fun x hx q => hno x hx ((hend x (by omega)).mpr q), rfl⟩)⟩ (by decide) (by decide)
              refine z_loc [0, 1, 2, 3, 6] [(0, .ref y), (1, .int (nI p)), (2, .int (nI (ln p))), (3, .ref q8), (6, .int (nI 0))] rfl ?_
              exact CUT360 (ln p - 0 + 1) 0 (Nat.zero_le _) (fun x hx => absurd hx (Nat.not_lt_zero x)) (Nat.lt_succ_self _)
            · skip
              obtain rfl : m0 = 1 := by omega
              refine z_iconst 67 C0 (v := (nI 0)) dX7_firstWrong_66 rfl rfl ?_
              refine z_istore 69 C0 [1, 2, 3, 4, 5, 0] [(0, .ref y), (1, .int (nI p)), (2, .int (nI (ln p))), (3, .ref q8), (4, .ref q49), (5, .int (nI 0))] dX7_firstWrong_67 rfl (by decide) rfl ?_
              refine z_iconst 70 C0 (v := (nI 0)) dX7_firstWrong_69 rfl rfl ?_
              refine z_istore 72 C0 [1, 2, 3, 4, 5, 6, 0] [(0, .ref y), (1, .int (nI p)), (2, .int (nI (ln p))), (3, .ref q8), (4, .ref q49), (5, .int (nI 0)), (6, .int (nI 0))] dX7_firstWrong_70 rfl (by decide) rfl ?_
              have CUT72 : ∀ (N72 : Nat) (rs1 : Nat → Nat) (wr1 : Nat → Nat) (m1 : Nat) (i : Nat), (fwP p op nn (ln p) rs1 wr1) → (i ≤ ln p) → (m1 = 0 → fwPS rs1 wr1 i) → (m1 ≤ 1) → (fwMu (ln p) rs1 + m1 ≤ fwMu (ln p) rs0) → ln p - i < N72 → Z E p_ l_ e_ ({ frames := 1, cells := 2, slots := 640, locals := 24 } : Room) s_ m_ args_ below_ meth_ c_ (MQ below_ (va_Qi (fun r_ w_ => ∃ r2 : Int32, (r_ = r2 ∧ w_ = [(y, zo 7 [.int (nI sz), .ref yrk, .ref yrv, .int (nI rn), .ref yop, .ref ynu, .ref yle, .ref yk, .ref yv, .ref ysp, .int (nI prs), .ref yxk, .ref yxv, .int (nI rs), .int err, .ref yto, .ref yst, .ref ylo, .int (nI stp), .int res, .int (nI wo)]), (yop, zg E 4 oo), (ra, zi E 64 op), (ynu, zg E 4 nu), (rb, zi E 64 nn), (yle, zi E 4 (zn ln))]) ∧ (fwR p op nn (ln p) r2)) (zPost E A_) A_) args_ s_ 2 640 A_) A_ 13 72 [(0, .ref y), (1, .int (nI p)), (2, .int (nI (ln p))), (3, .ref q8), (4, .ref q49), (5, .int (nI m1)), (6, .int (nI i))] [] [(y, zo 7 [.int (nI sz), .ref yrk, .ref yrv, .int (nI rn), .ref yop, .ref ynu, .ref yle, .ref yk, .ref yv, .ref ysp, .int (nI prs), .ref yxk, .ref yxv, .int (nI rs), .int err, .ref yto, .ref yst, .ref ylo, .int (nI stp), .int res, .int (nI wo)]), (yop, zg E 4 oo), (ra, zi E 64 op), (ynu, zg E 4 nu), (rb, zi E 64 nn), (yle, zi E 4 (zn ln)), (q8, zi E (ln p) (zn wr1)), (q49, zi E (9 * (ln p)) (zn rs1))] 2 640 := by
                intro N72
                induction N72 with
                | zero => intro rs1 wr1 m1 i hF1 hi1 hS1 hmm1 hmu1 hm72; exact absurd hm72 (Nat.not_lt_zero _)
                | succ N72 ih72 =>
                  intro rs1 wr1 m1 i hF1 hi1 hS1 hmm1 hmu1 hm72
                  refine z_iload 74 C0 6 dX7_firstWrong_72 rfl rfl ?_
                  refine z_iload_n 75 C0 2 dX7_firstWrong_74 rfl rfl rfl ?_
                  refine z_icmp_geN 78 354 C0 (by omega) (by omega) dX7_firstWrong_75 rfl (by decide) (fun k75 => ?_) (fun k75 => ?_)
                  · skip
                    refine z_goto 61 C0 dX7_firstWrong_354 (by decide) ?_
                    refine z_loc [0, 1, 2, 3, 4, 5] [(0, .ref y), (1, .int (nI p)), (2, .int (nI (ln p))), (3, .ref q8), (4, .ref q49), (5, .int (nI m1))] rfl ?_
                    exact ih61 rs1 wr1 m1 hF1 (fun q => by have := hS1 q; obtain rfl : i = ln p := (by omega); exact this) hmm1 (by omega)
                  · skip
                    refine z_iconst 79 C0 (v := (nI 0)) dX7_firstWrong_78 rfl rfl ?_
                    refine z_istore 81 C0 [1, 2, 3, 4, 5, 6, 7, 0] [(0, .ref y), (1, .int (nI p)), (2, .int (nI (ln p))), (3, .ref q8), (4, .ref q49), (5, .int (nI m1)), (6, .int (nI i)), (7, .int (nI 0))] dX7_firstWrong_79 rfl (by decide) rfl ?_
                    refine z_iconst 82 C0 (v := (nI 0)) dX7_firstWrong_81 rfl rfl ?_
                    refine z_istore 84 C0 [1, 2, 3, 4, 5, 6, 7, 8, 0] [(0, .ref y), (1, .int (nI p)), (2, .int (nI (ln p))), (3, .ref q8), (4, .ref q49), (5, .int (nI m1)), (6, .int (nI i)), (7, .int (nI 0)), (8, .int (nI 0))] dX7_firstWrong_82 rfl (by decide) rfl ?_
                    have CUT84 : ∀ (N84 : Nat) (rs2 : Nat → Nat) (wr2 : Nat → Nat) (m2 : Nat) (h : Nat) (c : Nat), (fwP p op nn (ln p) rs2 wr2) → (h ≤ 9) → (c ≤ h) → (m2 = 0 → fwPS rs2 wr2 i) → (fwH p op nn (ln p) rs2 wr2 i h c m2) → (m2 ≤ 1) → (fwMu (ln p) rs2 + m2 ≤ fwMu (ln p) rs0) → 9 - h < N84 → Z E p_ l_ e_ ({ frames := 1, cells := 2, slots := 640, locals := 24 } : Room) s_ m_ args_ below_ meth_ c_ (MQ below_ (va_Qi (fun r_ w_ => ∃ r2 : Int32, (r_ = r2 ∧ w_ = [(y, zo 7 [.int (nI sz), .ref yrk, .ref yrv, .int (nI rn), .ref yop, .ref ynu, .ref yle, .ref yk, .ref yv, .ref ysp, .int (nI prs), .ref yxk, .ref yxv, .int (nI rs), .int err, .ref yto, .ref yst, .ref ylo, .int (nI stp), .int res, .int (nI wo)]), (yop, zg E 4 oo), (ra, zi E 64 op), (ynu, zg E 4 nu), (rb, zi E 64 nn), (yle, zi E 4 (zn ln))]) ∧ (fwR p op nn (ln p) r2)) (zPost E A_) A_) args_ s_ 2 640 A_) A_ 13 84 [(0, .ref y), (1, .int (nI p)), (2, .int (nI (ln p))), (3, .ref q8), (4, .ref q49), (5, .int (nI m2)), (6, .int (nI i)), (7, .int (nI c)), (8, .int (nI h))] [] [(y, zo 7 [.int (nI sz), .ref yrk, .ref yrv, .int (nI rn), .ref yop, .ref ynu, .ref yle, .ref yk, .ref yv, .ref ysp, .int (nI prs), .ref yxk, .ref yxv, .int (nI rs), .int err, .ref yto, .ref yst, .ref ylo, .int (nI stp), .int res, .int (nI wo)]), (yop, zg E 4 oo), (ra, zi E 64 op), (ynu, zg E 4 nu), (rb, zi E 64 nn), (yle, zi E 4 (zn ln)), (q8, zi E (ln p) (zn wr2)), (q49, zi E (9 * (ln p)) (zn rs2))] 2 640 := by
                      intro N84
                      induction N84 with
                      | zero => intro rs2 wr2 m2 h c hF2 hh hc hS2 hH2 hmm2 hmu2 hm84; exact absurd hm84 (Nat.not_lt_zero _)
                      | succ N84 ih84 =>
                        intro rs2 wr2 m2 h c hF2 hh hc hS2 hH2 hmm2 hmu2 hm84
                        have hb := hF2.1.2.2.2.2.1 (9 * i + h)
                        have hiL : i < ln p := by omega
                        refine z_iload 86 C0 8 dX7_firstWrong_84 rfl rfl ?_
                        refine z_bipush 88 C0 (v := (nI 9)) dX7_firstWrong_86 rfl rfl ?_
                        refine z_icmp_geN 91 348 C0 (by omega) (by decide) dX7_firstWrong_88 rfl (by decide) (fun k88 => ?_) (fun k88 => ?_)
                        · skip
                          refine z_iinc 351 C0 6 [1, 2, 3, 4, 5, 6, 0, 7, 8] [(0, .ref y), (1, .int (nI p)), (2, .int (nI (ln p))), (3, .ref q8), (4, .ref q49), (5, .int (nI m2)), (6, .int (nI (i + 1))), (7, .int (nI c)), (8, .int (nI h))] (v := (nI (i + 1))) dX7_firstWrong_348 rfl rfl (z_incN _ _) (by decide) rfl ?_
                          refine z_goto 72 C0 dX7_firstWrong_351 (by decide) ?_
                          refine z_loc [0, 1, 2, 3, 4, 5, 6] [(0, .ref y), (1, .int (nI p)), (2, .int (nI (ln p))), (3, .ref q8), (4, .ref q49), (5, .int (nI m2)), (6, .int (nI (i + 1)))] rfl ?_
                          exact ih72 rs2 wr2 m2 (i + 1) hF2 (by omega) (fun q => by obtain rfl : h = 9 := (by omega); exact (hS2 q).next (by rw [← q]; exact hH2)) hmm2 hmu2 (by omega)
                        · skip
                          have h9 : h < 9 := by omega
                          have CUT122 : ∀ (wr3 : Nat → Nat), (fwP p op nn (ln p) rs2 wr3) → (m2 = 0 → fwPS rs2 wr3 i) → (rs2 (9 * i + h) = 2 → fwH p op nn (ln p) rs2 wr3 i (h + 1) (c + 1) m2) → (rs2 (9 * i + h) ≠ 0) → Z E p_ l_ e_ ({ frames := 1, cells := 2, slots := 640, locals := 24 } : Room) s_ m_ args_ below_ meth_ c_ (MQ below_ (va_Qi (fun r_ w_ => ∃ r2 : Int32, (r_ = r2 ∧ w_ = [(y, zo 7 [.int (nI sz), .ref yrk, .ref yrv, .int (nI rn), .ref yop, .ref ynu, .ref yle, .ref yk, .ref yv, .ref ysp, .int (nI prs), .ref yxk, .ref yxv, .int (nI rs), .int err, .ref yto, .ref yst, .ref ylo, .int (nI stp), .int res, .int (nI wo)]), (yop, zg E 4 oo), (ra, zi E 64 op), (ynu, zg E 4 nu), (rb, zi E 64 nn), (yle, zi E 4 (zn ln))]) ∧ (fwR p op nn (ln p) r2)) (zPost E A_) A_) args_ s_ 2 640 A_) A_ 13 122 [(0, .ref y), (1, .int (nI p)), (2, .int (nI (ln p))), (3, .ref q8), (4, .ref q49), (5, .int (nI m2)), (6, .int (nI i)), (7, .int (nI (c + 1))), (8, .int (nI h))] [] [(y, zo 7 [.int (nI sz), .ref yrk, .ref yrv, .int (nI rn), .ref yop, .ref ynu, .ref yle, .ref yk, .ref yv, .ref ysp, .int (nI prs), .ref yxk, .ref yxv, .int (nI rs), .int err, .ref yto, .ref yst, .ref ylo, .int (nI stp), .int res, .int (nI wo)]), (yop, zg E 4 oo), (ra, zi E 64 op), (ynu, zg E 4 nu), (rb, zi E 64 nn), (yle, zi E 4 (zn ln)), (q8, zi E (ln p) (zn wr3)), (q49, zi E (9 * (ln p)) (zn rs2))] 2 640 := by
                            intro wr3 hF3 hS3 hH3 hnz
                            have hR : Rch p op nn (ln p) i h := hF2.1.1 i h hiL h9 hnz
                            refine z_aload 124 C0 4 dX7_firstWrong_122 rfl rfl ?_
                            refine z_bipush 126 C0 (v := (nI 9)) dX7_firstWrong_124 rfl rfl ?_
                            refine z_iload 128 C0 6 dX7_firstWrong_126 rfl rfl ?_
                            refine z_imul 129 C0 (v := (nI (9 * i))) dX7_firstWrong_128 rfl (pk_mul _ _) ?_
                            refine z_iload 131 C0 8 dX7_firstWrong_129 rfl rfl ?_
                            refine z_iadd 132 C0 (v := (nI ((9 * i) + h))) dX7_firstWrong_131 rfl (nI_add _ _) ?_
                            refine z_ialdN 133 C0 7 (v := (nI (rs2 ((9 * i) + h)))) dX7_firstWrong_132 rfl rfl (by omega) (by omega) rfl ?_
                            refine z_iconst 134 C0 (v := (nI 2)) dX7_firstWrong_133 rfl rfl ?_
                            refine z_icmp_neN 137 140 C0 (by omega) (by decide) dX7_firstWrong_134 rfl (by decide) (fun k134 => ?_) (fun k134 => ?_)
                            · skip
                              have hmu3 : fwMu (ln p) (va_up rs2 ((9 * i) + h) 2) + 1 ≤ fwMu (ln p) rs0 := by have := fwMu_up (len := ln p) (k := 9 * i + h) (v := 2) (rs := rs2) (by omega) (by omega) (Nat.le_refl 2); omega
                              have hQ3 : fwQ p op nn (ln p) (va_up rs2 ((9 * i) + h) 2) wr3 i h := hF3.mark2 hiL h9 hnz
                              refine z_aload 142 C0 4 dX7_firstWrong_140 rfl rfl ?_
                              refine z_bipush 144 C0 (v := (nI 9)) dX7_firstWrong_142 rfl rfl ?_
                              refine z_iload 146 C0 6 dX7_firstWrong_144 rfl rfl ?_
                              refine z_imul 147 C0 (v := (nI (9 * i))) dX7_firstWrong_146 rfl (pk_mul _ _) ?_
                              refine z_iload 149 C0 8 dX7_firstWrong_147 rfl rfl ?_
                              refine z_iadd 150 C0 (v := (nI ((9 * i) + h))) dX7_firstWrong_149 rfl (nI_add _ _) ?_
                              refine z_iconst 151 C0 (v := (nI 2)) dX7_firstWrong_150 rfl rfl ?_
                              refine z_iastN 152 C0 7 [(y, zo 7 [.int (nI sz), .ref yrk, .ref yrv, .int (nI rn), .ref yop, .ref ynu, .ref yle, .ref yk, .ref yv, .ref ysp, .int (nI prs), .ref yxk, .ref yxv, .int (nI rs), .int err, .ref yto, .ref yst, .ref ylo, .int (nI stp), .int res, .int (nI wo)]), (yop, zg E 4 oo), (ra, zi E 64 op), (ynu, zg E 4 nu), (rb, zi E 64 nn), (yle, zi E 4 (zn ln)), (q8, zi E (ln p) (zn wr3)), (q49, zi E (9 * (ln p)) (zn (va_up rs2 ((9 * i) + h) 2)))] dX7_firstWrong_151 rfl rfl (by omega) (by omega) (by rw [z_upN]; rfl) ?_
                              refine z_iconst 153 C0 (v := (nI 1)) dX7_firstWrong_152 rfl rfl ?_
                              refine z_istore 155 C0 [1, 2, 3, 4, 5, 0, 6, 7, 8] [(0, .ref y), (1, .int (nI p)), (2, .int (nI (ln p))), (3, .ref q8), (4, .ref q49), (5, .int (nI 1)), (6, .int (nI i)), (7, .int (nI (c + 1))), (8, .int (nI h))] dX7_firstWrong_153 rfl (by decide) rfl ?_
                              refine z_aload_n 156 C0 0 dX7_firstWrong_155 rfl rfl rfl ?_
                              refine z_iload_n 157 C0 1 dX7_firstWrong_156 rfl rfl rfl ?_
                              refine z_iload 159 C0 6 dX7_firstWrong_157 rfl rfl ?_
                              refine z_callVi 162 C0 [0, 1, 2, 3, 4, 5] [6, 7] [(q8, zi E (ln p) (zn wr3)), (q49, zi E (9 * (ln p)) (zn (va_up rs2 ((9 * i) + h) 2)))] 2 640 (As := [.int (nI p), .int (nI i)]) (T := TX7) (N := 21) (C := RX7) (ci := 7) (n := 2) 0 (isBad l_ E y sz yrk yrv rn yop ynu yle yk yv ysp prs yxk yxv rs err yto yst ylo stp res wo p oo nu ra rb op nn ln i (by omega) (by omega) (by omega) (by omega) (by omega)) (zGIV (fun _ => zTs_in) wk_542 wk_539 wk_541 wk_3 wk_20) rfl ⟨rfl, by decide, by decide, by decide +kernel⟩ rfl rfl rfl rfl (by decide) rfl rfl (Nat.le_of_ble_eq_true rfl) ⟨by decide, by decide⟩ rfl rfl ⟨by decide, by decide⟩ ⟨by decide, by decide⟩ dX7_firstWrong_159 rfl (fun r159 w159 hB159 => ?_)
                              obtain ⟨rfl, rfl⟩ := hB159
                              refine z_perm [2, 3, 4, 5, 6, 7, 0, 1] [(y, zo 7 [.int (nI sz), .ref yrk, .ref yrv, .int (nI rn), .ref yop, .ref ynu, .ref yle, .ref yk, .ref yv, .ref ysp, .int (nI prs), .ref yxk, .ref yxv, .int (nI rs), .int err, .ref yto, .ref yst, .ref ylo, .int (nI stp), .int res, .int (nI wo)]), (yop, zg E 4 oo), (ra, zi E 64 op), (ynu, zg E 4 nu), (rb, zi E 64 nn), (yle, zi E 4 (zn ln)), (q8, zi E (ln p) (zn wr3)), (q49, zi E (9 * (ln p)) (zn (va_up rs2 ((9 * i) + h) 2)))] (by decide) rfl ?_
                              refine z_if_eqP 165 168 C0 dX7_firstWrong_162 rfl (by decide) (fun k162 => ?_) (fun k162 => ?_)
                              · skip
                                obtain ⟨o, ho⟩ : ∃ o, pOK p op nn (ln p) i o := Classical.byContradiction fun q => (k162 q)
                                have h18 := ho.1
                                rcases (show o = 14 ∨ o = 15 ∨ o = 17 ∨ o = 18 ∨ (o ≠ 14 ∧ o ≠ 15 ∧ o ≠ 17 ∧ o ≠ 18) by omega) with rfl | rfl | rfl | rfl | hx
                                · skip
                                  have hpn := pNeed_le (kd := p) h18
                                  refine z_aload_n 169 C0 0 dX7_firstWrong_168 rfl rfl rfl ?_
                                  refine z_get 172 C0 0 4 wz_7 rfl (by decide) (zTs_in wk_452) dX7_firstWrong_169 rfl rfl rfl ?_
                                  refine z_iload_n 173 C0 1 dX7_firstWrong_172 rfl rfl rfl ?_
                                  refine z_aald 174 C0 1 2 dX7_firstWrong_173 rfl rfl rfl rfl (by omega) (by decide) (v := .ref ra) (by rw [hoo]; rfl) ?_
                                  refine z_iload 176 C0 6 dX7_firstWrong_174 rfl rfl ?_
                                  refine z_ialdN 177 C0 2 (v := (nI 14)) dX7_firstWrong_176 rfl rfl (by omega) (by decide) ho.2.1 ?_
                                  refine z_istore 179 C0 [1, 2, 3, 4, 5, 6, 7, 8, 9, 0] [(0, .ref y), (1, .int (nI p)), (2, .int (nI (ln p))), (3, .ref q8), (4, .ref q49), (5, .int (nI 1)), (6, .int (nI i)), (7, .int (nI (c + 1))), (8, .int (nI h)), (9, .int (nI 14))] dX7_firstWrong_177 rfl (by decide) rfl ?_
                                  refine z_iload 181 C0 8 dX7_firstWrong_179 rfl rfl ?_
                                  refine z_iload 183 C0 9 dX7_firstWrong_181 rfl rfl ?_
                                  refine z_callSi 186 C0 [] [0, 1, 2, 3, 4, 5, 6, 7] [(y, zo 7 [.int (nI sz), .ref yrk, .ref yrv, .int (nI rn), .ref yop, .ref ynu, .ref yle, .ref yk, .ref yv, .ref ysp, .int (nI prs), .ref yxk, .ref yxv, .int (nI rs), .int err, .ref yto, .ref yst, .ref ylo, .int (nI stp), .int res, .int (nI wo)]), (yop, zg E 4 oo), (ra, zi E 64 op), (ynu, zg E 4 nu), (rb, zi E 64 nn), (yle, zi E 4 (zn ln)), (q8, zi E (ln p) (zn wr3)), (q49, zi E (9 * (ln p)) (zn (va_up rs2 ((9 * i) + h) 2)))] 2 640 (As := [.int (nI 14)]) (n := 1) (grows l_ E 14 (by omega)) (zGIS (fun _ => zTs_in) wk_547 wk_545 wk_546 wk_20) rfl ⟨by decide, by decide, by decide +kernel⟩ rfl rfl (by decide) rfl rfl (Nat.le_of_ble_eq_true rfl) ⟨by decide, by decide⟩ rfl rfl ⟨by decide, by decide⟩ ⟨by decide, by decide⟩ dX7_firstWrong_183 rfl (fun r183 w183 hB183 => ?_)
                                  obtain ⟨rfl, rfl⟩ := hB183
                                  refine z_perm [0, 1, 2, 3, 4, 5, 6, 7] [(y, zo 7 [.int (nI sz), .ref yrk, .ref yrv, .int (nI rn), .ref yop, .ref ynu, .ref yle, .ref yk, .ref yv, .ref ysp, .int (nI prs), .ref yxk, .ref yxv, .int (nI rs), .int err, .ref yto, .ref yst, .ref ylo, .int (nI stp), .int res, .int (nI wo)]), (yop, zg E 4 oo), (ra, zi E 64 op), (ynu, zg E 4 nu), (rb, zi E 64 nn), (yle, zi E 4 (zn ln)), (q8, zi E (ln p) (zn wr3)), (q49, zi E (9 * (ln p)) (zn (va_up rs2 ((9 * i) + h) 2)))] (by decide) rfl ?_
                                  refine z_iadd 187 C0 (v := ((nI h) + (zGrow 14))) dX7_firstWrong_186 rfl rfl ?_
                                  refine z_istore 189 C0 [1, 2, 3, 4, 5, 6, 7, 8, 9, 10, 0] [(0, .ref y), (1, .int (nI p)), (2, .int (nI (ln p))), (3, .ref q8), (4, .ref q49), (5, .int (nI 1)), (6, .int (nI i)), (7, .int (nI (c + 1))), (8, .int (nI h)), (9, .int (nI 14)), (10, .int ((nI h) + (zGrow 14)))] dX7_firstWrong_187 rfl (by decide) rfl ?_
                                  refine z_iload 191 C0 9 dX7_firstWrong_189 rfl rfl ?_
                                  refine z_bipush 193 C0 (v := (nI 14)) dX7_firstWrong_191 rfl rfl ?_
                                  refine z_icmp_eqN 196 214 C0 (by decide) (by decide) dX7_firstWrong_193 rfl (by decide) (fun k193 => ?_) (fun k193 => absurd k193 (by omega))
                                  refine z_iconst 215 C0 (v := (nI 0)) dX7_firstWrong_214 rfl rfl ?_
                                  refine z_istore 217 C0 [1, 2, 3, 4, 5, 6, 7, 8, 9, 10, 11, 0] [(0, .ref y), (1, .int (nI p)), (2, .int (nI (ln p))), (3, .ref q8), (4, .ref q49), (5, .int (nI 1)), (6, .int (nI i)), (7, .int (nI (c + 1))), (8, .int (nI h)), (9, .int (nI 14)), (10, .int ((nI h) + (zGrow 14))), (11, .int (nI 0))] dX7_firstWrong_215 rfl (by decide) rfl ?_
                                  refine z_iload 219 C0 8 dX7_firstWrong_217 rfl rfl ?_
                                  refine z_iload_n 220 C0 1 dX7_firstWrong_219 rfl rfl rfl ?_
                                  refine z_iload 222 C0 9 dX7_firstWrong_220 rfl rfl ?_
                                  refine z_callSi 225 C0 [] [0, 1, 2, 3, 4, 5, 6, 7] [(y, zo 7 [.int (nI sz), .ref yrk, .ref yrv, .int (nI rn), .ref yop, .ref ynu, .ref yle, .ref yk, .ref yv, .ref ysp, .int (nI prs), .ref yxk, .ref yxv, .int (nI rs), .int err, .ref yto, .ref yst, .ref ylo, .int (nI stp), .int res, .int (nI wo)]), (yop, zg E 4 oo), (ra, zi E 64 op), (ynu, zg E 4 nu), (rb, zi E 64 nn), (yle, zi E 4 (zn ln)), (q8, zi E (ln p) (zn wr3)), (q49, zi E (9 * (ln p)) (zn (va_up rs2 ((9 * i) + h) 2)))] 2 640 (As := [.int (nI p), .int (nI 14)]) (n := 2) (needs l_ E p 14 (by omega) (by omega)) (zGIS (fun _ => zTs_in) wk_550 wk_548 wk_549 wk_20) rfl ⟨by decide, by decide, by decide +kernel⟩ rfl rfl (by decide) rfl rfl (Nat.le_of_ble_eq_true rfl) ⟨by decide, by decide⟩ rfl rfl ⟨by decide, by decide⟩ ⟨by decide, by decide⟩ dX7_firstWrong_222 rfl (fun r222 w222 hB222 => ?_)
                                  obtain ⟨rfl, rfl⟩ := hB222
                                  refine z_perm [0, 1, 2, 3, 4, 5, 6, 7] [(y, zo 7 [.int (nI sz), .ref yrk, .ref yrv, .int (nI rn), .ref yop, .ref ynu, .ref yle, .ref yk, .ref yv, .ref ysp, .int (nI prs), .ref yxk, .ref yxv, .int (nI rs), .int err, .ref yto, .ref yst, .ref ylo, .int (nI stp), .int res, .int (nI wo)]), (yop, zg E 4 oo), (ra, zi E 64 op), (ynu, zg E 4 nu), (rb, zi E 64 nn), (yle, zi E 4 (zn ln)), (q8, zi E (ln p) (zn wr3)), (q49, zi E (9 * (ln p)) (zn (va_up rs2 ((9 * i) + h) 2)))] (by decide) rfl ?_
                                  refine z_icmp_ltN 228 248 C0 (by omega) (by omega) dX7_firstWrong_225 rfl (by decide) (fun k225 => ?_) (fun k225 => ?_)
                                  · skip
                                    refine z_aload_n 249 C0 3 dX7_firstWrong_248 rfl rfl rfl ?_
                                    refine z_iload 251 C0 6 dX7_firstWrong_249 rfl rfl ?_
                                    refine z_iconst 252 C0 (v := (nI 1)) dX7_firstWrong_251 rfl rfl ?_
                                    refine z_iastN 253 C0 6 [(y, zo 7 [.int (nI sz), .ref yrk, .ref yrv, .int (nI rn), .ref yop, .ref ynu, .ref yle, .ref yk, .ref yv, .ref ysp, .int (nI prs), .ref yxk, .ref yxv, .int (nI rs), .int err, .ref yto, .ref yst, .ref ylo, .int (nI stp), .int res, .int (nI wo)]), (yop, zg E 4 oo), (ra, zi E 64 op), (ynu, zg E 4 nu), (rb, zi E 64 nn), (yle, zi E 4 (zn ln)), (q8, zi E (ln p) (zn (va_up wr3 i 1))), (q49, zi E (9 * (ln p)) (zn (va_up rs2 ((9 * i) + h) 2)))] dX7_firstWrong_252 rfl rfl (by omega) (by omega) (by rw [z_upN]; rfl) ?_
                                    refine z_goto 342 C0 dX7_firstWrong_253 (by decide) ?_
                                    refine z_iinc 345 C0 8 [1, 2, 3, 4, 5, 6, 7, 8, 0, 9, 10, 11] [(0, .ref y), (1, .int (nI p)), (2, .int (nI (ln p))), (3, .ref q8), (4, .ref q49), (5, .int (nI 1)), (6, .int (nI i)), (7, .int (nI (c + 1))), (8, .int (nI (h + 1))), (9, .int (nI 14)), (10, .int ((nI h) + (zGrow 14))), (11, .int (nI 0))] (v := (nI (h + 1))) dX7_firstWrong_342 rfl rfl (z_incN _ _) (by decide) rfl ?_
                                    refine z_goto 84 C0 dX7_firstWrong_345 (by decide) ?_
                                    refine z_loc [0, 1, 2, 3, 4, 5, 6, 7, 8] [(0, .ref y), (1, .int (nI p)), (2, .int (nI (ln p))), (3, .ref q8), (4, .ref q49), (5, .int (nI 1)), (6, .int (nI i)), (7, .int (nI (c + 1))), (8, .int (nI (h + 1)))] rfl ?_
                                    exact ih84 (va_up rs2 ((9 * i) + h) 2) (va_up wr3 i 1) 1 (h + 1) (c + 1) (hQ3.wrong hR ho (fun z => by have z1 := z.2.2.1; have z2 := z.2.2.2; have z3 := z.2.1; first | omega | (have z4 := z3 (by unfold hasNx; omega); omega))) (by omega) (by omega) (fun q => absurd q (by decide)) (fwH.m1 hR rfl) (Nat.le_refl 1) hmu3 (by omega)
                                  · skip
                                    have hgu := (gD_le h18).2.1
                                    have hnd : gD 14 ≤ h := pNeed_gD (kd := p) h18 (by omega)
                                    refine z_eq (L1 := [(0, .ref y), (1, .int (nI p)), (2, .int (nI (ln p))), (3, .ref q8), (4, .ref q49), (5, .int (nI 1)), (6, .int (nI i)), (7, .int (nI (c + 1))), (8, .int (nI h)), (9, .int (nI 14)), (10, .int (nI (h + gU 14 - gD 14))), (11, .int (nI 0))]) (st1 := []) (w1 := [(y, zo 7 [.int (nI sz), .ref yrk, .ref yrv, .int (nI rn), .ref yop, .ref ynu, .ref yle, .ref yk, .ref yv, .ref ysp, .int (nI prs), .ref yxk, .ref yxv, .int (nI rs), .int err, .ref yto, .ref yst, .ref ylo, .int (nI stp), .int res, .int (nI wo)]), (yop, zg E 4 oo), (ra, zi E 64 op), (ynu, zg E 4 nu), (rb, zi E 64 nn), (yle, zi E 4 (zn ln)), (q8, zi E (ln p) (zn wr3)), (q49, zi E (9 * (ln p)) (zn (va_up rs2 ((9 * i) + h) 2)))]) (by rw [grow_eq h18 hnd]) rfl rfl ?_
                                    refine z_iload 230 C0 10 dX7_firstWrong_228 rfl rfl ?_
                                    refine z_bipush 232 C0 (v := (nI 8)) dX7_firstWrong_230 rfl rfl ?_
                                    refine z_icmp_gtN 235 248 C0 (by omega) (by decide) dX7_firstWrong_232 rfl (by decide) (fun k232 => ?_) (fun k232 => ?_)
                                    · skip
                                      refine z_aload_n 249 C0 3 dX7_firstWrong_248 rfl rfl rfl ?_
                                      refine z_iload 251 C0 6 dX7_firstWrong_249 rfl rfl ?_
                                      refine z_iconst 252 C0 (v := (nI 1)) dX7_firstWrong_251 rfl rfl ?_
                                      refine z_iastN 253 C0 6 [(y, zo 7 [.int (nI sz), .ref yrk, .ref yrv, .int (nI rn), .ref yop, .ref ynu, .ref yle, .ref yk, .ref yv, .ref ysp, .int (nI prs), .ref yxk, .ref yxv, .int (nI rs), .int err, .ref yto, .ref yst, .ref ylo, .int (nI stp), .int res, .int (nI wo)]), (yop, zg E 4 oo), (ra, zi E 64 op), (ynu, zg E 4 nu), (rb, zi E 64 nn), (yle, zi E 4 (zn ln)), (q8, zi E (ln p) (zn (va_up wr3 i 1))), (q49, zi E (9 * (ln p)) (zn (va_up rs2 ((9 * i) + h) 2)))] dX7_firstWrong_252 rfl rfl (by omega) (by omega) (by rw [z_upN]; rfl) ?_
                                      refine z_goto 342 C0 dX7_firstWrong_253 (by decide) ?_
                                      refine z_iinc 345 C0 8 [1, 2, 3, 4, 5, 6, 7, 8, 0, 9, 10, 11] [(0, .ref y), (1, .int (nI p)), (2, .int (nI (ln p))), (3, .ref q8), (4, .ref q49), (5, .int (nI 1)), (6, .int (nI i)), (7, .int (nI (c + 1))), (8, .int (nI (h + 1))), (9, .int (nI 14)), (10, .int (nI (h + gU 14 - gD 14))), (11, .int (nI 0))] (v := (nI (h + 1))) dX7_firstWrong_342 rfl rfl (z_incN _ _) (by decide) rfl ?_
                                      refine z_goto 84 C0 dX7_firstWrong_345 (by decide) ?_
                                      refine z_loc [0, 1, 2, 3, 4, 5, 6, 7, 8] [(0, .ref y), (1, .int (nI p)), (2, .int (nI (ln p))), (3, .ref q8), (4, .ref q49), (5, .int (nI 1)), (6, .int (nI i)), (7, .int (nI (c + 1))), (8, .int (nI (h + 1)))] rfl ?_
                                      exact ih84 (va_up rs2 ((9 * i) + h) 2) (va_up wr3 i 1) 1 (h + 1) (c + 1) (hQ3.wrong hR ho (fun z => by have z1 := z.2.2.1; have z2 := z.2.2.2; have z3 := z.2.1; first | omega | (have z4 := z3 (by unfold hasNx; omega); omega))) (by omega) (by omega) (fun q => absurd q (by decide)) (fwH.m1 hR rfl) (Nat.le_refl 1) hmu3 (by omega)
                                    · skip
                                      refine z_iload 237 C0 11 dX7_firstWrong_235 rfl rfl ?_
                                      refine z_if_eqN 240 256 C0 (by decide) dX7_firstWrong_237 rfl (by decide) (fun k237 => ?_) (fun k237 => absurd k237 (by omega))
                                      have hok : okS p op nn (ln p) i h 14 := ⟨ho, fun q => absurd rfl q.1, by omega, by omega⟩
                                      have CUT291 : ∀ (rs4 : Nat → Nat), (fwQ p op nn (ln p) rs4 wr3 i h) → (fwMu (ln p) rs4 + 1 ≤ fwMu (ln p) rs0) → (hasNx 14 → rs4 (9 * (i + 1) + (h + gU 14 - gD 14)) ≠ 0) → Z E p_ l_ e_ ({ frames := 1, cells := 2, slots := 640, locals := 24 } : Room) s_ m_ args_ below_ meth_ c_ (MQ below_ (va_Qi (fun r_ w_ => ∃ r2 : Int32, (r_ = r2 ∧ w_ = [(y, zo 7 [.int (nI sz), .ref yrk, .ref yrv, .int (nI rn), .ref yop, .ref ynu, .ref yle, .ref yk, .ref yv, .ref ysp, .int (nI prs), .ref yxk, .ref yxv, .int (nI rs), .int err, .ref yto, .ref yst, .ref ylo, .int (nI stp), .int res, .int (nI wo)]), (yop, zg E 4 oo), (ra, zi E 64 op), (ynu, zg E 4 nu), (rb, zi E 64 nn), (yle, zi E 4 (zn ln))]) ∧ (fwR p op nn (ln p) r2)) (zPost E A_) A_) args_ s_ 2 640 A_) A_ 13 291 [(0, .ref y), (1, .int (nI p)), (2, .int (nI (ln p))), (3, .ref q8), (4, .ref q49), (5, .int (nI 1)), (6, .int (nI i)), (7, .int (nI (c + 1))), (8, .int (nI h)), (9, .int (nI 14)), (10, .int (nI (h + gU 14 - gD 14)))] [] [(y, zo 7 [.int (nI sz), .ref yrk, .ref yrv, .int (nI rn), .ref yop, .ref ynu, .ref yle, .ref yk, .ref yv, .ref ysp, .int (nI prs), .ref yxk, .ref yxv, .int (nI rs), .int err, .ref yto, .ref yst, .ref ylo, .int (nI stp), .int res, .int (nI wo)]), (yop, zg E 4 oo), (ra, zi E 64 op), (ynu, zg E 4 nu), (rb, zi E 64 nn), (yle, zi E 4 (zn ln)), (q8, zi E (ln p) (zn wr3)), (q49, zi E (9 * (ln p)) (zn rs4))] 2 640 := by
                                        intro rs4 hQ4 hmu4 hN4
                                        refine z_aload_n 292 C0 0 dX7_firstWrong_291 rfl rfl rfl ?_
                                        refine z_get 295 C0 0 5 wz_7 rfl (by decide) (zTs_in wk_453) dX7_firstWrong_292 rfl rfl rfl ?_
                                        refine z_iload_n 296 C0 1 dX7_firstWrong_295 rfl rfl rfl ?_
                                        refine z_aald 297 C0 3 2 dX7_firstWrong_296 rfl rfl rfl rfl (by omega) (by decide) (v := .ref rb) (by rw [hnu]; rfl) ?_
                                        refine z_iload 299 C0 6 dX7_firstWrong_297 rfl rfl ?_
                                        refine z_ialdN 300 C0 4 (v := (nn i)) dX7_firstWrong_299 rfl rfl (by omega) (by decide) rfl ?_
                                        refine z_istore 302 C0 [1, 2, 3, 4, 5, 6, 7, 8, 9, 10, 11, 0] [(0, .ref y), (1, .int (nI p)), (2, .int (nI (ln p))), (3, .ref q8), (4, .ref q49), (5, .int (nI 1)), (6, .int (nI i)), (7, .int (nI (c + 1))), (8, .int (nI h)), (9, .int (nI 14)), (10, .int (nI (h + gU 14 - gD 14))), (12, .int (nn i))] dX7_firstWrong_300 rfl (by decide) rfl ?_
                                        refine z_iload 304 C0 9 dX7_firstWrong_302 rfl rfl ?_
                                        refine z_bipush 306 C0 (v := (nI 14)) dX7_firstWrong_304 rfl rfl ?_
                                        refine z_icmp_eqN 309 316 C0 (by decide) (by decide) dX7_firstWrong_306 rfl (by decide) (fun k306 => ?_) (fun k306 => absurd k306 (by omega))
                                        obtain ⟨j, hj, hnj⟩ := ho.2.2.2.2.2.2 (by decide)
                                        have hlj : h + gU 14 - gD 14 < 9 := Nat.lt_succ_of_le hok.2.2.2
                                        have hbj := hQ4.1.2.2.2.2.1 (9 * j + (h + gU 14 - gD 14))
                                        refine z_eq (L1 := [(0, .ref y), (1, .int (nI p)), (2, .int (nI (ln p))), (3, .ref q8), (4, .ref q49), (5, .int (nI 1)), (6, .int (nI i)), (7, .int (nI (c + 1))), (8, .int (nI h)), (9, .int (nI 14)), (10, .int (nI (h + gU 14 - gD 14))), (12, .int (nI j))]) (st1 := []) (w1 := [(y, zo 7 [.int (nI sz), .ref yrk, .ref yrv, .int (nI rn), .ref yop, .ref ynu, .ref yle, .ref yk, .ref yv, .ref ysp, .int (nI prs), .ref yxk, .ref yxv, .int (nI rs), .int err, .ref yto, .ref yst, .ref ylo, .int (nI stp), .int res, .int (nI wo)]), (yop, zg E 4 oo), (ra, zi E 64 op), (ynu, zg E 4 nu), (rb, zi E 64 nn), (yle, zi E 4 (zn ln)), (q8, zi E (ln p) (zn wr3)), (q49, zi E (9 * (ln p)) (zn rs4))]) (by rw [hnj]) rfl rfl ?_
                                        refine z_aload 318 C0 4 dX7_firstWrong_316 rfl rfl ?_
                                        refine z_bipush 320 C0 (v := (nI 9)) dX7_firstWrong_318 rfl rfl ?_
                                        refine z_iload 322 C0 11 dX7_firstWrong_320 rfl rfl ?_
                                        refine z_imul 323 C0 (v := (nI (9 * j))) dX7_firstWrong_322 rfl (pk_mul _ _) ?_
                                        refine z_iload 325 C0 10 dX7_firstWrong_323 rfl rfl ?_
                                        refine z_iadd 326 C0 (v := (nI ((9 * j) + (h + gU 14 - gD 14)))) dX7_firstWrong_325 rfl (nI_add _ _) ?_
                                        refine z_ialdN 327 C0 7 (v := (nI (rs4 ((9 * j) + (h + gU 14 - gD 14))))) dX7_firstWrong_326 rfl rfl (by omega) (by omega) rfl ?_
                                        refine z_if_neN 330 342 C0 (by omega) dX7_firstWrong_327 rfl (by decide) (fun k327 => ?_) (fun k327 => ?_)
                                        · skip
                                          refine z_iinc 345 C0 8 [1, 2, 3, 4, 5, 6, 7, 8, 0, 9, 10, 11] [(0, .ref y), (1, .int (nI p)), (2, .int (nI (ln p))), (3, .ref q8), (4, .ref q49), (5, .int (nI 1)), (6, .int (nI i)), (7, .int (nI (c + 1))), (8, .int (nI (h + 1))), (9, .int (nI 14)), (10, .int (nI (h + gU 14 - gD 14))), (12, .int (nI j))] (v := (nI (h + 1))) dX7_firstWrong_342 rfl rfl (z_incN _ _) (by decide) rfl ?_
                                          refine z_goto 84 C0 dX7_firstWrong_345 (by decide) ?_
                                          refine z_loc [0, 1, 2, 3, 4, 5, 6, 7, 8] [(0, .ref y), (1, .int (nI p)), (2, .int (nI (ln p))), (3, .ref q8), (4, .ref q49), (5, .int (nI 1)), (6, .int (nI i)), (7, .int (nI (c + 1))), (8, .int (nI (h + 1)))] rfl ?_
                                          exact ih84 rs4 wr3 1 (h + 1) (c + 1) (hQ4.good hok hN4 (fun _ j2 hj2 hn2 => by obtain rfl : j2 = j := (nI_eq (by omega) (by omega)).mp (hn2.symm.trans hnj); exact k327)) (by omega) (by omega) (fun q => absurd q (by decide)) (fwH.m1 hR rfl) (Nat.le_refl 1) hmu4 (by omega)
                                        · skip
                                          refine z_aload 332 C0 4 dX7_firstWrong_330 rfl rfl ?_
                                          refine z_bipush 334 C0 (v := (nI 9)) dX7_firstWrong_332 rfl rfl ?_
                                          refine z_iload 336 C0 11 dX7_firstWrong_334 rfl rfl ?_
                                          refine z_imul 337 C0 (v := (nI (9 * j))) dX7_firstWrong_336 rfl (pk_mul _ _) ?_
                                          refine z_iload 339 C0 10 dX7_firstWrong_337 rfl rfl ?_
                                          refine z_iadd 340 C0 (v := (nI ((9 * j) + (h + gU 14 - gD 14)))) dX7_firstWrong_339 rfl (nI_add _ _) ?_
                                          refine z_iconst 341 C0 (v := (nI 1)) dX7_firstWrong_340 rfl rfl ?_
                                          refine z_iastN 342 C0 7 [(y, zo 7 [.int (nI sz), .ref yrk, .ref yrv, .int (nI rn), .ref yop, .ref ynu, .ref yle, .ref yk, .ref yv, .ref ysp, .int (nI prs), .ref yxk, .ref yxv, .int (nI rs), .int err, .ref yto, .ref yst, .ref ylo, .int (nI stp), .int res, .int (nI wo)]), (yop, zg E 4 oo), (ra, zi E 64 op), (ynu, zg E 4 nu), (rb, zi E 64 nn), (yle, zi E 4 (zn ln)), (q8, zi E (ln p) (zn wr3)), (q49, zi E (9 * (ln p)) (zn (va_up rs4 ((9 * j) + (h + gU 14 - gD 14)) 1)))] dX7_firstWrong_341 rfl rfl (by omega) (by omega) (by rw [z_upN]; rfl) ?_
                                          refine z_iinc 345 C0 8 [1, 2, 3, 4, 5, 6, 7, 8, 0, 9, 10, 11] [(0, .ref y), (1, .int (nI p)), (2, .int (nI (ln p))), (3, .ref q8), (4, .ref q49), (5, .int (nI 1)), (6, .int (nI i)), (7, .int (nI (c + 1))), (8, .int (nI (h + 1))), (9, .int (nI 14)), (10, .int (nI (h + gU 14 - gD 14))), (12, .int (nI j))] (v := (nI (h + 1))) dX7_firstWrong_342 rfl rfl (z_incN _ _) (by decide) rfl ?_
                                          refine z_goto 84 C0 dX7_firstWrong_345 (by decide) ?_
                                          refine z_loc [0, 1, 2, 3, 4, 5, 6, 7, 8] [(0, .ref y), (1, .int (nI p)), (2, .int (nI (ln p))), (3, .ref q8), (4, .ref q49), (5, .int (nI 1)), (6, .int (nI i)), (7, .int (nI (c + 1))), (8, .int (nI (h + 1)))] rfl ?_
                                          have hRj := hR.jump hok (by decide) hj hnj
                                          have hmu5 := fwMu_up (len := ln p) (k := 9 * j + (h + gU 14 - gD 14)) (v := 1) (rs := rs4) (by omega) (by omega) (by decide)
                                          exact ih84 (va_up rs4 ((9 * j) + (h + gU 14 - gD 14)) 1) wr3 1 (h + 1) (c + 1) ((hQ4.mark1 hj hlj hRj k327).good hok (fun z => by by_cases q : 9 * (i + 1) + (h + gU 14 - gD 14) = 9 * j + (h + gU 14 - gD 14); rw [q, vaup_at]; decide; rw [vaup_ne q]; exact hN4 z) (fun _ j2 hj2 hn2 => by obtain rfl : j2 = j := (nI_eq (by omega) (by omega)).mp (hn2.symm.trans hnj); rw [vaup_at]; decide)) (by omega) (by omega) (fun q => absurd q (by decide)) (fwH.m1 hR rfl) (Nat.le_refl 1) (by omega) (by omega)
                                      refine z_iload 258 C0 11 dX7_firstWrong_256 rfl rfl ?_
                                      refine z_if_eqN 261 291 C0 (by decide) dX7_firstWrong_258 rfl (by decide) (fun k258 => ?_) (fun k258 => absurd k258 (by omega))
                                      refine z_loc [0, 1, 2, 3, 4, 5, 6, 7, 8, 9, 10] [(0, .ref y), (1, .int (nI p)), (2, .int (nI (ln p))), (3, .ref q8), (4, .ref q49), (5, .int (nI 1)), (6, .int (nI i)), (7, .int (nI (c + 1))), (8, .int (nI h)), (9, .int (nI 14)), (10, .int (nI (h + gU 14 - gD 14)))] rfl ?_
                                      exact CUT291 (va_up rs2 ((9 * i) + h) 2) hQ3 hmu3 (fun z => by unfold hasNx at z; omega)
                                · skip
                                  have hpn := pNeed_le (kd := p) h18
                                  refine z_aload_n 169 C0 0 dX7_firstWrong_168 rfl rfl rfl ?_
                                  refine z_get 172 C0 0 4 wz_7 rfl (by decide) (zTs_in wk_452) dX7_firstWrong_169 rfl rfl rfl ?_
                                  refine z_iload_n 173 C0 1 dX7_firstWrong_172 rfl rfl rfl ?_
                                  refine z_aald 174 C0 1 2 dX7_firstWrong_173 rfl rfl rfl rfl (by omega) (by decide) (v := .ref ra) (by rw [hoo]; rfl) ?_
                                  refine z_iload 176 C0 6 dX7_firstWrong_174 rfl rfl ?_
                                  refine z_ialdN 177 C0 2 (v := (nI 15)) dX7_firstWrong_176 rfl rfl (by omega) (by decide) ho.2.1 ?_
                                  refine z_istore 179 C0 [1, 2, 3, 4, 5, 6, 7, 8, 9, 0] [(0, .ref y), (1, .int (nI p)), (2, .int (nI (ln p))), (3, .ref q8), (4, .ref q49), (5, .int (nI 1)), (6, .int (nI i)), (7, .int (nI (c + 1))), (8, .int (nI h)), (9, .int (nI 15))] dX7_firstWrong_177 rfl (by decide) rfl ?_
                                  refine z_iload 181 C0 8 dX7_firstWrong_179 rfl rfl ?_
                                  refine z_iload 183 C0 9 dX7_firstWrong_181 rfl rfl ?_
                                  refine z_callSi 186 C0 [] [0, 1, 2, 3, 4, 5, 6, 7] [(y, zo 7 [.int (nI sz), .ref yrk, .ref yrv, .int (nI rn), .ref yop, .ref ynu, .ref yle, .ref yk, .ref yv, .ref ysp, .int (nI prs), .ref yxk, .ref yxv, .int (nI rs), .int err, .ref yto, .ref yst, .ref ylo, .int (nI stp), .int res, .int (nI wo)]), (yop, zg E 4 oo), (ra, zi E 64 op), (ynu, zg E 4 nu), (rb, zi E 64 nn), (yle, zi E 4 (zn ln)), (q8, zi E (ln p) (zn wr3)), (q49, zi E (9 * (ln p)) (zn (va_up rs2 ((9 * i) + h) 2)))] 2 640 (As := [.int (nI 15)]) (n := 1) (grows l_ E 15 (by omega)) (zGIS (fun _ => zTs_in) wk_547 wk_545 wk_546 wk_20) rfl ⟨by decide, by decide, by decide +kernel⟩ rfl rfl (by decide) rfl rfl (Nat.le_of_ble_eq_true rfl) ⟨by decide, by decide⟩ rfl rfl ⟨by decide, by decide⟩ ⟨by decide, by decide⟩ dX7_firstWrong_183 rfl (fun r183 w183 hB183 => ?_)
                                  obtain ⟨rfl, rfl⟩ := hB183
                                  refine z_perm [0, 1, 2, 3, 4, 5, 6, 7] [(y, zo 7 [.int (nI sz), .ref yrk, .ref yrv, .int (nI rn), .ref yop, .ref ynu, .ref yle, .ref yk, .ref yv, .ref ysp, .int (nI prs), .ref yxk, .ref yxv, .int (nI rs), .int err, .ref yto, .ref yst, .ref ylo, .int (nI stp), .int res, .int (nI wo)]), (yop, zg E 4 oo), (ra, zi E 64 op), (ynu, zg E 4 nu), (rb, zi E 64 nn), (yle, zi E 4 (zn ln)), (q8, zi E (ln p) (zn wr3)), (q49, zi E (9 * (ln p)) (zn (va_up rs2 ((9 * i) + h) 2)))] (by decide) rfl ?_
                                  refine z_iadd 187 C0 (v := ((nI h) + (zGrow 15))) dX7_firstWrong_186 rfl rfl ?_
                                  refine z_istore 189 C0 [1, 2, 3, 4, 5, 6, 7, 8, 9, 10, 0] [(0, .ref y), (1, .int (nI p)), (2, .int (nI (ln p))), (3, .ref q8), (4, .ref q49), (5, .int (nI 1)), (6, .int (nI i)), (7, .int (nI (c + 1))), (8, .int (nI h)), (9, .int (nI 15)), (10, .int ((nI h) + (zGrow 15)))] dX7_firstWrong_187 rfl (by decide) rfl ?_
                                  refine z_iload 191 C0 9 dX7_firstWrong_189 rfl rfl ?_
                                  refine z_bipush 193 C0 (v := (nI 14)) dX7_firstWrong_191 rfl rfl ?_
                                  refine z_icmp_eqN 196 214 C0 (by decide) (by decide) dX7_firstWrong_193 rfl (by decide) (fun k193 => absurd k193 (by omega)) (fun k193 => ?_)
                                  refine z_iload 198 C0 9 dX7_firstWrong_196 rfl rfl ?_
                                  refine z_bipush 200 C0 (v := (nI 17)) dX7_firstWrong_198 rfl rfl ?_
                                  refine z_icmp_eqN 203 214 C0 (by decide) (by decide) dX7_firstWrong_200 rfl (by decide) (fun k200 => absurd k200 (by omega)) (fun k200 => ?_)
                                  refine z_iload 205 C0 9 dX7_firstWrong_203 rfl rfl ?_
                                  refine z_bipush 207 C0 (v := (nI 18)) dX7_firstWrong_205 rfl rfl ?_
                                  refine z_icmp_eqN 210 214 C0 (by decide) (by decide) dX7_firstWrong_207 rfl (by decide) (fun k207 => absurd k207 (by omega)) (fun k207 => ?_)
                                  refine z_iconst 211 C0 (v := (nI 1)) dX7_firstWrong_210 rfl rfl ?_
                                  refine z_goto 215 C0 dX7_firstWrong_211 (by decide) ?_
                                  refine z_istore 217 C0 [1, 2, 3, 4, 5, 6, 7, 8, 9, 10, 11, 0] [(0, .ref y), (1, .int (nI p)), (2, .int (nI (ln p))), (3, .ref q8), (4, .ref q49), (5, .int (nI 1)), (6, .int (nI i)), (7, .int (nI (c + 1))), (8, .int (nI h)), (9, .int (nI 15)), (10, .int ((nI h) + (zGrow 15))), (11, .int (nI 1))] dX7_firstWrong_215 rfl (by decide) rfl ?_
                                  refine z_iload 219 C0 8 dX7_firstWrong_217 rfl rfl ?_
                                  refine z_iload_n 220 C0 1 dX7_firstWrong_219 rfl rfl rfl ?_
                                  refine z_iload 222 C0 9 dX7_firstWrong_220 rfl rfl ?_
                                  refine z_callSi 225 C0 [] [0, 1, 2, 3, 4, 5, 6, 7] [(y, zo 7 [.int (nI sz), .ref yrk, .ref yrv, .int (nI rn), .ref yop, .ref ynu, .ref yle, .ref yk, .ref yv, .ref ysp, .int (nI prs), .ref yxk, .ref yxv, .int (nI rs), .int err, .ref yto, .ref yst, .ref ylo, .int (nI stp), .int res, .int (nI wo)]), (yop, zg E 4 oo), (ra, zi E 64 op), (ynu, zg E 4 nu), (rb, zi E 64 nn), (yle, zi E 4 (zn ln)), (q8, zi E (ln p) (zn wr3)), (q49, zi E (9 * (ln p)) (zn (va_up rs2 ((9 * i) + h) 2)))] 2 640 (As := [.int (nI p), .int (nI 15)]) (n := 2) (needs l_ E p 15 (by omega) (by omega)) (zGIS (fun _ => zTs_in) wk_550 wk_548 wk_549 wk_20) rfl ⟨by decide, by decide, by decide +kernel⟩ rfl rfl (by decide) rfl rfl (Nat.le_of_ble_eq_true rfl) ⟨by decide, by decide⟩ rfl rfl ⟨by decide, by decide⟩ ⟨by decide, by decide⟩ dX7_firstWrong_222 rfl (fun r222 w222 hB222 => ?_)
                                  obtain ⟨rfl, rfl⟩ := hB222
                                  refine z_perm [0, 1, 2, 3, 4, 5, 6, 7] [(y, zo 7 [.int (nI sz), .ref yrk, .ref yrv, .int (nI rn), .ref yop, .ref ynu, .ref yle, .ref yk, .ref yv, .ref ysp, .int (nI prs), .ref yxk, .ref yxv, .int (nI rs), .int err, .ref yto, .ref yst, .ref ylo, .int (nI stp), .int res, .int (nI wo)]), (yop, zg E 4 oo), (ra, zi E 64 op), (ynu, zg E 4 nu), (rb, zi E 64 nn), (yle, zi E 4 (zn ln)), (q8, zi E (ln p) (zn wr3)), (q49, zi E (9 * (ln p)) (zn (va_up rs2 ((9 * i) + h) 2)))] (by decide) rfl ?_
                                  refine z_icmp_ltN 228 248 C0 (by omega) (by omega) dX7_firstWrong_225 rfl (by decide) (fun k225 => ?_) (fun k225 => ?_)
                                  · skip
                                    refine z_aload_n 249 C0 3 dX7_firstWrong_248 rfl rfl rfl ?_
                                    refine z_iload 251 C0 6 dX7_firstWrong_249 rfl rfl ?_
                                    refine z_iconst 252 C0 (v := (nI 1)) dX7_firstWrong_251 rfl rfl ?_
                                    refine z_iastN 253 C0 6 [(y, zo 7 [.int (nI sz), .ref yrk, .ref yrv, .int (nI rn), .ref yop, .ref ynu, .ref yle, .ref yk, .ref yv, .ref ysp, .int (nI prs), .ref yxk, .ref yxv, .int (nI rs), .int err, .ref yto, .ref yst, .ref ylo, .int (nI stp), .int res, .int (nI wo)]), (yop, zg E 4 oo), (ra, zi E 64 op), (ynu, zg E 4 nu), (rb, zi E 64 nn), (yle, zi E 4 (zn ln)), (q8, zi E (ln p) (zn (va_up wr3 i 1))), (q49, zi E (9 * (ln p)) (zn (va_up rs2 ((9 * i) + h) 2)))] dX7_firstWrong_252 rfl rfl (by omega) (by omega) (by rw [z_upN]; rfl) ?_
                                    refine z_goto 342 C0 dX7_firstWrong_253 (by decide) ?_
                                    refine z_iinc 345 C0 8 [1, 2, 3, 4, 5, 6, 7, 8, 0, 9, 10, 11] [(0, .ref y), (1, .int (nI p)), (2, .int (nI (ln p))), (3, .ref q8), (4, .ref q49), (5, .int (nI 1)), (6, .int (nI i)), (7, .int (nI (c + 1))), (8, .int (nI (h + 1))), (9, .int (nI 15)), (10, .int ((nI h) + (zGrow 15))), (11, .int (nI 1))] (v := (nI (h + 1))) dX7_firstWrong_342 rfl rfl (z_incN _ _) (by decide) rfl ?_
                                    refine z_goto 84 C0 dX7_firstWrong_345 (by decide) ?_
                                    refine z_loc [0, 1, 2, 3, 4, 5, 6, 7, 8] [(0, .ref y), (1, .int (nI p)), (2, .int (nI (ln p))), (3, .ref q8), (4, .ref q49), (5, .int (nI 1)), (6, .int (nI i)), (7, .int (nI (c + 1))), (8, .int (nI (h + 1)))] rfl ?_
                                    exact ih84 (va_up rs2 ((9 * i) + h) 2) (va_up wr3 i 1) 1 (h + 1) (c + 1) (hQ3.wrong hR ho (fun z => by have z1 := z.2.2.1; have z2 := z.2.2.2; have z3 := z.2.1; first | omega | (have z4 := z3 (by unfold hasNx; omega); omega))) (by omega) (by omega) (fun q => absurd q (by decide)) (fwH.m1 hR rfl) (Nat.le_refl 1) hmu3 (by omega)
                                  · skip
                                    have hgu := (gD_le h18).2.1
                                    have hnd : gD 15 ≤ h := pNeed_gD (kd := p) h18 (by omega)
                                    refine z_eq (L1 := [(0, .ref y), (1, .int (nI p)), (2, .int (nI (ln p))), (3, .ref q8), (4, .ref q49), (5, .int (nI 1)), (6, .int (nI i)), (7, .int (nI (c + 1))), (8, .int (nI h)), (9, .int (nI 15)), (10, .int (nI (h + gU 15 - gD 15))), (11, .int (nI 1))]) (st1 := []) (w1 := [(y, zo 7 [.int (nI sz), .ref yrk, .ref yrv, .int (nI rn), .ref yop, .ref ynu, .ref yle, .ref yk, .ref yv, .ref ysp, .int (nI prs), .ref yxk, .ref yxv, .int (nI rs), .int err, .ref yto, .ref yst, .ref ylo, .int (nI stp), .int res, .int (nI wo)]), (yop, zg E 4 oo), (ra, zi E 64 op), (ynu, zg E 4 nu), (rb, zi E 64 nn), (yle, zi E 4 (zn ln)), (q8, zi E (ln p) (zn wr3)), (q49, zi E (9 * (ln p)) (zn (va_up rs2 ((9 * i) + h) 2)))]) (by rw [grow_eq h18 hnd]) rfl rfl ?_
                                    refine z_iload 230 C0 10 dX7_firstWrong_228 rfl rfl ?_
                                    refine z_bipush 232 C0 (v := (nI 8)) dX7_firstWrong_230 rfl rfl ?_
                                    refine z_icmp_gtN 235 248 C0 (by omega) (by decide) dX7_firstWrong_232 rfl (by decide) (fun k232 => ?_) (fun k232 => ?_)
                                    · skip
                                      refine z_aload_n 249 C0 3 dX7_firstWrong_248 rfl rfl rfl ?_
                                      refine z_iload 251 C0 6 dX7_firstWrong_249 rfl rfl ?_
                                      refine z_iconst 252 C0 (v := (nI 1)) dX7_firstWrong_251 rfl rfl ?_
                                      refine z_iastN 253 C0 6 [(y, zo 7 [.int (nI sz), .ref yrk, .ref yrv, .int (nI rn), .ref yop, .ref ynu, .ref yle, .ref yk, .ref yv, .ref ysp, .int (nI prs), .ref yxk, .ref yxv, .int (nI rs), .int err, .ref yto, .ref yst, .ref ylo, .int (nI stp), .int res, .int (nI wo)]), (yop, zg E 4 oo), (ra, zi E 64 op), (ynu, zg E 4 nu), (rb, zi E 64 nn), (yle, zi E 4 (zn ln)), (q8, zi E (ln p) (zn (va_up wr3 i 1))), (q49, zi E (9 * (ln p)) (zn (va_up rs2 ((9 * i) + h) 2)))] dX7_firstWrong_252 rfl rfl (by omega) (by omega) (by rw [z_upN]; rfl) ?_
                                      refine z_goto 342 C0 dX7_firstWrong_253 (by decide) ?_
                                      refine z_iinc 345 C0 8 [1, 2, 3, 4, 5, 6, 7, 8, 0, 9, 10, 11] [(0, .ref y), (1, .int (nI p)), (2, .int (nI (ln p))), (3, .ref q8), (4, .ref q49), (5, .int (nI 1)), (6, .int (nI i)), (7, .int (nI (c + 1))), (8, .int (nI (h + 1))), (9, .int (nI 15)), (10, .int (nI (h + gU 15 - gD 15))), (11, .int (nI 1))] (v := (nI (h + 1))) dX7_firstWrong_342 rfl rfl (z_incN _ _) (by decide) rfl ?_
                                      refine z_goto 84 C0 dX7_firstWrong_345 (by decide) ?_
                                      refine z_loc [0, 1, 2, 3, 4, 5, 6, 7, 8] [(0, .ref y), (1, .int (nI p)), (2, .int (nI (ln p))), (3, .ref q8), (4, .ref q49), (5, .int (nI 1)), (6, .int (nI i)), (7, .int (nI (c + 1))), (8, .int (nI (h + 1)))] rfl ?_
                                      exact ih84 (va_up rs2 ((9 * i) + h) 2) (va_up wr3 i 1) 1 (h + 1) (c + 1) (hQ3.wrong hR ho (fun z => by have z1 := z.2.2.1; have z2 := z.2.2.2; have z3 := z.2.1; first | omega | (have z4 := z3 (by unfold hasNx; omega); omega))) (by omega) (by omega) (fun q => absurd q (by decide)) (fwH.m1 hR rfl) (Nat.le_refl 1) hmu3 (by omega)
                                    · skip
                                      refine z_iload 237 C0 11 dX7_firstWrong_235 rfl rfl ?_
                                      refine z_if_eqN 240 256 C0 (by decide) dX7_firstWrong_237 rfl (by decide) (fun k237 => absurd k237 (by omega)) (fun k237 => ?_)
                                      refine z_iload 242 C0 6 dX7_firstWrong_240 rfl rfl ?_
                                      refine z_iconst 243 C0 (v := (nI 1)) dX7_firstWrong_242 rfl rfl ?_
                                      refine z_iadd 244 C0 (v := (nI (i + 1))) dX7_firstWrong_243 rfl (nI_add _ _) ?_
                                      refine z_iload_n 245 C0 2 dX7_firstWrong_244 rfl rfl rfl ?_
                                      refine z_icmp_neN 248 256 C0 (by omega) (by omega) dX7_firstWrong_245 rfl (by decide) (fun k245 => ?_) (fun k245 => ?_)
                                      · skip
                                        have hok : okS p op nn (ln p) i h 15 := ⟨ho, fun _ => by omega, by omega, by omega⟩
                                        have CUT291 : ∀ (rs4 : Nat → Nat), (fwQ p op nn (ln p) rs4 wr3 i h) → (fwMu (ln p) rs4 + 1 ≤ fwMu (ln p) rs0) → (hasNx 15 → rs4 (9 * (i + 1) + (h + gU 15 - gD 15)) ≠ 0) → Z E p_ l_ e_ ({ frames := 1, cells := 2, slots := 640, locals := 24 } : Room) s_ m_ args_ below_ meth_ c_ (MQ below_ (va_Qi (fun r_ w_ => ∃ r2 : Int32, (r_ = r2 ∧ w_ = [(y, zo 7 [.int (nI sz), .ref yrk, .ref yrv, .int (nI rn), .ref yop, .ref ynu, .ref yle, .ref yk, .ref yv, .ref ysp, .int (nI prs), .ref yxk, .ref yxv, .int (nI rs), .int err, .ref yto, .ref yst, .ref ylo, .int (nI stp), .int res, .int (nI wo)]), (yop, zg E 4 oo), (ra, zi E 64 op), (ynu, zg E 4 nu), (rb, zi E 64 nn), (yle, zi E 4 (zn ln))]) ∧ (fwR p op nn (ln p) r2)) (zPost E A_) A_) args_ s_ 2 640 A_) A_ 13 291 [(0, .ref y), (1, .int (nI p)), (2, .int (nI (ln p))), (3, .ref q8), (4, .ref q49), (5, .int (nI 1)), (6, .int (nI i)), (7, .int (nI (c + 1))), (8, .int (nI h)), (9, .int (nI 15)), (10, .int (nI (h + gU 15 - gD 15)))] [] [(y, zo 7 [.int (nI sz), .ref yrk, .ref yrv, .int (nI rn), .ref yop, .ref ynu, .ref yle, .ref yk, .ref yv, .ref ysp, .int (nI prs), .ref yxk, .ref yxv, .int (nI rs), .int err, .ref yto, .ref yst, .ref ylo, .int (nI stp), .int res, .int (nI wo)]), (yop, zg E 4 oo), (ra, zi E 64 op), (ynu, zg E 4 nu), (rb, zi E 64 nn), (yle, zi E 4 (zn ln)), (q8, zi E (ln p) (zn wr3)), (q49, zi E (9 * (ln p)) (zn rs4))] 2 640 := by
                                          intro rs4 hQ4 hmu4 hN4
                                          refine z_aload_n 292 C0 0 dX7_firstWrong_291 rfl rfl rfl ?_
                                          refine z_get 295 C0 0 5 wz_7 rfl (by decide) (zTs_in wk_453) dX7_firstWrong_292 rfl rfl rfl ?_
                                          refine z_iload_n 296 C0 1 dX7_firstWrong_295 rfl rfl rfl ?_
                                          refine z_aald 297 C0 3 2 dX7_firstWrong_296 rfl rfl rfl rfl (by omega) (by decide) (v := .ref rb) (by rw [hnu]; rfl) ?_
                                          refine z_iload 299 C0 6 dX7_firstWrong_297 rfl rfl ?_
                                          refine z_ialdN 300 C0 4 (v := (nn i)) dX7_firstWrong_299 rfl rfl (by omega) (by decide) rfl ?_
                                          refine z_istore 302 C0 [1, 2, 3, 4, 5, 6, 7, 8, 9, 10, 11, 0] [(0, .ref y), (1, .int (nI p)), (2, .int (nI (ln p))), (3, .ref q8), (4, .ref q49), (5, .int (nI 1)), (6, .int (nI i)), (7, .int (nI (c + 1))), (8, .int (nI h)), (9, .int (nI 15)), (10, .int (nI (h + gU 15 - gD 15))), (12, .int (nn i))] dX7_firstWrong_300 rfl (by decide) rfl ?_
                                          refine z_iload 304 C0 9 dX7_firstWrong_302 rfl rfl ?_
                                          refine z_bipush 306 C0 (v := (nI 14)) dX7_firstWrong_304 rfl rfl ?_
                                          refine z_icmp_eqN 309 316 C0 (by decide) (by decide) dX7_firstWrong_306 rfl (by decide) (fun k306 => absurd k306 (by omega)) (fun k306 => ?_)
                                          refine z_iload 311 C0 9 dX7_firstWrong_309 rfl rfl ?_
                                          refine z_bipush 313 C0 (v := (nI 15)) dX7_firstWrong_311 rfl rfl ?_
                                          refine z_icmp_neN 316 342 C0 (by decide) (by decide) dX7_firstWrong_313 rfl (by decide) (fun k313 => absurd k313 (by omega)) (fun k313 => ?_)
                                          obtain ⟨j, hj, hnj⟩ := ho.2.2.2.2.2.2 (by decide)
                                          have hlj : h + gU 15 - gD 15 < 9 := Nat.lt_succ_of_le hok.2.2.2
                                          have hbj := hQ4.1.2.2.2.2.1 (9 * j + (h + gU 15 - gD 15))
                                          refine z_eq (L1 := [(0, .ref y), (1, .int (nI p)), (2, .int (nI (ln p))), (3, .ref q8), (4, .ref q49), (5, .int (nI 1)), (6, .int (nI i)), (7, .int (nI (c + 1))), (8, .int (nI h)), (9, .int (nI 15)), (10, .int (nI (h + gU 15 - gD 15))), (12, .int (nI j))]) (st1 := []) (w1 := [(y, zo 7 [.int (nI sz), .ref yrk, .ref yrv, .int (nI rn), .ref yop, .ref ynu, .ref yle, .ref yk, .ref yv, .ref ysp, .int (nI prs), .ref yxk, .ref yxv, .int (nI rs), .int err, .ref yto, .ref yst, .ref ylo, .int (nI stp), .int res, .int (nI wo)]), (yop, zg E 4 oo), (ra, zi E 64 op), (ynu, zg E 4 nu), (rb, zi E 64 nn), (yle, zi E 4 (zn ln)), (q8, zi E (ln p) (zn wr3)), (q49, zi E (9 * (ln p)) (zn rs4))]) (by rw [hnj]) rfl rfl ?_
                                          refine z_aload 318 C0 4 dX7_firstWrong_316 rfl rfl ?_
                                          refine z_bipush 320 C0 (v := (nI 9)) dX7_firstWrong_318 rfl rfl ?_
                                          refine z_iload 322 C0 11 dX7_firstWrong_320 rfl rfl ?_
                                          refine z_imul 323 C0 (v := (nI (9 * j))) dX7_firstWrong_322 rfl (pk_mul _ _) ?_
                                          refine z_iload 325 C0 10 dX7_firstWrong_323 rfl rfl ?_
                                          refine z_iadd 326 C0 (v := (nI ((9 * j) + (h + gU 15 - gD 15)))) dX7_firstWrong_325 rfl (nI_add _ _) ?_
                                          refine z_ialdN 327 C0 7 (v := (nI (rs4 ((9 * j) + (h + gU 15 - gD 15))))) dX7_firstWrong_326 rfl rfl (by omega) (by omega) rfl ?_
                                          refine z_if_neN 330 342 C0 (by omega) dX7_firstWrong_327 rfl (by decide) (fun k327 => ?_) (fun k327 => ?_)
                                          · skip
                                            refine z_iinc 345 C0 8 [1, 2, 3, 4, 5, 6, 7, 8, 0, 9, 10, 11] [(0, .ref y), (1, .int (nI p)), (2, .int (nI (ln p))), (3, .ref q8), (4, .ref q49), (5, .int (nI 1)), (6, .int (nI i)), (7, .int (nI (c + 1))), (8, .int (nI (h + 1))), (9, .int (nI 15)), (10, .int (nI (h + gU 15 - gD 15))), (12, .int (nI j))] (v := (nI (h + 1))) dX7_firstWrong_342 rfl rfl (z_incN _ _) (by decide) rfl ?_
                                            refine z_goto 84 C0 dX7_firstWrong_345 (by decide) ?_
                                            refine z_loc [0, 1, 2, 3, 4, 5, 6, 7, 8] [(0, .ref y), (1, .int (nI p)), (2, .int (nI (ln p))), (3, .ref q8), (4, .ref q49), (5, .int (nI 1)), (6, .int (nI i)), (7, .int (nI (c + 1))), (8, .int (nI (h + 1)))] rfl ?_
                                            exact ih84 rs4 wr3 1 (h + 1) (c + 1) (hQ4.good hok hN4 (fun _ j2 hj2 hn2 => by obtain rfl : j2 = j := (nI_eq (by omega) (by omega)).mp (hn2.symm.trans hnj); exact k327)) (by omega) (by omega) (fun q => absurd q (by decide)) (fwH.m1 hR rfl) (Nat.le_refl 1) hmu4 (by omega)
                                          · skip
                                            refine z_aload 332 C0 4 dX7_firstWrong_330 rfl rfl ?_
                                            refine z_bipush 334 C0 (v := (nI 9)) dX7_firstWrong_332 rfl rfl ?_
                                            refine z_iload 336 C0 11 dX7_firstWrong_334 rfl rfl ?_
                                            refine z_imul 337 C0 (v := (nI (9 * j))) dX7_firstWrong_336 rfl (pk_mul _ _) ?_
                                            refine z_iload 339 C0 10 dX7_firstWrong_337 rfl rfl ?_
                                            refine z_iadd 340 C0 (v := (nI ((9 * j) + (h + gU 15 - gD 15)))) dX7_firstWrong_339 rfl (nI_add _ _) ?_
                                            refine z_iconst 341 C0 (v := (nI 1)) dX7_firstWrong_340 rfl rfl ?_
                                            refine z_iastN 342 C0 7 [(y, zo 7 [.int (nI sz), .ref yrk, .ref yrv, .int (nI rn), .ref yop, .ref ynu, .ref yle, .ref yk, .ref yv, .ref ysp, .int (nI prs), .ref yxk, .ref yxv, .int (nI rs), .int err, .ref yto, .ref yst, .ref ylo, .int (nI stp), .int res, .int (nI wo)]), (yop, zg E 4 oo), (ra, zi E 64 op), (ynu, zg E 4 nu), (rb, zi E 64 nn), (yle, zi E 4 (zn ln)), (q8, zi E (ln p) (zn wr3)), (q49, zi E (9 * (ln p)) (zn (va_up rs4 ((9 * j) + (h + gU 15 - gD 15)) 1)))] dX7_firstWrong_341 rfl rfl (by omega) (by omega) (by rw [z_upN]; rfl) ?_
                                            refine z_iinc 345 C0 8 [1, 2, 3, 4, 5, 6, 7, 8, 0, 9, 10, 11] [(0, .ref y), (1, .int (nI p)), (2, .int (nI (ln p))), (3, .ref q8), (4, .ref q49), (5, .int (nI 1)), (6, .int (nI i)), (7, .int (nI (c + 1))), (8, .int (nI (h + 1))), (9, .int (nI 15)), (10, .int (nI (h + gU 15 - gD 15))), (12, .int (nI j))] (v := (nI (h + 1))) dX7_firstWrong_342 rfl rfl (z_incN _ _) (by decide) rfl ?_
                                            refine z_goto 84 C0 dX7_firstWrong_345 (by decide) ?_
                                            refine z_loc [0, 1, 2, 3, 4, 5, 6, 7, 8] [(0, .ref y), (1, .int (nI p)), (2, .int (nI (ln p))), (3, .ref q8), (4, .ref q49), (5, .int (nI 1)), (6, .int (nI i)), (7, .int (nI (c + 1))), (8, .int (nI (h + 1)))] rfl ?_
                                            have hRj := hR.jump hok (by decide) hj hnj
                                            have hmu5 := fwMu_up (len := ln p) (k := 9 * j + (h + gU 15 - gD 15)) (v := 1) (rs := rs4) (by omega) (by omega) (by decide)
                                            exact ih84 (va_up rs4 ((9 * j) + (h + gU 15 - gD 15)) 1) wr3 1 (h + 1) (c + 1) ((hQ4.mark1 hj hlj hRj k327).good hok (fun z => by by_cases q : 9 * (i + 1) + (h + gU 15 - gD 15) = 9 * j + (h + gU 15 - gD 15); rw [q, vaup_at]; decide; rw [vaup_ne q]; exact hN4 z) (fun _ j2 hj2 hn2 => by obtain rfl : j2 = j := (nI_eq (by omega) (by omega)).mp (hn2.symm.trans hnj); rw [vaup_at]; decide)) (by omega) (by omega) (fun q => absurd q (by decide)) (fwH.m1 hR rfl) (Nat.le_refl 1) (by omega) (by omega)
                                        refine z_iload 258 C0 11 dX7_firstWrong_256 rfl rfl ?_
                                        refine z_if_eqN 261 291 C0 (by decide) dX7_firstWrong_258 rfl (by decide) (fun k258 => absurd k258 (by omega)) (fun k258 => ?_)
                                        obtain ⟨hl1, hl2, hl3⟩ := okS_next hok (by unfold hasNx; omega) hR
                                        have hb3 := hQ3.1.2.2.2.2.1 (9 * (i + 1) + (h + gU 15 - gD 15))
                                        refine z_aload 263 C0 4 dX7_firstWrong_261 rfl rfl ?_
                                        refine z_bipush 265 C0 (v := (nI 9)) dX7_firstWrong_263 rfl rfl ?_
                                        refine z_iload 267 C0 6 dX7_firstWrong_265 rfl rfl ?_
                                        refine z_iconst 268 C0 (v := (nI 1)) dX7_firstWrong_267 rfl rfl ?_
                                        refine z_iadd 269 C0 (v := (nI (i + 1))) dX7_firstWrong_268 rfl (nI_add _ _) ?_
                                        refine z_imul 270 C0 (v := (nI (9 * (i + 1)))) dX7_firstWrong_269 rfl (pk_mul _ _) ?_
                                        refine z_iload 272 C0 10 dX7_firstWrong_270 rfl rfl ?_
                                        refine z_iadd 273 C0 (v := (nI ((9 * (i + 1)) + (h + gU 15 - gD 15)))) dX7_firstWrong_272 rfl (nI_add _ _) ?_
                                        refine z_ialdN 274 C0 7 (v := (nI ((va_up rs2 ((9 * i) + h) 2) ((9 * (i + 1)) + (h + gU 15 - gD 15))))) dX7_firstWrong_273 rfl rfl (by omega) (by omega) rfl ?_
                                        refine z_if_neN 277 291 C0 (by omega) dX7_firstWrong_274 rfl (by decide) (fun k274 => ?_) (fun k274 => ?_)
                                        · skip
                                          refine z_loc [0, 1, 2, 3, 4, 5, 6, 7, 8, 9, 10] [(0, .ref y), (1, .int (nI p)), (2, .int (nI (ln p))), (3, .ref q8), (4, .ref q49), (5, .int (nI 1)), (6, .int (nI i)), (7, .int (nI (c + 1))), (8, .int (nI h)), (9, .int (nI 15)), (10, .int (nI (h + gU 15 - gD 15)))] rfl ?_
                                          exact CUT291 (va_up rs2 ((9 * i) + h) 2) hQ3 hmu3 (fun _ => k274)
                                        · skip
                                          refine z_aload 279 C0 4 dX7_firstWrong_277 rfl rfl ?_
                                          refine z_bipush 281 C0 (v := (nI 9)) dX7_firstWrong_279 rfl rfl ?_
                                          refine z_iload 283 C0 6 dX7_firstWrong_281 rfl rfl ?_
                                          refine z_iconst 284 C0 (v := (nI 1)) dX7_firstWrong_283 rfl rfl ?_
                                          refine z_iadd 285 C0 (v := (nI (i + 1))) dX7_firstWrong_284 rfl (nI_add _ _) ?_
                                          refine z_imul 286 C0 (v := (nI (9 * (i + 1)))) dX7_firstWrong_285 rfl (pk_mul _ _) ?_
                                          refine z_iload 288 C0 10 dX7_firstWrong_286 rfl rfl ?_
                                          refine z_iadd 289 C0 (v := (nI ((9 * (i + 1)) + (h + gU 15 - gD 15)))) dX7_firstWrong_288 rfl (nI_add _ _) ?_
                                          refine z_iconst 290 C0 (v := (nI 1)) dX7_firstWrong_289 rfl rfl ?_
                                          refine z_iastN 291 C0 7 [(y, zo 7 [.int (nI sz), .ref yrk, .ref yrv, .int (nI rn), .ref yop, .ref ynu, .ref yle, .ref yk, .ref yv, .ref ysp, .int (nI prs), .ref yxk, .ref yxv, .int (nI rs), .int err, .ref yto, .ref yst, .ref ylo, .int (nI stp), .int res, .int (nI wo)]), (yop, zg E 4 oo), (ra, zi E 64 op), (ynu, zg E 4 nu), (rb, zi E 64 nn), (yle, zi E 4 (zn ln)), (q8, zi E (ln p) (zn wr3)), (q49, zi E (9 * (ln p)) (zn (va_up (va_up rs2 ((9 * i) + h) 2) ((9 * (i + 1)) + (h + gU 15 - gD 15)) 1)))] dX7_firstWrong_290 rfl rfl (by omega) (by omega) (by rw [z_upN]; rfl) ?_
                                          refine z_loc [0, 1, 2, 3, 4, 5, 6, 7, 8, 9, 10] [(0, .ref y), (1, .int (nI p)), (2, .int (nI (ln p))), (3, .ref q8), (4, .ref q49), (5, .int (nI 1)), (6, .int (nI i)), (7, .int (nI (c + 1))), (8, .int (nI h)), (9, .int (nI 15)), (10, .int (nI (h + gU 15 - gD 15)))] rfl ?_
                                          have hmu5 := fwMu_up (len := ln p) (k := 9 * (i + 1) + (h + gU 15 - gD 15)) (v := 1) (rs := (va_up rs2 ((9 * i) + h) 2)) (by omega) (by omega) (by decide)
                                          exact CUT291 (va_up (va_up rs2 ((9 * i) + h) 2) ((9 * (i + 1)) + (h + gU 15 - gD 15)) 1) (hQ3.mark1 hl1 hl2 hl3 k274) (by omega) (fun _ => by rw [vaup_at]; decide)
                                      · skip
                                        refine z_aload_n 249 C0 3 dX7_firstWrong_248 rfl rfl rfl ?_
                                        refine z_iload 251 C0 6 dX7_firstWrong_249 rfl rfl ?_
                                        refine z_iconst 252 C0 (v := (nI 1)) dX7_firstWrong_251 rfl rfl ?_
                                        refine z_iastN 253 C0 6 [(y, zo 7 [.int (nI sz), .ref yrk, .ref yrv, .int (nI rn), .ref yop, .ref ynu, .ref yle, .ref yk, .ref yv, .ref ysp, .int (nI prs), .ref yxk, .ref yxv, .int (nI rs), .int err, .ref yto, .ref yst, .ref ylo, .int (nI stp), .int res, .int (nI wo)]), (yop, zg E 4 oo), (ra, zi E 64 op), (ynu, zg E 4 nu), (rb, zi E 64 nn), (yle, zi E 4 (zn ln)), (q8, zi E (ln p) (zn (va_up wr3 i 1))), (q49, zi E (9 * (ln p)) (zn (va_up rs2 ((9 * i) + h) 2)))] dX7_firstWrong_252 rfl rfl (by omega) (by omega) (by rw [z_upN]; rfl) ?_
                                        refine z_goto 342 C0 dX7_firstWrong_253 (by decide) ?_
                                        refine z_iinc 345 C0 8 [1, 2, 3, 4, 5, 6, 7, 8, 0, 9, 10, 11] [(0, .ref y), (1, .int (nI p)), (2, .int (nI (ln p))), (3, .ref q8), (4, .ref q49), (5, .int (nI 1)), (6, .int (nI i)), (7, .int (nI (c + 1))), (8, .int (nI (h + 1))), (9, .int (nI 15)), (10, .int (nI (h + gU 15 - gD 15))), (11, .int (nI 1))] (v := (nI (h + 1))) dX7_firstWrong_342 rfl rfl (z_incN _ _) (by decide) rfl ?_
                                        refine z_goto 84 C0 dX7_firstWrong_345 (by decide) ?_
                                        refine z_loc [0, 1, 2, 3, 4, 5, 6, 7, 8] [(0, .ref y), (1, .int (nI p)), (2, .int (nI (ln p))), (3, .ref q8), (4, .ref q49), (5, .int (nI 1)), (6, .int (nI i)), (7, .int (nI (c + 1))), (8, .int (nI (h + 1)))] rfl ?_
                                        exact ih84 (va_up rs2 ((9 * i) + h) 2) (va_up wr3 i 1) 1 (h + 1) (c + 1) (hQ3.wrong hR ho (fun z => by have z1 := z.2.2.1; have z2 := z.2.2.2; have z3 := z.2.1; first | omega | (have z4 := z3 (by unfold hasNx; omega); omega))) (by omega) (by omega) (fun q => absurd q (by decide)) (fwH.m1 hR rfl) (Nat.le_refl 1) hmu3 (by omega)
                                · skip
                                  have hpn := pNeed_le (kd := p) h18
                                  refine z_aload_n 169 C0 0 dX7_firstWrong_168 rfl rfl rfl ?_
                                  refine z_get 172 C0 0 4 wz_7 rfl (by decide) (zTs_in wk_452) dX7_firstWrong_169 rfl rfl rfl ?_
                                  refine z_iload_n 173 C0 1 dX7_firstWrong_172 rfl rfl rfl ?_
                                  refine z_aald 174 C0 1 2 dX7_firstWrong_173 rfl rfl rfl rfl (by omega) (by decide) (v := .ref ra) (by rw [hoo]; rfl) ?_
                                  refine z_iload 176 C0 6 dX7_firstWrong_174 rfl rfl ?_
                                  refine z_ialdN 177 C0 2 (v := (nI 17)) dX7_firstWrong_176 rfl rfl (by omega) (by decide) ho.2.1 ?_
                                  refine z_istore 179 C0 [1, 2, 3, 4, 5, 6, 7, 8, 9, 0] [(0, .ref y), (1, .int (nI p)), (2, .int (nI (ln p))), (3, .ref q8), (4, .ref q49), (5, .int (nI 1)), (6, .int (nI i)), (7, .int (nI (c + 1))), (8, .int (nI h)), (9, .int (nI 17))] dX7_firstWrong_177 rfl (by decide) rfl ?_
                                  refine z_iload 181 C0 8 dX7_firstWrong_179 rfl rfl ?_
                                  refine z_iload 183 C0 9 dX7_firstWrong_181 rfl rfl ?_
                                  refine z_callSi 186 C0 [] [0, 1, 2, 3, 4, 5, 6, 7] [(y, zo 7 [.int (nI sz), .ref yrk, .ref yrv, .int (nI rn), .ref yop, .ref ynu, .ref yle, .ref yk, .ref yv, .ref ysp, .int (nI prs), .ref yxk, .ref yxv, .int (nI rs), .int err, .ref yto, .ref yst, .ref ylo, .int (nI stp), .int res, .int (nI wo)]), (yop, zg E 4 oo), (ra, zi E 64 op), (ynu, zg E 4 nu), (rb, zi E 64 nn), (yle, zi E 4 (zn ln)), (q8, zi E (ln p) (zn wr3)), (q49, zi E (9 * (ln p)) (zn (va_up rs2 ((9 * i) + h) 2)))] 2 640 (As := [.int (nI 17)]) (n := 1) (grows l_ E 17 (by omega)) (zGIS (fun _ => zTs_in) wk_547 wk_545 wk_546 wk_20) rfl ⟨by decide, by decide, by decide +kernel⟩ rfl rfl (by decide) rfl rfl (Nat.le_of_ble_eq_true rfl) ⟨by decide, by decide⟩ rfl rfl ⟨by decide, by decide⟩ ⟨by decide, by decide⟩ dX7_firstWrong_183 rfl (fun r183 w183 hB183 => ?_)
                                  obtain ⟨rfl, rfl⟩ := hB183
                                  refine z_perm [0, 1, 2, 3, 4, 5, 6, 7] [(y, zo 7 [.int (nI sz), .ref yrk, .ref yrv, .int (nI rn), .ref yop, .ref ynu, .ref yle, .ref yk, .ref yv, .ref ysp, .int (nI prs), .ref yxk, .ref yxv, .int (nI rs), .int err, .ref yto, .ref yst, .ref ylo, .int (nI stp), .int res, .int (nI wo)]), (yop, zg E 4 oo), (ra, zi E 64 op), (ynu, zg E 4 nu), (rb, zi E 64 nn), (yle, zi E 4 (zn ln)), (q8, zi E (ln p) (zn wr3)), (q49, zi E (9 * (ln p)) (zn (va_up rs2 ((9 * i) + h) 2)))] (by decide) rfl ?_
                                  refine z_iadd 187 C0 (v := ((nI h) + (zGrow 17))) dX7_firstWrong_186 rfl rfl ?_
                                  refine z_istore 189 C0 [1, 2, 3, 4, 5, 6, 7, 8, 9, 10, 0] [(0, .ref y), (1, .int (nI p)), (2, .int (nI (ln p))), (3, .ref q8), (4, .ref q49), (5, .int (nI 1)), (6, .int (nI i)), (7, .int (nI (c + 1))), (8, .int (nI h)), (9, .int (nI 17)), (10, .int ((nI h) + (zGrow 17)))] dX7_firstWrong_187 rfl (by decide) rfl ?_
                                  refine z_iload 191 C0 9 dX7_firstWrong_189 rfl rfl ?_
                                  refine z_bipush 193 C0 (v := (nI 14)) dX7_firstWrong_191 rfl rfl ?_
                                  refine z_icmp_eqN 196 214 C0 (by decide) (by decide) dX7_firstWrong_193 rfl (by decide) (fun k193 => absurd k193 (by omega)) (fun k193 => ?_)
                                  refine z_iload 198 C0 9 dX7_firstWrong_196 rfl rfl ?_
                                  refine z_bipush 200 C0 (v := (nI 17)) dX7_firstWrong_198 rfl rfl ?_
                                  refine z_icmp_eqN 203 214 C0 (by decide) (by decide) dX7_firstWrong_200 rfl (by decide) (fun k200 => ?_) (fun k200 => absurd k200 (by omega))
                                  refine z_iconst 215 C0 (v := (nI 0)) dX7_firstWrong_214 rfl rfl ?_
                                  refine z_istore 217 C0 [1, 2, 3, 4, 5, 6, 7, 8, 9, 10, 11, 0] [(0, .ref y), (1, .int (nI p)), (2, .int (nI (ln p))), (3, .ref q8), (4, .ref q49), (5, .int (nI 1)), (6, .int (nI i)), (7, .int (nI (c + 1))), (8, .int (nI h)), (9, .int (nI 17)), (10, .int ((nI h) + (zGrow 17))), (11, .int (nI 0))] dX7_firstWrong_215 rfl (by decide) rfl ?_
                                  refine z_iload 219 C0 8 dX7_firstWrong_217 rfl rfl ?_
                                  refine z_iload_n 220 C0 1 dX7_firstWrong_219 rfl rfl rfl ?_
                                  refine z_iload 222 C0 9 dX7_firstWrong_220 rfl rfl ?_
                                  refine z_callSi 225 C0 [] [0, 1, 2, 3, 4, 5, 6, 7] [(y, zo 7 [.int (nI sz), .ref yrk, .ref yrv, .int (nI rn), .ref yop, .ref ynu, .ref yle, .ref yk, .ref yv, .ref ysp, .int (nI prs), .ref yxk, .ref yxv, .int (nI rs), .int err, .ref yto, .ref yst, .ref ylo, .int (nI stp), .int res, .int (nI wo)]), (yop, zg E 4 oo), (ra, zi E 64 op), (ynu, zg E 4 nu), (rb, zi E 64 nn), (yle, zi E 4 (zn ln)), (q8, zi E (ln p) (zn wr3)), (q49, zi E (9 * (ln p)) (zn (va_up rs2 ((9 * i) + h) 2)))] 2 640 (As := [.int (nI p), .int (nI 17)]) (n := 2) (needs l_ E p 17 (by omega) (by omega)) (zGIS (fun _ => zTs_in) wk_550 wk_548 wk_549 wk_20) rfl ⟨by decide, by decide, by decide +kernel⟩ rfl rfl (by decide) rfl rfl (Nat.le_of_ble_eq_true rfl) ⟨by decide, by decide⟩ rfl rfl ⟨by decide, by decide⟩ ⟨by decide, by decide⟩ dX7_firstWrong_222 rfl (fun r222 w222 hB222 => ?_)
                                  obtain ⟨rfl, rfl⟩ := hB222
                                  refine z_perm [0, 1, 2, 3, 4, 5, 6, 7] [(y, zo 7 [.int (nI sz), .ref yrk, .ref yrv, .int (nI rn), .ref yop, .ref ynu, .ref yle, .ref yk, .ref yv, .ref ysp, .int (nI prs), .ref yxk, .ref yxv, .int (nI rs), .int err, .ref yto, .ref yst, .ref ylo, .int (nI stp), .int res, .int (nI wo)]), (yop, zg E 4 oo), (ra, zi E 64 op), (ynu, zg E 4 nu), (rb, zi E 64 nn), (yle, zi E 4 (zn ln)), (q8, zi E (ln p) (zn wr3)), (q49, zi E (9 * (ln p)) (zn (va_up rs2 ((9 * i) + h) 2)))] (by decide) rfl ?_
                                  refine z_icmp_ltN 228 248 C0 (by omega) (by omega) dX7_firstWrong_225 rfl (by decide) (fun k225 => ?_) (fun k225 => ?_)
                                  · skip
                                    refine z_aload_n 249 C0 3 dX7_firstWrong_248 rfl rfl rfl ?_
                                    refine z_iload 251 C0 6 dX7_firstWrong_249 rfl rfl ?_
                                    refine z_iconst 252 C0 (v := (nI 1)) dX7_firstWrong_251 rfl rfl ?_
                                    refine z_iastN 253 C0 6 [(y, zo 7 [.int (nI sz), .ref yrk, .ref yrv, .int (nI rn), .ref yop, .ref ynu, .ref yle, .ref yk, .ref yv, .ref ysp, .int (nI prs), .ref yxk, .ref yxv, .int (nI rs), .int err, .ref yto, .ref yst, .ref ylo, .int (nI stp), .int res, .int (nI wo)]), (yop, zg E 4 oo), (ra, zi E 64 op), (ynu, zg E 4 nu), (rb, zi E 64 nn), (yle, zi E 4 (zn ln)), (q8, zi E (ln p) (zn (va_up wr3 i 1))), (q49, zi E (9 * (ln p)) (zn (va_up rs2 ((9 * i) + h) 2)))] dX7_firstWrong_252 rfl rfl (by omega) (by omega) (by rw [z_upN]; rfl) ?_
                                    refine z_goto 342 C0 dX7_firstWrong_253 (by decide) ?_
                                    refine z_iinc 345 C0 8 [1, 2, 3, 4, 5, 6, 7, 8, 0, 9, 10, 11] [(0, .ref y), (1, .int (nI p)), (2, .int (nI (ln p))), (3, .ref q8), (4, .ref q49), (5, .int (nI 1)), (6, .int (nI i)), (7, .int (nI (c + 1))), (8, .int (nI (h + 1))), (9, .int (nI 17)), (10, .int ((nI h) + (zGrow 17))), (11, .int (nI 0))] (v := (nI (h + 1))) dX7_firstWrong_342 rfl rfl (z_incN _ _) (by decide) rfl ?_
                                    refine z_goto 84 C0 dX7_firstWrong_345 (by decide) ?_
                                    refine z_loc [0, 1, 2, 3, 4, 5, 6, 7, 8] [(0, .ref y), (1, .int (nI p)), (2, .int (nI (ln p))), (3, .ref q8), (4, .ref q49), (5, .int (nI 1)), (6, .int (nI i)), (7, .int (nI (c + 1))), (8, .int (nI (h + 1)))] rfl ?_
                                    exact ih84 (va_up rs2 ((9 * i) + h) 2) (va_up wr3 i 1) 1 (h + 1) (c + 1) (hQ3.wrong hR ho (fun z => by have z1 := z.2.2.1; have z2 := z.2.2.2; have z3 := z.2.1; first | omega | (have z4 := z3 (by unfold hasNx; omega); omega))) (by omega) (by omega) (fun q => absurd q (by decide)) (fwH.m1 hR rfl) (Nat.le_refl 1) hmu3 (by omega)
                                  · skip
                                    have hgu := (gD_le h18).2.1
                                    have hnd : gD 17 ≤ h := pNeed_gD (kd := p) h18 (by omega)
                                    refine z_eq (L1 := [(0, .ref y), (1, .int (nI p)), (2, .int (nI (ln p))), (3, .ref q8), (4, .ref q49), (5, .int (nI 1)), (6, .int (nI i)), (7, .int (nI (c + 1))), (8, .int (nI h)), (9, .int (nI 17)), (10, .int (nI (h + gU 17 - gD 17))), (11, .int (nI 0))]) (st1 := []) (w1 := [(y, zo 7 [.int (nI sz), .ref yrk, .ref yrv, .int (nI rn), .ref yop, .ref ynu, .ref yle, .ref yk, .ref yv, .ref ysp, .int (nI prs), .ref yxk, .ref yxv, .int (nI rs), .int err, .ref yto, .ref yst, .ref ylo, .int (nI stp), .int res, .int (nI wo)]), (yop, zg E 4 oo), (ra, zi E 64 op), (ynu, zg E 4 nu), (rb, zi E 64 nn), (yle, zi E 4 (zn ln)), (q8, zi E (ln p) (zn wr3)), (q49, zi E (9 * (ln p)) (zn (va_up rs2 ((9 * i) + h) 2)))]) (by rw [grow_eq h18 hnd]) rfl rfl ?_
                                    refine z_iload 230 C0 10 dX7_firstWrong_228 rfl rfl ?_
                                    refine z_bipush 232 C0 (v := (nI 8)) dX7_firstWrong_230 rfl rfl ?_
                                    refine z_icmp_gtN 235 248 C0 (by omega) (by decide) dX7_firstWrong_232 rfl (by decide) (fun k232 => ?_) (fun k232 => ?_)
                                    · skip
                                      refine z_aload_n 249 C0 3 dX7_firstWrong_248 rfl rfl rfl ?_
                                      refine z_iload 251 C0 6 dX7_firstWrong_249 rfl rfl ?_
                                      refine z_iconst 252 C0 (v := (nI 1)) dX7_firstWrong_251 rfl rfl ?_
                                      refine z_iastN 253 C0 6 [(y, zo 7 [.int (nI sz), .ref yrk, .ref yrv, .int (nI rn), .ref yop, .ref ynu, .ref yle, .ref yk, .ref yv, .ref ysp, .int (nI prs), .ref yxk, .ref yxv, .int (nI rs), .int err, .ref yto, .ref yst, .ref ylo, .int (nI stp), .int res, .int (nI wo)]), (yop, zg E 4 oo), (ra, zi E 64 op), (ynu, zg E 4 nu), (rb, zi E 64 nn), (yle, zi E 4 (zn ln)), (q8, zi E (ln p) (zn (va_up wr3 i 1))), (q49, zi E (9 * (ln p)) (zn (va_up rs2 ((9 * i) + h) 2)))] dX7_firstWrong_252 rfl rfl (by omega) (by omega) (by rw [z_upN]; rfl) ?_
                                      refine z_goto 342 C0 dX7_firstWrong_253 (by decide) ?_
                                      refine z_iinc 345 C0 8 [1, 2, 3, 4, 5, 6, 7, 8, 0, 9, 10, 11] [(0, .ref y), (1, .int (nI p)), (2, .int (nI (ln p))), (3, .ref q8), (4, .ref q49), (5, .int (nI 1)), (6, .int (nI i)), (7, .int (nI (c + 1))), (8, .int (nI (h + 1))), (9, .int (nI 17)), (10, .int (nI (h + gU 17 - gD 17))), (11, .int (nI 0))] (v := (nI (h + 1))) dX7_firstWrong_342 rfl rfl (z_incN _ _) (by decide) rfl ?_
                                      refine z_goto 84 C0 dX7_firstWrong_345 (by decide) ?_
                                      refine z_loc [0, 1, 2, 3, 4, 5, 6, 7, 8] [(0, .ref y), (1, .int (nI p)), (2, .int (nI (ln p))), (3, .ref q8), (4, .ref q49), (5, .int (nI 1)), (6, .int (nI i)), (7, .int (nI (c + 1))), (8, .int (nI (h + 1)))] rfl ?_
                                      exact ih84 (va_up rs2 ((9 * i) + h) 2) (va_up wr3 i 1) 1 (h + 1) (c + 1) (hQ3.wrong hR ho (fun z => by have z1 := z.2.2.1; have z2 := z.2.2.2; have z3 := z.2.1; first | omega | (have z4 := z3 (by unfold hasNx; omega); omega))) (by omega) (by omega) (fun q => absurd q (by decide)) (fwH.m1 hR rfl) (Nat.le_refl 1) hmu3 (by omega)
                                    · skip
                                      refine z_iload 237 C0 11 dX7_firstWrong_235 rfl rfl ?_
                                      refine z_if_eqN 240 256 C0 (by decide) dX7_firstWrong_237 rfl (by decide) (fun k237 => ?_) (fun k237 => absurd k237 (by omega))
                                      have hok : okS p op nn (ln p) i h 17 := ⟨ho, fun q => absurd rfl q.2.1, by omega, by omega⟩
                                      have CUT291 : ∀ (rs4 : Nat → Nat), (fwQ p op nn (ln p) rs4 wr3 i h) → (fwMu (ln p) rs4 + 1 ≤ fwMu (ln p) rs0) → (hasNx 17 → rs4 (9 * (i + 1) + (h + gU 17 - gD 17)) ≠ 0) → Z E p_ l_ e_ ({ frames := 1, cells := 2, slots := 640, locals := 24 } : Room) s_ m_ args_ below_ meth_ c_ (MQ below_ (va_Qi (fun r_ w_ => ∃ r2 : Int32, (r_ = r2 ∧ w_ = [(y, zo 7 [.int (nI sz), .ref yrk, .ref yrv, .int (nI rn), .ref yop, .ref ynu, .ref yle, .ref yk, .ref yv, .ref ysp, .int (nI prs), .ref yxk, .ref yxv, .int (nI rs), .int err, .ref yto, .ref yst, .ref ylo, .int (nI stp), .int res, .int (nI wo)]), (yop, zg E 4 oo), (ra, zi E 64 op), (ynu, zg E 4 nu), (rb, zi E 64 nn), (yle, zi E 4 (zn ln))]) ∧ (fwR p op nn (ln p) r2)) (zPost E A_) A_) args_ s_ 2 640 A_) A_ 13 291 [(0, .ref y), (1, .int (nI p)), (2, .int (nI (ln p))), (3, .ref q8), (4, .ref q49), (5, .int (nI 1)), (6, .int (nI i)), (7, .int (nI (c + 1))), (8, .int (nI h)), (9, .int (nI 17)), (10, .int (nI (h + gU 17 - gD 17)))] [] [(y, zo 7 [.int (nI sz), .ref yrk, .ref yrv, .int (nI rn), .ref yop, .ref ynu, .ref yle, .ref yk, .ref yv, .ref ysp, .int (nI prs), .ref yxk, .ref yxv, .int (nI rs), .int err, .ref yto, .ref yst, .ref ylo, .int (nI stp), .int res, .int (nI wo)]), (yop, zg E 4 oo), (ra, zi E 64 op), (ynu, zg E 4 nu), (rb, zi E 64 nn), (yle, zi E 4 (zn ln)), (q8, zi E (ln p) (zn wr3)), (q49, zi E (9 * (ln p)) (zn rs4))] 2 640 := by
                                        intro rs4 hQ4 hmu4 hN4
                                        refine z_aload_n 292 C0 0 dX7_firstWrong_291 rfl rfl rfl ?_
                                        refine z_get 295 C0 0 5 wz_7 rfl (by decide) (zTs_in wk_453) dX7_firstWrong_292 rfl rfl rfl ?_
                                        refine z_iload_n 296 C0 1 dX7_firstWrong_295 rfl rfl rfl ?_
                                        refine z_aald 297 C0 3 2 dX7_firstWrong_296 rfl rfl rfl rfl (by omega) (by decide) (v := .ref rb) (by rw [hnu]; rfl) ?_
                                        refine z_iload 299 C0 6 dX7_firstWrong_297 rfl rfl ?_
                                        refine z_ialdN 300 C0 4 (v := (nn i)) dX7_firstWrong_299 rfl rfl (by omega) (by decide) rfl ?_
                                        refine z_istore 302 C0 [1, 2, 3, 4, 5, 6, 7, 8, 9, 10, 11, 0] [(0, .ref y), (1, .int (nI p)), (2, .int (nI (ln p))), (3, .ref q8), (4, .ref q49), (5, .int (nI 1)), (6, .int (nI i)), (7, .int (nI (c + 1))), (8, .int (nI h)), (9, .int (nI 17)), (10, .int (nI (h + gU 17 - gD 17))), (12, .int (nn i))] dX7_firstWrong_300 rfl (by decide) rfl ?_
                                        refine z_iload 304 C0 9 dX7_firstWrong_302 rfl rfl ?_
                                        refine z_bipush 306 C0 (v := (nI 14)) dX7_firstWrong_304 rfl rfl ?_
                                        refine z_icmp_eqN 309 316 C0 (by decide) (by decide) dX7_firstWrong_306 rfl (by decide) (fun k306 => absurd k306 (by omega)) (fun k306 => ?_)
                                        refine z_iload 311 C0 9 dX7_firstWrong_309 rfl rfl ?_
                                        refine z_bipush 313 C0 (v := (nI 15)) dX7_firstWrong_311 rfl rfl ?_
                                        refine z_icmp_neN 316 342 C0 (by decide) (by decide) dX7_firstWrong_313 rfl (by decide) (fun k313 => ?_) (fun k313 => absurd k313 (by omega))
                                        refine z_iinc 345 C0 8 [1, 2, 3, 4, 5, 6, 7, 8, 0, 9, 10, 11] [(0, .ref y), (1, .int (nI p)), (2, .int (nI (ln p))), (3, .ref q8), (4, .ref q49), (5, .int (nI 1)), (6, .int (nI i)), (7, .int (nI (c + 1))), (8, .int (nI (h + 1))), (9, .int (nI 17)), (10, .int (nI (h + gU 17 - gD 17))), (12, .int (nn i))] (v := (nI (h + 1))) dX7_firstWrong_342 rfl rfl (z_incN _ _) (by decide) rfl ?_
                                        refine z_goto 84 C0 dX7_firstWrong_345 (by decide) ?_
                                        refine z_loc [0, 1, 2, 3, 4, 5, 6, 7, 8] [(0, .ref y), (1, .int (nI p)), (2, .int (nI (ln p))), (3, .ref q8), (4, .ref q49), (5, .int (nI 1)), (6, .int (nI i)), (7, .int (nI (c + 1))), (8, .int (nI (h + 1)))] rfl ?_
                                        exact ih84 rs4 wr3 1 (h + 1) (c + 1) (hQ4.good hok hN4 (fun z => by omega)) (by omega) (by omega) (fun q => absurd q (by decide)) (fwH.m1 hR rfl) (Nat.le_refl 1) hmu4 (by omega)
                                      refine z_iload 258 C0 11 dX7_firstWrong_256 rfl rfl ?_
                                      refine z_if_eqN 261 291 C0 (by decide) dX7_firstWrong_258 rfl (by decide) (fun k258 => ?_) (fun k258 => absurd k258 (by omega))
                                      refine z_loc [0, 1, 2, 3, 4, 5, 6, 7, 8, 9, 10] [(0, .ref y), (1, .int (nI p)), (2, .int (nI (ln p))), (3, .ref q8), (4, .ref q49), (5, .int (nI 1)), (6, .int (nI i)), (7, .int (nI (c + 1))), (8, .int (nI h)), (9, .int (nI 17)), (10, .int (nI (h + gU 17 - gD 17)))] rfl ?_
                                      exact CUT291 (va_up rs2 ((9 * i) + h) 2) hQ3 hmu3 (fun z => by unfold hasNx at z; omega)
                                · skip
                                  have hpn := pNeed_le (kd := p) h18
                                  refine z_aload_n 169 C0 0 dX7_firstWrong_168 rfl rfl rfl ?_
                                  refine z_get 172 C0 0 4 wz_7 rfl (by decide) (zTs_in wk_452) dX7_firstWrong_169 rfl rfl rfl ?_
                                  refine z_iload_n 173 C0 1 dX7_firstWrong_172 rfl rfl rfl ?_
                                  refine z_aald 174 C0 1 2 dX7_firstWrong_173 rfl rfl rfl rfl (by omega) (by decide) (v := .ref ra) (by rw [hoo]; rfl) ?_
                                  refine z_iload 176 C0 6 dX7_firstWrong_174 rfl rfl ?_
                                  refine z_ialdN 177 C0 2 (v := (nI 18)) dX7_firstWrong_176 rfl rfl (by omega) (by decide) ho.2.1 ?_
                                  refine z_istore 179 C0 [1, 2, 3, 4, 5, 6, 7, 8, 9, 0] [(0, .ref y), (1, .int (nI p)), (2, .int (nI (ln p))), (3, .ref q8), (4, .ref q49), (5, .int (nI 1)), (6, .int (nI i)), (7, .int (nI (c + 1))), (8, .int (nI h)), (9, .int (nI 18))] dX7_firstWrong_177 rfl (by decide) rfl ?_
                                  refine z_iload 181 C0 8 dX7_firstWrong_179 rfl rfl ?_
                                  refine z_iload 183 C0 9 dX7_firstWrong_181 rfl rfl ?_
                                  refine z_callSi 186 C0 [] [0, 1, 2, 3, 4, 5, 6, 7] [(y, zo 7 [.int (nI sz), .ref yrk, .ref yrv, .int (nI rn), .ref yop, .ref ynu, .ref yle, .ref yk, .ref yv, .ref ysp, .int (nI prs), .ref yxk, .ref yxv, .int (nI rs), .int err, .ref yto, .ref yst, .ref ylo, .int (nI stp), .int res, .int (nI wo)]), (yop, zg E 4 oo), (ra, zi E 64 op), (ynu, zg E 4 nu), (rb, zi E 64 nn), (yle, zi E 4 (zn ln)), (q8, zi E (ln p) (zn wr3)), (q49, zi E (9 * (ln p)) (zn (va_up rs2 ((9 * i) + h) 2)))] 2 640 (As := [.int (nI 18)]) (n := 1) (grows l_ E 18 (by omega)) (zGIS (fun _ => zTs_in) wk_547 wk_545 wk_546 wk_20) rfl ⟨by decide, by decide, by decide +kernel⟩ rfl rfl (by decide) rfl rfl (Nat.le_of_ble_eq_true rfl) ⟨by decide, by decide⟩ rfl rfl ⟨by decide, by decide⟩ ⟨by decide, by decide⟩ dX7_firstWrong_183 rfl (fun r183 w183 hB183 => ?_)
                                  obtain ⟨rfl, rfl⟩ := hB183
                                  refine z_perm [0, 1, 2, 3, 4, 5, 6, 7] [(y, zo 7 [.int (nI sz), .ref yrk, .ref yrv, .int (nI rn), .ref yop, .ref ynu, .ref yle, .ref yk, .ref yv, .ref ysp, .int (nI prs), .ref yxk, .ref yxv, .int (nI rs), .int err, .ref yto, .ref yst, .ref ylo, .int (nI stp), .int res, .int (nI wo)]), (yop, zg E 4 oo), (ra, zi E 64 op), (ynu, zg E 4 nu), (rb, zi E 64 nn), (yle, zi E 4 (zn ln)), (q8, zi E (ln p) (zn wr3)), (q49, zi E (9 * (ln p)) (zn (va_up rs2 ((9 * i) + h) 2)))] (by decide) rfl ?_
                                  refine z_iadd 187 C0 (v := ((nI h) + (zGrow 18))) dX7_firstWrong_186 rfl rfl ?_
                                  refine z_istore 189 C0 [1, 2, 3, 4, 5, 6, 7, 8, 9, 10, 0] [(0, .ref y), (1, .int (nI p)), (2, .int (nI (ln p))), (3, .ref q8), (4, .ref q49), (5, .int (nI 1)), (6, .int (nI i)), (7, .int (nI (c + 1))), (8, .int (nI h)), (9, .int (nI 18)), (10, .int ((nI h) + (zGrow 18)))] dX7_firstWrong_187 rfl (by decide) rfl ?_
                                  refine z_iload 191 C0 9 dX7_firstWrong_189 rfl rfl ?_
                                  refine z_bipush 193 C0 (v := (nI 14)) dX7_firstWrong_191 rfl rfl ?_
                                  refine z_icmp_eqN 196 214 C0 (by decide) (by decide) dX7_firstWrong_193 rfl (by decide) (fun k193 => absurd k193 (by omega)) (fun k193 => ?_)
                                  refine z_iload 198 C0 9 dX7_firstWrong_196 rfl rfl ?_
                                  refine z_bipush 200 C0 (v := (nI 17)) dX7_firstWrong_198 rfl rfl ?_
                                  refine z_icmp_eqN 203 214 C0 (by decide) (by decide) dX7_firstWrong_200 rfl (by decide) (fun k200 => absurd k200 (by omega)) (fun k200 => ?_)
                                  refine z_iload 205 C0 9 dX7_firstWrong_203 rfl rfl ?_
                                  refine z_bipush 207 C0 (v := (nI 18)) dX7_firstWrong_205 rfl rfl ?_
                                  refine z_icmp_eqN 210 214 C0 (by decide) (by decide) dX7_firstWrong_207 rfl (by decide) (fun k207 => ?_) (fun k207 => absurd k207 (by omega))
                                  refine z_iconst 215 C0 (v := (nI 0)) dX7_firstWrong_214 rfl rfl ?_
                                  refine z_istore 217 C0 [1, 2, 3, 4, 5, 6, 7, 8, 9, 10, 11, 0] [(0, .ref y), (1, .int (nI p)), (2, .int (nI (ln p))), (3, .ref q8), (4, .ref q49), (5, .int (nI 1)), (6, .int (nI i)), (7, .int (nI (c + 1))), (8, .int (nI h)), (9, .int (nI 18)), (10, .int ((nI h) + (zGrow 18))), (11, .int (nI 0))] dX7_firstWrong_215 rfl (by decide) rfl ?_
                                  refine z_iload 219 C0 8 dX7_firstWrong_217 rfl rfl ?_
                                  refine z_iload_n 220 C0 1 dX7_firstWrong_219 rfl rfl rfl ?_
                                  refine z_iload 222 C0 9 dX7_firstWrong_220 rfl rfl ?_
                                  refine z_callSi 225 C0 [] [0, 1, 2, 3, 4, 5, 6, 7] [(y, zo 7 [.int (nI sz), .ref yrk, .ref yrv, .int (nI rn), .ref yop, .ref ynu, .ref yle, .ref yk, .ref yv, .ref ysp, .int (nI prs), .ref yxk, .ref yxv, .int (nI rs), .int err, .ref yto, .ref yst, .ref ylo, .int (nI stp), .int res, .int (nI wo)]), (yop, zg E 4 oo), (ra, zi E 64 op), (ynu, zg E 4 nu), (rb, zi E 64 nn), (yle, zi E 4 (zn ln)), (q8, zi E (ln p) (zn wr3)), (q49, zi E (9 * (ln p)) (zn (va_up rs2 ((9 * i) + h) 2)))] 2 640 (As := [.int (nI p), .int (nI 18)]) (n := 2) (needs l_ E p 18 (by omega) (by omega)) (zGIS (fun _ => zTs_in) wk_550 wk_548 wk_549 wk_20) rfl ⟨by decide, by decide, by decide +kernel⟩ rfl rfl (by decide) rfl rfl (Nat.le_of_ble_eq_true rfl) ⟨by decide, by decide⟩ rfl rfl ⟨by decide, by decide⟩ ⟨by decide, by decide⟩ dX7_firstWrong_222 rfl (fun r222 w222 hB222 => ?_)
                                  obtain ⟨rfl, rfl⟩ := hB222
                                  refine z_perm [0, 1, 2, 3, 4, 5, 6, 7] [(y, zo 7 [.int (nI sz), .ref yrk, .ref yrv, .int (nI rn), .ref yop, .ref ynu, .ref yle, .ref yk, .ref yv, .ref ysp, .int (nI prs), .ref yxk, .ref yxv, .int (nI rs), .int err, .ref yto, .ref yst, .ref ylo, .int (nI stp), .int res, .int (nI wo)]), (yop, zg E 4 oo), (ra, zi E 64 op), (ynu, zg E 4 nu), (rb, zi E 64 nn), (yle, zi E 4 (zn ln)), (q8, zi E (ln p) (zn wr3)), (q49, zi E (9 * (ln p)) (zn (va_up rs2 ((9 * i) + h) 2)))] (by decide) rfl ?_
                                  refine z_icmp_ltN 228 248 C0 (by omega) (by omega) dX7_firstWrong_225 rfl (by decide) (fun k225 => ?_) (fun k225 => ?_)
                                  · skip
                                    refine z_aload_n 249 C0 3 dX7_firstWrong_248 rfl rfl rfl ?_
                                    refine z_iload 251 C0 6 dX7_firstWrong_249 rfl rfl ?_
                                    refine z_iconst 252 C0 (v := (nI 1)) dX7_firstWrong_251 rfl rfl ?_
                                    refine z_iastN 253 C0 6 [(y, zo 7 [.int (nI sz), .ref yrk, .ref yrv, .int (nI rn), .ref yop, .ref ynu, .ref yle, .ref yk, .ref yv, .ref ysp, .int (nI prs), .ref yxk, .ref yxv, .int (nI rs), .int err, .ref yto, .ref yst, .ref ylo, .int (nI stp), .int res, .int (nI wo)]), (yop, zg E 4 oo), (ra, zi E 64 op), (ynu, zg E 4 nu), (rb, zi E 64 nn), (yle, zi E 4 (zn ln)), (q8, zi E (ln p) (zn (va_up wr3 i 1))), (q49, zi E (9 * (ln p)) (zn (va_up rs2 ((9 * i) + h) 2)))] dX7_firstWrong_252 rfl rfl (by omega) (by omega) (by rw [z_upN]; rfl) ?_
                                    refine z_goto 342 C0 dX7_firstWrong_253 (by decide) ?_
                                    refine z_iinc 345 C0 8 [1, 2, 3, 4, 5, 6, 7, 8, 0, 9, 10, 11] [(0, .ref y), (1, .int (nI p)), (2, .int (nI (ln p))), (3, .ref q8), (4, .ref q49), (5, .int (nI 1)), (6, .int (nI i)), (7, .int (nI (c + 1))), (8, .int (nI (h + 1))), (9, .int (nI 18)), (10, .int ((nI h) + (zGrow 18))), (11, .int (nI 0))] (v := (nI (h + 1))) dX7_firstWrong_342 rfl rfl (z_incN _ _) (by decide) rfl ?_
                                    refine z_goto 84 C0 dX7_firstWrong_345 (by decide) ?_
                                    refine z_loc [0, 1, 2, 3, 4, 5, 6, 7, 8] [(0, .ref y), (1, .int (nI p)), (2, .int (nI (ln p))), (3, .ref q8), (4, .ref q49), (5, .int (nI 1)), (6, .int (nI i)), (7, .int (nI (c + 1))), (8, .int (nI (h + 1)))] rfl ?_
                                    exact ih84 (va_up rs2 ((9 * i) + h) 2) (va_up wr3 i 1) 1 (h + 1) (c + 1) (hQ3.wrong hR ho (fun z => by have z1 := z.2.2.1; have z2 := z.2.2.2; have z3 := z.2.1; first | omega | (have z4 := z3 (by unfold hasNx; omega); omega))) (by omega) (by omega) (fun q => absurd q (by decide)) (fwH.m1 hR rfl) (Nat.le_refl 1) hmu3 (by omega)
                                  · skip
                                    have hgu := (gD_le h18).2.1
                                    have hnd : gD 18 ≤ h := pNeed_gD (kd := p) h18 (by omega)
                                    refine z_eq (L1 := [(0, .ref y), (1, .int (nI p)), (2, .int (nI (ln p))), (3, .ref q8), (4, .ref q49), (5, .int (nI 1)), (6, .int (nI i)), (7, .int (nI (c + 1))), (8, .int (nI h)), (9, .int (nI 18)), (10, .int (nI (h + gU 18 - gD 18))), (11, .int (nI 0))]) (st1 := []) (w1 := [(y, zo 7 [.int (nI sz), .ref yrk, .ref yrv, .int (nI rn), .ref yop, .ref ynu, .ref yle, .ref yk, .ref yv, .ref ysp, .int (nI prs), .ref yxk, .ref yxv, .int (nI rs), .int err, .ref yto, .ref yst, .ref ylo, .int (nI stp), .int res, .int (nI wo)]), (yop, zg E 4 oo), (ra, zi E 64 op), (ynu, zg E 4 nu), (rb, zi E 64 nn), (yle, zi E 4 (zn ln)), (q8, zi E (ln p) (zn wr3)), (q49, zi E (9 * (ln p)) (zn (va_up rs2 ((9 * i) + h) 2)))]) (by rw [grow_eq h18 hnd]) rfl rfl ?_
                                    refine z_iload 230 C0 10 dX7_firstWrong_228 rfl rfl ?_
                                    refine z_bipush 232 C0 (v := (nI 8)) dX7_firstWrong_230 rfl rfl ?_
                                    refine z_icmp_gtN 235 248 C0 (by omega) (by decide) dX7_firstWrong_232 rfl (by decide) (fun k232 => ?_) (fun k232 => ?_)
                                    · skip
                                      refine z_aload_n 249 C0 3 dX7_firstWrong_248 rfl rfl rfl ?_
                                      refine z_iload 251 C0 6 dX7_firstWrong_249 rfl rfl ?_
                                      refine z_iconst 252 C0 (v := (nI 1)) dX7_firstWrong_251 rfl rfl ?_
                                      refine z_iastN 253 C0 6 [(y, zo 7 [.int (nI sz), .ref yrk, .ref yrv, .int (nI rn), .ref yop, .ref ynu, .ref yle, .ref yk, .ref yv, .ref ysp, .int (nI prs), .ref yxk, .ref yxv, .int (nI rs), .int err, .ref yto, .ref yst, .ref ylo, .int (nI stp), .int res, .int (nI wo)]), (yop, zg E 4 oo), (ra, zi E 64 op), (ynu, zg E 4 nu), (rb, zi E 64 nn), (yle, zi E 4 (zn ln)), (q8, zi E (ln p) (zn (va_up wr3 i 1))), (q49, zi E (9 * (ln p)) (zn (va_up rs2 ((9 * i) + h) 2)))] dX7_firstWrong_252 rfl rfl (by omega) (by omega) (by rw [z_upN]; rfl) ?_
                                      refine z_goto 342 C0 dX7_firstWrong_253 (by decide) ?_
                                      refine z_iinc 345 C0 8 [1, 2, 3, 4, 5, 6, 7, 8, 0, 9, 10, 11] [(0, .ref y), (1, .int (nI p)), (2, .int (nI (ln p))), (3, .ref q8), (4, .ref q49), (5, .int (nI 1)), (6, .int (nI i)), (7, .int (nI (c + 1))), (8, .int (nI (h + 1))), (9, .int (nI 18)), (10, .int (nI (h + gU 18 - gD 18))), (11, .int (nI 0))] (v := (nI (h + 1))) dX7_firstWrong_342 rfl rfl (z_incN _ _) (by decide) rfl ?_
                                      refine z_goto 84 C0 dX7_firstWrong_345 (by decide) ?_
                                      refine z_loc [0, 1, 2, 3, 4, 5, 6, 7, 8] [(0, .ref y), (1, .int (nI p)), (2, .int (nI (ln p))), (3, .ref q8), (4, .ref q49), (5, .int (nI 1)), (6, .int (nI i)), (7, .int (nI (c + 1))), (8, .int (nI (h + 1)))] rfl ?_
                                      exact ih84 (va_up rs2 ((9 * i) + h) 2) (va_up wr3 i 1) 1 (h + 1) (c + 1) (hQ3.wrong hR ho (fun z => by have z1 := z.2.2.1; have z2 := z.2.2.2; have z3 := z.2.1; first | omega | (have z4 := z3 (by unfold hasNx; omega); omega))) (by omega) (by omega) (fun q => absurd q (by decide)) (fwH.m1 hR rfl) (Nat.le_refl 1) hmu3 (by omega)
                                    · skip
                                      refine z_iload 237 C0 11 dX7_firstWrong_235 rfl rfl ?_
                                      refine z_if_eqN 240 256 C0 (by decide) dX7_firstWrong_237 rfl (by decide) (fun k237 => ?_) (fun k237 => absurd k237 (by omega))
                                      have hok : okS p op nn (ln p) i h 18 := ⟨ho, fun q => absurd rfl q.2.2, by omega, by omega⟩
                                      have CUT291 : ∀ (rs4 : Nat → Nat), (fwQ p op nn (ln p) rs4 wr3 i h) → (fwMu (ln p) rs4 + 1 ≤ fwMu (ln p) rs0) → (hasNx 18 → rs4 (9 * (i + 1) + (h + gU 18 - gD 18)) ≠ 0) → Z E p_ l_ e_ ({ frames := 1, cells := 2, slots := 640, locals := 24 } : Room) s_ m_ args_ below_ meth_ c_ (MQ below_ (va_Qi (fun r_ w_ => ∃ r2 : Int32, (r_ = r2 ∧ w_ = [(y, zo 7 [.int (nI sz), .ref yrk, .ref yrv, .int (nI rn), .ref yop, .ref ynu, .ref yle, .ref yk, .ref yv, .ref ysp, .int (nI prs), .ref yxk, .ref yxv, .int (nI rs), .int err, .ref yto, .ref yst, .ref ylo, .int (nI stp), .int res, .int (nI wo)]), (yop, zg E 4 oo), (ra, zi E 64 op), (ynu, zg E 4 nu), (rb, zi E 64 nn), (yle, zi E 4 (zn ln))]) ∧ (fwR p op nn (ln p) r2)) (zPost E A_) A_) args_ s_ 2 640 A_) A_ 13 291 [(0, .ref y), (1, .int (nI p)), (2, .int (nI (ln p))), (3, .ref q8), (4, .ref q49), (5, .int (nI 1)), (6, .int (nI i)), (7, .int (nI (c + 1))), (8, .int (nI h)), (9, .int (nI 18)), (10, .int (nI (h + gU 18 - gD 18)))] [] [(y, zo 7 [.int (nI sz), .ref yrk, .ref yrv, .int (nI rn), .ref yop, .ref ynu, .ref yle, .ref yk, .ref yv, .ref ysp, .int (nI prs), .ref yxk, .ref yxv, .int (nI rs), .int err, .ref yto, .ref yst, .ref ylo, .int (nI stp), .int res, .int (nI wo)]), (yop, zg E 4 oo), (ra, zi E 64 op), (ynu, zg E 4 nu), (rb, zi E 64 nn), (yle, zi E 4 (zn ln)), (q8, zi E (ln p) (zn wr3)), (q49, zi E (9 * (ln p)) (zn rs4))] 2 640 := by
                                        intro rs4 hQ4 hmu4 hN4
                                        refine z_aload_n 292 C0 0 dX7_firstWrong_291 rfl rfl rfl ?_
                                        refine z_get 295 C0 0 5 wz_7 rfl (by decide) (zTs_in wk_453) dX7_firstWrong_292 rfl rfl rfl ?_
                                        refine z_iload_n 296 C0 1 dX7_firstWrong_295 rfl rfl rfl ?_
                                        refine z_aald 297 C0 3 2 dX7_firstWrong_296 rfl rfl rfl rfl (by omega) (by decide) (v := .ref rb) (by rw [hnu]; rfl) ?_
                                        refine z_iload 299 C0 6 dX7_firstWrong_297 rfl rfl ?_
                                        refine z_ialdN 300 C0 4 (v := (nn i)) dX7_firstWrong_299 rfl rfl (by omega) (by decide) rfl ?_
                                        refine z_istore 302 C0 [1, 2, 3, 4, 5, 6, 7, 8, 9, 10, 11, 0] [(0, .ref y), (1, .int (nI p)), (2, .int (nI (ln p))), (3, .ref q8), (4, .ref q49), (5, .int (nI 1)), (6, .int (nI i)), (7, .int (nI (c + 1))), (8, .int (nI h)), (9, .int (nI 18)), (10, .int (nI (h + gU 18 - gD 18))), (12, .int (nn i))] dX7_firstWrong_300 rfl (by decide) rfl ?_
                                        refine z_iload 304 C0 9 dX7_firstWrong_302 rfl rfl ?_
                                        refine z_bipush 306 C0 (v := (nI 14)) dX7_firstWrong_304 rfl rfl ?_
                                        refine z_icmp_eqN 309 316 C0 (by decide) (by decide) dX7_firstWrong_306 rfl (by decide) (fun k306 => absurd k306 (by omega)) (fun k306 => ?_)
                                        refine z_iload 311 C0 9 dX7_firstWrong_309 rfl rfl ?_
                                        refine z_bipush 313 C0 (v := (nI 15)) dX7_firstWrong_311 rfl rfl ?_
                                        refine z_icmp_neN 316 342 C0 (by decide) (by decide) dX7_firstWrong_313 rfl (by decide) (fun k313 => ?_) (fun k313 => absurd k313 (by omega))
                                        refine z_iinc 345 C0 8 [1, 2, 3, 4, 5, 6, 7, 8, 0, 9, 10, 11] [(0, .ref y), (1, .int (nI p)), (2, .int (nI (ln p))), (3, .ref q8), (4, .ref q49), (5, .int (nI 1)), (6, .int (nI i)), (7, .int (nI (c + 1))), (8, .int (nI (h + 1))), (9, .int (nI 18)), (10, .int (nI (h + gU 18 - gD 18))), (12, .int (nn i))] (v := (nI (h + 1))) dX7_firstWrong_342 rfl rfl (z_incN _ _) (by decide) rfl ?_
                                        refine z_goto 84 C0 dX7_firstWrong_345 (by decide) ?_
                                        refine z_loc [0, 1, 2, 3, 4, 5, 6, 7, 8] [(0, .ref y), (1, .int (nI p)), (2, .int (nI (ln p))), (3, .ref q8), (4, .ref q49), (5, .int (nI 1)), (6, .int (nI i)), (7, .int (nI (c + 1))), (8, .int (nI (h + 1)))] rfl ?_
                                        exact ih84 rs4 wr3 1 (h + 1) (c + 1) (hQ4.good hok hN4 (fun z => by omega)) (by omega) (by omega) (fun q => absurd q (by decide)) (fwH.m1 hR rfl) (Nat.le_refl 1) hmu4 (by omega)
                                      refine z_iload 258 C0 11 dX7_firstWrong_256 rfl rfl ?_
                                      refine z_if_eqN 261 291 C0 (by decide) dX7_firstWrong_258 rfl (by decide) (fun k258 => ?_) (fun k258 => absurd k258 (by omega))
                                      refine z_loc [0, 1, 2, 3, 4, 5, 6, 7, 8, 9, 10] [(0, .ref y), (1, .int (nI p)), (2, .int (nI (ln p))), (3, .ref q8), (4, .ref q49), (5, .int (nI 1)), (6, .int (nI i)), (7, .int (nI (c + 1))), (8, .int (nI h)), (9, .int (nI 18)), (10, .int (nI (h + gU 18 - gD 18)))] rfl ?_
                                      exact CUT291 (va_up rs2 ((9 * i) + h) 2) hQ3 hmu3 (fun z => by unfold hasNx at z; omega)
                                · skip
                                  have hpn := pNeed_le (kd := p) h18
                                  refine z_aload_n 169 C0 0 dX7_firstWrong_168 rfl rfl rfl ?_
                                  refine z_get 172 C0 0 4 wz_7 rfl (by decide) (zTs_in wk_452) dX7_firstWrong_169 rfl rfl rfl ?_
                                  refine z_iload_n 173 C0 1 dX7_firstWrong_172 rfl rfl rfl ?_
                                  refine z_aald 174 C0 1 2 dX7_firstWrong_173 rfl rfl rfl rfl (by omega) (by decide) (v := .ref ra) (by rw [hoo]; rfl) ?_
                                  refine z_iload 176 C0 6 dX7_firstWrong_174 rfl rfl ?_
                                  refine z_ialdN 177 C0 2 (v := (nI o)) dX7_firstWrong_176 rfl rfl (by omega) (by decide) ho.2.1 ?_
                                  refine z_istore 179 C0 [1, 2, 3, 4, 5, 6, 7, 8, 9, 0] [(0, .ref y), (1, .int (nI p)), (2, .int (nI (ln p))), (3, .ref q8), (4, .ref q49), (5, .int (nI 1)), (6, .int (nI i)), (7, .int (nI (c + 1))), (8, .int (nI h)), (9, .int (nI o))] dX7_firstWrong_177 rfl (by decide) rfl ?_
                                  refine z_iload 181 C0 8 dX7_firstWrong_179 rfl rfl ?_
                                  refine z_iload 183 C0 9 dX7_firstWrong_181 rfl rfl ?_
                                  refine z_callSi 186 C0 [] [0, 1, 2, 3, 4, 5, 6, 7] [(y, zo 7 [.int (nI sz), .ref yrk, .ref yrv, .int (nI rn), .ref yop, .ref ynu, .ref yle, .ref yk, .ref yv, .ref ysp, .int (nI prs), .ref yxk, .ref yxv, .int (nI rs), .int err, .ref yto, .ref yst, .ref ylo, .int (nI stp), .int res, .int (nI wo)]), (yop, zg E 4 oo), (ra, zi E 64 op), (ynu, zg E 4 nu), (rb, zi E 64 nn), (yle, zi E 4 (zn ln)), (q8, zi E (ln p) (zn wr3)), (q49, zi E (9 * (ln p)) (zn (va_up rs2 ((9 * i) + h) 2)))] 2 640 (As := [.int (nI o)]) (n := 1) (grows l_ E o (by omega)) (zGIS (fun _ => zTs_in) wk_547 wk_545 wk_546 wk_20) rfl ⟨by decide, by decide, by decide +kernel⟩ rfl rfl (by decide) rfl rfl (Nat.le_of_ble_eq_true rfl) ⟨by decide, by decide⟩ rfl rfl ⟨by decide, by decide⟩ ⟨by decide, by decide⟩ dX7_firstWrong_183 rfl (fun r183 w183 hB183 => ?_)
                                  obtain ⟨rfl, rfl⟩ := hB183
                                  refine z_perm [0, 1, 2, 3, 4, 5, 6, 7] [(y, zo 7 [.int (nI sz), .ref yrk, .ref yrv, .int (nI rn), .ref yop, .ref ynu, .ref yle, .ref yk, .ref yv, .ref ysp, .int (nI prs), .ref yxk, .ref yxv, .int (nI rs), .int err, .ref yto, .ref yst, .ref ylo, .int (nI stp), .int res, .int (nI wo)]), (yop, zg E 4 oo), (ra, zi E 64 op), (ynu, zg E 4 nu), (rb, zi E 64 nn), (yle, zi E 4 (zn ln)), (q8, zi E (ln p) (zn wr3)), (q49, zi E (9 * (ln p)) (zn (va_up rs2 ((9 * i) + h) 2)))] (by decide) rfl ?_
                                  refine z_iadd 187 C0 (v := ((nI h) + (zGrow o))) dX7_firstWrong_186 rfl rfl ?_
                                  refine z_istore 189 C0 [1, 2, 3, 4, 5, 6, 7, 8, 9, 10, 0] [(0, .ref y), (1, .int (nI p)), (2, .int (nI (ln p))), (3, .ref q8), (4, .ref q49), (5, .int (nI 1)), (6, .int (nI i)), (7, .int (nI (c + 1))), (8, .int (nI h)), (9, .int (nI o)), (10, .int ((nI h) + (zGrow o)))] dX7_firstWrong_187 rfl (by decide) rfl ?_
                                  refine z_iload 191 C0 9 dX7_firstWrong_189 rfl rfl ?_
                                  refine z_bipush 193 C0 (v := (nI 14)) dX7_firstWrong_191 rfl rfl ?_
                                  refine z_icmp_eqN 196 214 C0 (by omega) (by decide) dX7_firstWrong_193 rfl (by decide) (fun k193 => absurd k193 (by omega)) (fun k193 => ?_)
                                  refine z_iload 198 C0 9 dX7_firstWrong_196 rfl rfl ?_
                                  refine z_bipush 200 C0 (v := (nI 17)) dX7_firstWrong_198 rfl rfl ?_
                                  refine z_icmp_eqN 203 214 C0 (by omega) (by decide) dX7_firstWrong_200 rfl (by decide) (fun k200 => absurd k200 (by omega)) (fun k200 => ?_)
                                  refine z_iload 205 C0 9 dX7_firstWrong_203 rfl rfl ?_
                                  refine z_bipush 207 C0 (v := (nI 18)) dX7_firstWrong_205 rfl rfl ?_
                                  refine z_icmp_eqN 210 214 C0 (by omega) (by decide) dX7_firstWrong_207 rfl (by decide) (fun k207 => absurd k207 (by omega)) (fun k207 => ?_)
                                  refine z_iconst 211 C0 (v := (nI 1)) dX7_firstWrong_210 rfl rfl ?_
                                  refine z_goto 215 C0 dX7_firstWrong_211 (by decide) ?_
                                  refine z_istore 217 C0 [1, 2, 3, 4, 5, 6, 7, 8, 9, 10, 11, 0] [(0, .ref y), (1, .int (nI p)), (2, .int (nI (ln p))), (3, .ref q8), (4, .ref q49), (5, .int (nI 1)), (6, .int (nI i)), (7, .int (nI (c + 1))), (8, .int (nI h)), (9, .int (nI o)), (10, .int ((nI h) + (zGrow o))), (11, .int (nI 1))] dX7_firstWrong_215 rfl (by decide) rfl ?_
                                  refine z_iload 219 C0 8 dX7_firstWrong_217 rfl rfl ?_
                                  refine z_iload_n 220 C0 1 dX7_firstWrong_219 rfl rfl rfl ?_
                                  refine z_iload 222 C0 9 dX7_firstWrong_220 rfl rfl ?_
                                  refine z_callSi 225 C0 [] [0, 1, 2, 3, 4, 5, 6, 7] [(y, zo 7 [.int (nI sz), .ref yrk, .ref yrv, .int (nI rn), .ref yop, .ref ynu, .ref yle, .ref yk, .ref yv, .ref ysp, .int (nI prs), .ref yxk, .ref yxv, .int (nI rs), .int err, .ref yto, .ref yst, .ref ylo, .int (nI stp), .int res, .int (nI wo)]), (yop, zg E 4 oo), (ra, zi E 64 op), (ynu, zg E 4 nu), (rb, zi E 64 nn), (yle, zi E 4 (zn ln)), (q8, zi E (ln p) (zn wr3)), (q49, zi E (9 * (ln p)) (zn (va_up rs2 ((9 * i) + h) 2)))] 2 640 (As := [.int (nI p), .int (nI o)]) (n := 2) (needs l_ E p o (by omega) (by omega)) (zGIS (fun _ => zTs_in) wk_550 wk_548 wk_549 wk_20) rfl ⟨by decide, by decide, by decide +kernel⟩ rfl rfl (by decide) rfl rfl (Nat.le_of_ble_eq_true rfl) ⟨by decide, by decide⟩ rfl rfl ⟨by decide, by decide⟩ ⟨by decide, by decide⟩ dX7_firstWrong_222 rfl (fun r222 w222 hB222 => ?_)
                                  obtain ⟨rfl, rfl⟩ := hB222
                                  refine z_perm [0, 1, 2, 3, 4, 5, 6, 7] [(y, zo 7 [.int (nI sz), .ref yrk, .ref yrv, .int (nI rn), .ref yop, .ref ynu, .ref yle, .ref yk, .ref yv, .ref ysp, .int (nI prs), .ref yxk, .ref yxv, .int (nI rs), .int err, .ref yto, .ref yst, .ref ylo, .int (nI stp), .int res, .int (nI wo)]), (yop, zg E 4 oo), (ra, zi E 64 op), (ynu, zg E 4 nu), (rb, zi E 64 nn), (yle, zi E 4 (zn ln)), (q8, zi E (ln p) (zn wr3)), (q49, zi E (9 * (ln p)) (zn (va_up rs2 ((9 * i) + h) 2)))] (by decide) rfl ?_
                                  refine z_icmp_ltN 228 248 C0 (by omega) (by omega) dX7_firstWrong_225 rfl (by decide) (fun k225 => ?_) (fun k225 => ?_)
                                  · skip
                                    refine z_aload_n 249 C0 3 dX7_firstWrong_248 rfl rfl rfl ?_
                                    refine z_iload 251 C0 6 dX7_firstWrong_249 rfl rfl ?_
                                    refine z_iconst 252 C0 (v := (nI 1)) dX7_firstWrong_251 rfl rfl ?_
                                    refine z_iastN 253 C0 6 [(y, zo 7 [.int (nI sz), .ref yrk, .ref yrv, .int (nI rn), .ref yop, .ref ynu, .ref yle, .ref yk, .ref yv, .ref ysp, .int (nI prs), .ref yxk, .ref yxv, .int (nI rs), .int err, .ref yto, .ref yst, .ref ylo, .int (nI stp), .int res, .int (nI wo)]), (yop, zg E 4 oo), (ra, zi E 64 op), (ynu, zg E 4 nu), (rb, zi E 64 nn), (yle, zi E 4 (zn ln)), (q8, zi E (ln p) (zn (va_up wr3 i 1))), (q49, zi E (9 * (ln p)) (zn (va_up rs2 ((9 * i) + h) 2)))] dX7_firstWrong_252 rfl rfl (by omega) (by omega) (by rw [z_upN]; rfl) ?_
                                    refine z_goto 342 C0 dX7_firstWrong_253 (by decide) ?_
                                    refine z_iinc 345 C0 8 [1, 2, 3, 4, 5, 6, 7, 8, 0, 9, 10, 11] [(0, .ref y), (1, .int (nI p)), (2, .int (nI (ln p))), (3, .ref q8), (4, .ref q49), (5, .int (nI 1)), (6, .int (nI i)), (7, .int (nI (c + 1))), (8, .int (nI (h + 1))), (9, .int (nI o)), (10, .int ((nI h) + (zGrow o))), (11, .int (nI 1))] (v := (nI (h + 1))) dX7_firstWrong_342 rfl rfl (z_incN _ _) (by decide) rfl ?_
                                    refine z_goto 84 C0 dX7_firstWrong_345 (by decide) ?_
                                    refine z_loc [0, 1, 2, 3, 4, 5, 6, 7, 8] [(0, .ref y), (1, .int (nI p)), (2, .int (nI (ln p))), (3, .ref q8), (4, .ref q49), (5, .int (nI 1)), (6, .int (nI i)), (7, .int (nI (c + 1))), (8, .int (nI (h + 1)))] rfl ?_
                                    exact ih84 (va_up rs2 ((9 * i) + h) 2) (va_up wr3 i 1) 1 (h + 1) (c + 1) (hQ3.wrong hR ho (fun z => by have z1 := z.2.2.1; have z2 := z.2.2.2; have z3 := z.2.1; first | omega | (have z4 := z3 (by unfold hasNx; omega); omega))) (by omega) (by omega) (fun q => absurd q (by decide)) (fwH.m1 hR rfl) (Nat.le_refl 1) hmu3 (by omega)
                                  · skip
                                    have hgu := (gD_le h18).2.1
                                    have hnd : gD o ≤ h := pNeed_gD (kd := p) h18 (by omega)
                                    refine z_eq (L1 := [(0, .ref y), (1, .int (nI p)), (2, .int (nI (ln p))), (3, .ref q8), (4, .ref q49), (5, .int (nI 1)), (6, .int (nI i)), (7, .int (nI (c + 1))), (8, .int (nI h)), (9, .int (nI o)), (10, .int (nI (h + gU o - gD o))), (11, .int (nI 1))]) (st1 := []) (w1 := [(y, zo 7 [.int (nI sz), .ref yrk, .ref yrv, .int (nI rn), .ref yop, .ref ynu, .ref yle, .ref yk, .ref yv, .ref ysp, .int (nI prs), .ref yxk, .ref yxv, .int (nI rs), .int err, .ref yto, .ref yst, .ref ylo, .int (nI stp), .int res, .int (nI wo)]), (yop, zg E 4 oo), (ra, zi E 64 op), (ynu, zg E 4 nu), (rb, zi E 64 nn), (yle, zi E 4 (zn ln)), (q8, zi E (ln p) (zn wr3)), (q49, zi E (9 * (ln p)) (zn (va_up rs2 ((9 * i) + h) 2)))]) (by rw [grow_eq h18 hnd]) rfl rfl ?_
                                    refine z_iload 230 C0 10 dX7_firstWrong_228 rfl rfl ?_
                                    refine z_bipush 232 C0 (v := (nI 8)) dX7_firstWrong_230 rfl rfl ?_
                                    refine z_icmp_gtN 235 248 C0 (by omega) (by decide) dX7_firstWrong_232 rfl (by decide) (fun k232 => ?_) (fun k232 => ?_)
                                    · skip
                                      refine z_aload_n 249 C0 3 dX7_firstWrong_248 rfl rfl rfl ?_
                                      refine z_iload 251 C0 6 dX7_firstWrong_249 rfl rfl ?_
                                      refine z_iconst 252 C0 (v := (nI 1)) dX7_firstWrong_251 rfl rfl ?_
                                      refine z_iastN 253 C0 6 [(y, zo 7 [.int (nI sz), .ref yrk, .ref yrv, .int (nI rn), .ref yop, .ref ynu, .ref yle, .ref yk, .ref yv, .ref ysp, .int (nI prs), .ref yxk, .ref yxv, .int (nI rs), .int err, .ref yto, .ref yst, .ref ylo, .int (nI stp), .int res, .int (nI wo)]), (yop, zg E 4 oo), (ra, zi E 64 op), (ynu, zg E 4 nu), (rb, zi E 64 nn), (yle, zi E 4 (zn ln)), (q8, zi E (ln p) (zn (va_up wr3 i 1))), (q49, zi E (9 * (ln p)) (zn (va_up rs2 ((9 * i) + h) 2)))] dX7_firstWrong_252 rfl rfl (by omega) (by omega) (by rw [z_upN]; rfl) ?_
                                      refine z_goto 342 C0 dX7_firstWrong_253 (by decide) ?_
                                      refine z_iinc 345 C0 8 [1, 2, 3, 4, 5, 6, 7, 8, 0, 9, 10, 11] [(0, .ref y), (1, .int (nI p)), (2, .int (nI (ln p))), (3, .ref q8), (4, .ref q49), (5, .int (nI 1)), (6, .int (nI i)), (7, .int (nI (c + 1))), (8, .int (nI (h + 1))), (9, .int (nI o)), (10, .int (nI (h + gU o - gD o))), (11, .int (nI 1))] (v := (nI (h + 1))) dX7_firstWrong_342 rfl rfl (z_incN _ _) (by decide) rfl ?_
                                      refine z_goto 84 C0 dX7_firstWrong_345 (by decide) ?_
                                      refine z_loc [0, 1, 2, 3, 4, 5, 6, 7, 8] [(0, .ref y), (1, .int (nI p)), (2, .int (nI (ln p))), (3, .ref q8), (4, .ref q49), (5, .int (nI 1)), (6, .int (nI i)), (7, .int (nI (c + 1))), (8, .int (nI (h + 1)))] rfl ?_
                                      exact ih84 (va_up rs2 ((9 * i) + h) 2) (va_up wr3 i 1) 1 (h + 1) (c + 1) (hQ3.wrong hR ho (fun z => by have z1 := z.2.2.1; have z2 := z.2.2.2; have z3 := z.2.1; first | omega | (have z4 := z3 (by unfold hasNx; omega); omega))) (by omega) (by omega) (fun q => absurd q (by decide)) (fwH.m1 hR rfl) (Nat.le_refl 1) hmu3 (by omega)
                                    · skip
                                      refine z_iload 237 C0 11 dX7_firstWrong_235 rfl rfl ?_
                                      refine z_if_eqN 240 256 C0 (by decide) dX7_firstWrong_237 rfl (by decide) (fun k237 => absurd k237 (by omega)) (fun k237 => ?_)
                                      refine z_iload 242 C0 6 dX7_firstWrong_240 rfl rfl ?_
                                      refine z_iconst 243 C0 (v := (nI 1)) dX7_firstWrong_242 rfl rfl ?_
                                      refine z_iadd 244 C0 (v := (nI (i + 1))) dX7_firstWrong_243 rfl (nI_add _ _) ?_
                                      refine z_iload_n 245 C0 2 dX7_firstWrong_244 rfl rfl rfl ?_
                                      refine z_icmp_neN 248 256 C0 (by omega) (by omega) dX7_firstWrong_245 rfl (by decide) (fun k245 => ?_) (fun k245 => ?_)
                                      · skip
                                        have hok : okS p op nn (ln p) i h o := ⟨ho, fun _ => by omega, by omega, by omega⟩
                                        have CUT291 : ∀ (rs4 : Nat → Nat), (fwQ p op nn (ln p) rs4 wr3 i h) → (fwMu (ln p) rs4 + 1 ≤ fwMu (ln p) rs0) → (hasNx o → rs4 (9 * (i + 1) + (h + gU o - gD o)) ≠ 0) → Z E p_ l_ e_ ({ frames := 1, cells := 2, slots := 640, locals := 24 } : Room) s_ m_ args_ below_ meth_ c_ (MQ below_ (va_Qi (fun r_ w_ => ∃ r2 : Int32, (r_ = r2 ∧ w_ = [(y, zo 7 [.int (nI sz), .ref yrk, .ref yrv, .int (nI rn), .ref yop, .ref ynu, .ref yle, .ref yk, .ref yv, .ref ysp, .int (nI prs), .ref yxk, .ref yxv, .int (nI rs), .int err, .ref yto, .ref yst, .ref ylo, .int (nI stp), .int res, .int (nI wo)]), (yop, zg E 4 oo), (ra, zi E 64 op), (ynu, zg E 4 nu), (rb, zi E 64 nn), (yle, zi E 4 (zn ln))]) ∧ (fwR p op nn (ln p) r2)) (zPost E A_) A_) args_ s_ 2 640 A_) A_ 13 291 [(0, .ref y), (1, .int (nI p)), (2, .int (nI (ln p))), (3, .ref q8), (4, .ref q49), (5, .int (nI 1)), (6, .int (nI i)), (7, .int (nI (c + 1))), (8, .int (nI h)), (9, .int (nI o)), (10, .int (nI (h + gU o - gD o)))] [] [(y, zo 7 [.int (nI sz), .ref yrk, .ref yrv, .int (nI rn), .ref yop, .ref ynu, .ref yle, .ref yk, .ref yv, .ref ysp, .int (nI prs), .ref yxk, .ref yxv, .int (nI rs), .int err, .ref yto, .ref yst, .ref ylo, .int (nI stp), .int res, .int (nI wo)]), (yop, zg E 4 oo), (ra, zi E 64 op), (ynu, zg E 4 nu), (rb, zi E 64 nn), (yle, zi E 4 (zn ln)), (q8, zi E (ln p) (zn wr3)), (q49, zi E (9 * (ln p)) (zn rs4))] 2 640 := by
                                          intro rs4 hQ4 hmu4 hN4
                                          refine z_aload_n 292 C0 0 dX7_firstWrong_291 rfl rfl rfl ?_
                                          refine z_get 295 C0 0 5 wz_7 rfl (by decide) (zTs_in wk_453) dX7_firstWrong_292 rfl rfl rfl ?_
                                          refine z_iload_n 296 C0 1 dX7_firstWrong_295 rfl rfl rfl ?_
                                          refine z_aald 297 C0 3 2 dX7_firstWrong_296 rfl rfl rfl rfl (by omega) (by decide) (v := .ref rb) (by rw [hnu]; rfl) ?_
                                          refine z_iload 299 C0 6 dX7_firstWrong_297 rfl rfl ?_
                                          refine z_ialdN 300 C0 4 (v := (nn i)) dX7_firstWrong_299 rfl rfl (by omega) (by decide) rfl ?_
                                          refine z_istore 302 C0 [1, 2, 3, 4, 5, 6, 7, 8, 9, 10, 11, 0] [(0, .ref y), (1, .int (nI p)), (2, .int (nI (ln p))), (3, .ref q8), (4, .ref q49), (5, .int (nI 1)), (6, .int (nI i)), (7, .int (nI (c + 1))), (8, .int (nI h)), (9, .int (nI o)), (10, .int (nI (h + gU o - gD o))), (12, .int (nn i))] dX7_firstWrong_300 rfl (by decide) rfl ?_
                                          refine z_iload 304 C0 9 dX7_firstWrong_302 rfl rfl ?_
                                          refine z_bipush 306 C0 (v := (nI 14)) dX7_firstWrong_304 rfl rfl ?_
                                          refine z_icmp_eqN 309 316 C0 (by omega) (by decide) dX7_firstWrong_306 rfl (by decide) (fun k306 => absurd k306 (by omega)) (fun k306 => ?_)
                                          refine z_iload 311 C0 9 dX7_firstWrong_309 rfl rfl ?_
                                          refine z_bipush 313 C0 (v := (nI 15)) dX7_firstWrong_311 rfl rfl ?_
                                          refine z_icmp_neN 316 342 C0 (by omega) (by decide) dX7_firstWrong_313 rfl (by decide) (fun k313 => ?_) (fun k313 => absurd k313 (by omega))
                                          refine z_iinc 345 C0 8 [1, 2, 3, 4, 5, 6, 7, 8, 0, 9, 10, 11] [(0, .ref y), (1, .int (nI p)), (2, .int (nI (ln p))), (3, .ref q8), (4, .ref q49), (5, .int (nI 1)), (6, .int (nI i)), (7, .int (nI (c + 1))), (8, .int (nI (h + 1))), (9, .int (nI o)), (10, .int (nI (h + gU o - gD o))), (12, .int (nn i))] (v := (nI (h + 1))) dX7_firstWrong_342 rfl rfl (z_incN _ _) (by decide) rfl ?_
                                          refine z_goto 84 C0 dX7_firstWrong_345 (by decide) ?_
                                          refine z_loc [0, 1, 2, 3, 4, 5, 6, 7, 8] [(0, .ref y), (1, .int (nI p)), (2, .int (nI (ln p))), (3, .ref q8), (4, .ref q49), (5, .int (nI 1)), (6, .int (nI i)), (7, .int (nI (c + 1))), (8, .int (nI (h + 1)))] rfl ?_
                                          exact ih84 rs4 wr3 1 (h + 1) (c + 1) (hQ4.good hok hN4 (fun z => by omega)) (by omega) (by omega) (fun q => absurd q (by decide)) (fwH.m1 hR rfl) (Nat.le_refl 1) hmu4 (by omega)
                                        refine z_iload 258 C0 11 dX7_firstWrong_256 rfl rfl ?_
                                        refine z_if_eqN 261 291 C0 (by decide) dX7_firstWrong_258 rfl (by decide) (fun k258 => absurd k258 (by omega)) (fun k258 => ?_)
                                        obtain ⟨hl1, hl2, hl3⟩ := okS_next hok (by unfold hasNx; omega) hR
                                        have hb3 := hQ3.1.2.2.2.2.1 (9 * (i + 1) + (h + gU o - gD o))
                                        refine z_aload 263 C0 4 dX7_firstWrong_261 rfl rfl ?_
                                        refine z_bipush 265 C0 (v := (nI 9)) dX7_firstWrong_263 rfl rfl ?_
                                        refine z_iload 267 C0 6 dX7_firstWrong_265 rfl rfl ?_
                                        refine z_iconst 268 C0 (v := (nI 1)) dX7_firstWrong_267 rfl rfl ?_
                                        refine z_iadd 269 C0 (v := (nI (i + 1))) dX7_firstWrong_268 rfl (nI_add _ _) ?_
                                        refine z_imul 270 C0 (v := (nI (9 * (i + 1)))) dX7_firstWrong_269 rfl (pk_mul _ _) ?_
                                        refine z_iload 272 C0 10 dX7_firstWrong_270 rfl rfl ?_
                                        refine z_iadd 273 C0 (v := (nI ((9 * (i + 1)) + (h + gU o - gD o)))) dX7_firstWrong_272 rfl (nI_add _ _) ?_
                                        refine z_ialdN 274 C0 7 (v := (nI ((va_up rs2 ((9 * i) + h) 2) ((9 * (i + 1)) + (h + gU o - gD o))))) dX7_firstWrong_273 rfl rfl (by omega) (by omega) rfl ?_
                                        refine z_if_neN 277 291 C0 (by omega) dX7_firstWrong_274 rfl (by decide) (fun k274 => ?_) (fun k274 => ?_)
                                        · skip
                                          refine z_loc [0, 1, 2, 3, 4, 5, 6, 7, 8, 9, 10] [(0, .ref y), (1, .int (nI p)), (2, .int (nI (ln p))), (3, .ref q8), (4, .ref q49), (5, .int (nI 1)), (6, .int (nI i)), (7, .int (nI (c + 1))), (8, .int (nI h)), (9, .int (nI o)), (10, .int (nI (h + gU o - gD o)))] rfl ?_
                                          exact CUT291 (va_up rs2 ((9 * i) + h) 2) hQ3 hmu3 (fun _ => k274)
                                        · skip
                                          refine z_aload 279 C0 4 dX7_firstWrong_277 rfl rfl ?_
                                          refine z_bipush 281 C0 (v := (nI 9)) dX7_firstWrong_279 rfl rfl ?_
                                          refine z_iload 283 C0 6 dX7_firstWrong_281 rfl rfl ?_
                                          refine z_iconst 284 C0 (v := (nI 1)) dX7_firstWrong_283 rfl rfl ?_
                                          refine z_iadd 285 C0 (v := (nI (i + 1))) dX7_firstWrong_284 rfl (nI_add _ _) ?_
                                          refine z_imul 286 C0 (v := (nI (9 * (i + 1)))) dX7_firstWrong_285 rfl (pk_mul _ _) ?_
                                          refine z_iload 288 C0 10 dX7_firstWrong_286 rfl rfl ?_
                                          refine z_iadd 289 C0 (v := (nI ((9 * (i + 1)) + (h + gU o - gD o)))) dX7_firstWrong_288 rfl (nI_add _ _) ?_
                                          refine z_iconst 290 C0 (v := (nI 1)) dX7_firstWrong_289 rfl rfl ?_
                                          refine z_iastN 291 C0 7 [(y, zo 7 [.int (nI sz), .ref yrk, .ref yrv, .int (nI rn), .ref yop, .ref ynu, .ref yle, .ref yk, .ref yv, .ref ysp, .int (nI prs), .ref yxk, .ref yxv, .int (nI rs), .int err, .ref yto, .ref yst, .ref ylo, .int (nI stp), .int res, .int (nI wo)]), (yop, zg E 4 oo), (ra, zi E 64 op), (ynu, zg E 4 nu), (rb, zi E 64 nn), (yle, zi E 4 (zn ln)), (q8, zi E (ln p) (zn wr3)), (q49, zi E (9 * (ln p)) (zn (va_up (va_up rs2 ((9 * i) + h) 2) ((9 * (i + 1)) + (h + gU o - gD o)) 1)))] dX7_firstWrong_290 rfl rfl (by omega) (by omega) (by rw [z_upN]; rfl) ?_
                                          refine z_loc [0, 1, 2, 3, 4, 5, 6, 7, 8, 9, 10] [(0, .ref y), (1, .int (nI p)), (2, .int (nI (ln p))), (3, .ref q8), (4, .ref q49), (5, .int (nI 1)), (6, .int (nI i)), (7, .int (nI (c + 1))), (8, .int (nI h)), (9, .int (nI o)), (10, .int (nI (h + gU o - gD o)))] rfl ?_
                                          have hmu5 := fwMu_up (len := ln p) (k := 9 * (i + 1) + (h + gU o - gD o)) (v := 1) (rs := (va_up rs2 ((9 * i) + h) 2)) (by omega) (by omega) (by decide)
                                          exact CUT291 (va_up (va_up rs2 ((9 * i) + h) 2) ((9 * (i + 1)) + (h + gU o - gD o)) 1) (hQ3.mark1 hl1 hl2 hl3 k274) (by omega) (fun _ => by rw [vaup_at]; decide)
                                      · skip
                                        refine z_aload_n 249 C0 3 dX7_firstWrong_248 rfl rfl rfl ?_
                                        refine z_iload 251 C0 6 dX7_firstWrong_249 rfl rfl ?_
                                        refine z_iconst 252 C0 (v := (nI 1)) dX7_firstWrong_251 rfl rfl ?_
                                        refine z_iastN 253 C0 6 [(y, zo 7 [.int (nI sz), .ref yrk, .ref yrv, .int (nI rn), .ref yop, .ref ynu, .ref yle, .ref yk, .ref yv, .ref ysp, .int (nI prs), .ref yxk, .ref yxv, .int (nI rs), .int err, .ref yto, .ref yst, .ref ylo, .int (nI stp), .int res, .int (nI wo)]), (yop, zg E 4 oo), (ra, zi E 64 op), (ynu, zg E 4 nu), (rb, zi E 64 nn), (yle, zi E 4 (zn ln)), (q8, zi E (ln p) (zn (va_up wr3 i 1))), (q49, zi E (9 * (ln p)) (zn (va_up rs2 ((9 * i) + h) 2)))] dX7_firstWrong_252 rfl rfl (by omega) (by omega) (by rw [z_upN]; rfl) ?_
                                        refine z_goto 342 C0 dX7_firstWrong_253 (by decide) ?_
                                        refine z_iinc 345 C0 8 [1, 2, 3, 4, 5, 6, 7, 8, 0, 9, 10, 11] [(0, .ref y), (1, .int (nI p)), (2, .int (nI (ln p))), (3, .ref q8), (4, .ref q49), (5, .int (nI 1)), (6, .int (nI i)), (7, .int (nI (c + 1))), (8, .int (nI (h + 1))), (9, .int (nI o)), (10, .int (nI (h + gU o - gD o))), (11, .int (nI 1))] (v := (nI (h + 1))) dX7_firstWrong_342 rfl rfl (z_incN _ _) (by decide) rfl ?_
                                        refine z_goto 84 C0 dX7_firstWrong_345 (by decide) ?_
                                        refine z_loc [0, 1, 2, 3, 4, 5, 6, 7, 8] [(0, .ref y), (1, .int (nI p)), (2, .int (nI (ln p))), (3, .ref q8), (4, .ref q49), (5, .int (nI 1)), (6, .int (nI i)), (7, .int (nI (c + 1))), (8, .int (nI (h + 1)))] rfl ?_
                                        exact ih84 (va_up rs2 ((9 * i) + h) 2) (va_up wr3 i 1) 1 (h + 1) (c + 1) (hQ3.wrong hR ho (fun z => by have z1 := z.2.2.1; have z2 := z.2.2.2; have z3 := z.2.1; first | omega | (have z4 := z3 (by unfold hasNx; omega); omega))) (by omega) (by omega) (fun q => absurd q (by decide)) (fwH.m1 hR rfl) (Nat.le_refl 1) hmu3 (by omega)
                              · skip
                                refine z_goto 342 C0 dX7_firstWrong_165 (by decide) ?_
                                refine z_iinc 345 C0 8 [1, 2, 3, 4, 5, 6, 7, 8, 0] [(0, .ref y), (1, .int (nI p)), (2, .int (nI (ln p))), (3, .ref q8), (4, .ref q49), (5, .int (nI 1)), (6, .int (nI i)), (7, .int (nI (c + 1))), (8, .int (nI (h + 1)))] (v := (nI (h + 1))) dX7_firstWrong_342 rfl rfl (z_incN _ _) (by decide) rfl ?_
                                refine z_goto 84 C0 dX7_firstWrong_345 (by decide) ?_
                                exact ih84 (va_up rs2 ((9 * i) + h) 2) wr3 1 (h + 1) (c + 1) (hQ3.bad k162) (by omega) (by omega) (fun q => absurd q (by decide)) (fwH.m1 hR rfl) (Nat.le_refl 1) hmu3 (by omega)
                            · skip
                              refine z_goto 342 C0 dX7_firstWrong_137 (by decide) ?_
                              refine z_iinc 345 C0 8 [1, 2, 3, 4, 5, 6, 7, 8, 0] [(0, .ref y), (1, .int (nI p)), (2, .int (nI (ln p))), (3, .ref q8), (4, .ref q49), (5, .int (nI m2)), (6, .int (nI i)), (7, .int (nI (c + 1))), (8, .int (nI (h + 1)))] (v := (nI (h + 1))) dX7_firstWrong_342 rfl rfl (z_incN _ _) (by decide) rfl ?_
                              refine z_goto 84 C0 dX7_firstWrong_345 (by decide) ?_
                              exact ih84 rs2 wr3 m2 (h + 1) (c + 1) hF3 (by omega) (by omega) hS3 (hH3 k134) hmm2 hmu2 (by omega)
                          refine z_aload 93 C0 4 dX7_firstWrong_91 rfl rfl ?_
                          refine z_bipush 95 C0 (v := (nI 9)) dX7_firstWrong_93 rfl rfl ?_
                          refine z_iload 97 C0 6 dX7_firstWrong_95 rfl rfl ?_
                          refine z_imul 98 C0 (v := (nI (9 * i))) dX7_firstWrong_97 rfl (pk_mul _ _) ?_
                          refine z_iload 100 C0 8 dX7_firstWrong_98 rfl rfl ?_
                          refine z_iadd 101 C0 (v := (nI ((9 * i) + h))) dX7_firstWrong_100 rfl (nI_add _ _) ?_
                          refine z_ialdN 102 C0 7 (v := (nI (rs2 ((9 * i) + h)))) dX7_firstWrong_101 rfl rfl (by omega) (by omega) rfl ?_
                          refine z_if_neN 105 108 C0 (by omega) dX7_firstWrong_102 rfl (by decide) (fun k102 => ?_) (fun k102 => ?_)
                          · skip
                            have hR : Rch p op nn (ln p) i h := hF2.1.1 i h hiL h9 k102
                            refine z_iinc 111 C0 7 [1, 2, 3, 4, 5, 6, 7, 0, 8] [(0, .ref y), (1, .int (nI p)), (2, .int (nI (ln p))), (3, .ref q8), (4, .ref q49), (5, .int (nI m2)), (6, .int (nI i)), (7, .int (nI (c + 1))), (8, .int (nI h))] (v := (nI (c + 1))) dX7_firstWrong_108 rfl rfl (z_incN _ _) (by decide) rfl ?_
                            refine z_iload 113 C0 7 dX7_firstWrong_111 rfl rfl ?_
                            refine z_iconst 114 C0 (v := (nI 2)) dX7_firstWrong_113 rfl rfl ?_
                            refine z_icmp_neN 117 122 C0 (by omega) (by decide) dX7_firstWrong_114 rfl (by decide) (fun k114 => ?_) (fun k114 => ?_)
                            · skip
                              exact CUT122 wr2 hF2 hS2 (hH2.cntB k114 hR) k102
                            · skip
                              refine z_aload_n 118 C0 3 dX7_firstWrong_117 rfl rfl rfl ?_
                              refine z_iload 120 C0 6 dX7_firstWrong_118 rfl rfl ?_
                              refine z_iconst 121 C0 (v := (nI 1)) dX7_firstWrong_120 rfl rfl ?_
                              refine z_iastN 122 C0 6 [(y, zo 7 [.int (nI sz), .ref yrk, .ref yrv, .int (nI rn), .ref yop, .ref ynu, .ref yle, .ref yk, .ref yv, .ref ysp, .int (nI prs), .ref yxk, .ref yxv, .int (nI rs), .int err, .ref yto, .ref yst, .ref ylo, .int (nI stp), .int res, .int (nI wo)]), (yop, zg E 4 oo), (ra, zi E 64 op), (ynu, zg E 4 nu), (rb, zi E 64 nn), (yle, zi E 4 (zn ln)), (q8, zi E (ln p) (zn (va_up wr2 i 1))), (q49, zi E (9 * (ln p)) (zn rs2))] dX7_firstWrong_121 rfl rfl (by omega) (by omega) (by rw [z_upN]; rfl) ?_
                              exact CUT122 (va_up wr2 i 1) (hF2.wrong (hH2.two k114 hR)) (fun q => (hS2 q).upd 1) (hH2.cntA k114 hR) k102
                          · skip
                            refine z_goto 342 C0 dX7_firstWrong_105 (by decide) ?_
                            refine z_iinc 345 C0 8 [1, 2, 3, 4, 5, 6, 7, 8, 0] [(0, .ref y), (1, .int (nI p)), (2, .int (nI (ln p))), (3, .ref q8), (4, .ref q49), (5, .int (nI m2)), (6, .int (nI i)), (7, .int (nI c)), (8, .int (nI (h + 1)))] (v := (nI (h + 1))) dX7_firstWrong_342 rfl rfl (z_incN _ _) (by decide) rfl ?_
                            refine z_goto 84 C0 dX7_firstWrong_345 (by decide) ?_
                            exact ih84 rs2 wr2 m2 (h + 1) c hF2 (by omega) (by omega) hS2 (hH2.skip k102) hmm2 hmu2 (by omega)
                    exact CUT84 (9 - 0 + 1) rs1 wr1 m1 0 0 hF1 (Nat.zero_le 9) (Nat.le_refl 0) hS1 fwH_0 hmm1 hmu1 (Nat.lt_succ_self _)
              exact CUT72 (ln p - 0 + 1) rs0 wr0 0 0 hF0 (Nat.zero_le _) (fun _ y hy => absurd hy (Nat.not_lt_zero y)) (Nat.zero_le 1) (Nat.le_refl _) (Nat.lt_succ_self _)
        exact CUT61 (fwMu (ln p) (va_up (fun _ => 0) 0 1) + 1 + 1) (va_up (fun _ => 0) 0 1) wr 1 (fw_start h0 (by obtain rfl : i = ln p := (by omega); exact hw) hl) (fun q => absurd q (by decide)) (Nat.le_refl 1) (Nat.lt_succ_self _)
      · skip
        have hi2 : i < ln p := by omega
        refine z_aload_n 21 C0 3 dX7_firstWrong_20 rfl rfl rfl ?_
        refine z_iload 23 C0 4 dX7_firstWrong_21 rfl rfl ?_
        refine z_aload_n 24 C0 0 dX7_firstWrong_23 rfl rfl rfl ?_
        refine z_iload_n 25 C0 1 dX7_firstWrong_24 rfl rfl rfl ?_
        refine z_iload 27 C0 4 dX7_firstWrong_25 rfl rfl ?_
        refine z_callVi 30 C0 [0, 1, 2, 3, 4, 5] [6] [(q8, zi E (ln p) (zn wr))] 1 64 (As := [.int (nI p), .int (nI i)]) (T := TX7) (N := 21) (C := RX7) (ci := 7) (n := 2) 0 (isBad l_ E y sz yrk yrv rn yop ynu yle yk yv ysp prs yxk yxv rs err yto yst ylo stp res wo p oo nu ra rb op nn ln i (by omega) (by omega) (by omega) (by omega) (by omega)) (zGIV (fun _ => zTs_in) wk_542 wk_539 wk_541 wk_3 wk_20) rfl ⟨rfl, by decide, by decide, by decide +kernel⟩ rfl rfl rfl rfl (by decide) rfl rfl (Nat.le_of_ble_eq_true rfl) ⟨by decide, by decide⟩ rfl rfl ⟨by decide, by decide⟩ ⟨by decide, by decide⟩ dX7_firstWrong_27 rfl (fun r27 w27 hB27 => ?_)
        obtain ⟨rfl, rfl⟩ := hB27
        refine z_perm [1, 2, 3, 4, 5, 6, 0] [(y, zo 7 [.int (nI sz), .ref yrk, .ref yrv, .int (nI rn), .ref yop, .ref ynu, .ref yle, .ref yk, .ref yv, .ref ysp, .int (nI prs), .ref yxk, .ref yxv, .int (nI rs), .int err, .ref yto, .ref yst, .ref ylo, .int (nI stp), .int res, .int (nI wo)]), (yop, zg E 4 oo), (ra, zi E 64 op), (ynu, zg E 4 nu), (rb, zi E 64 nn), (yle, zi E 4 (zn ln)), (q8, zi E (ln p) (zn wr))] (by decide) rfl ?_
        refine z_if_eqP 33 37 C0 dX7_firstWrong_30 rfl (by decide) (fun k30 => ?_) (fun k30 => ?_)
        · skip
          refine z_iconst 38 C0 (v := (nI 0)) dX7_firstWrong_37 rfl rfl ?_
          refine z_iastN 39 C0 6 [(y, zo 7 [.int (nI sz), .ref yrk, .ref yrv, .int (nI rn), .ref yop, .ref ynu, .ref yle, .ref yk, .ref yv, .ref ysp, .int (nI prs), .ref yxk, .ref yxv, .int (nI rs), .int err, .ref yto, .ref yst, .ref ylo, .int (nI stp), .int res, .int (nI wo)]), (yop, zg E 4 oo), (ra, zi E 64 op), (ynu, zg E 4 nu), (rb, zi E 64 nn), (yle, zi E 4 (zn ln)), (q8, zi E (ln p) (zn (va_up wr i 0)))] dX7_firstWrong_38 rfl rfl (by omega) (by omega) (by rw [z_upN]; rfl) ?_
          refine z_iinc 42 C0 4 [1, 2, 3, 4, 0] [(0, .ref y), (1, .int (nI p)), (2, .int (nI (ln p))), (3, .ref q8), (4, .int (nI (i + 1)))] (v := (nI (i + 1))) dX7_firstWrong_39 rfl rfl (z_incN _ _) (by decide) rfl ?_
          refine z_goto 14 C0 dX7_firstWrong_42 (by decide) ?_
          exact ih14 (i + 1) (va_up wr i 0) (by omega) (fun x hx => by rcases Nat.lt_or_ge x i with q | q; rw [vaup_ne (by omega)]; exact hw x q; obtain rfl : x = i := (by omega); rw [vaup_at]; exact ⟨fun q => absurd q (by decide), fun q => absurd q k30⟩) (fun x => by by_cases q : x = i; subst q; rw [vaup_at]; decide; rw [vaup_ne q]; exact hl x) (by omega)
        · skip
          refine z_iconst 34 C0 (v := (nI 1)) dX7_firstWrong_33 rfl rfl ?_
          refine z_goto 38 C0 dX7_firstWrong_34 (by decide) ?_
          refine z_iastN 39 C0 6 [(y, zo 7 [.int (nI sz), .ref yrk, .ref yrv, .int (nI rn), .ref yop, .ref ynu, .ref yle, .ref yk, .ref yv, .ref ysp, .int (nI prs), .ref yxk, .ref yxv, .int (nI rs), .int err, .ref yto, .ref yst, .ref ylo, .int (nI stp), .int res, .int (nI wo)]), (yop, zg E 4 oo), (ra, zi E 64 op), (ynu, zg E 4 nu), (rb, zi E 64 nn), (yle, zi E 4 (zn ln)), (q8, zi E (ln p) (zn (va_up wr i 1)))] dX7_firstWrong_38 rfl rfl (by omega) (by omega) (by rw [z_upN]; rfl) ?_
          refine z_iinc 42 C0 4 [1, 2, 3, 4, 0] [(0, .ref y), (1, .int (nI p)), (2, .int (nI (ln p))), (3, .ref q8), (4, .int (nI (i + 1)))] (v := (nI (i + 1))) dX7_firstWrong_39 rfl rfl (z_incN _ _) (by decide) rfl ?_
          refine z_goto 14 C0 dX7_firstWrong_42 (by decide) ?_
          exact ih14 (i + 1) (va_up wr i 1) (by omega) (fun x hx => by rcases Nat.lt_or_ge x i with q | q; rw [vaup_ne (by omega)]; exact hw x q; obtain rfl : x = i := (by omega); rw [vaup_at]; exact ⟨fun _ => k30, fun _ => rfl⟩) (fun x => by by_cases q : x = i; subst q; rw [vaup_at]; decide; rw [vaup_ne q]; exact hl x) (by omega)
  exact CUT14 (ln p - 0 + 1) 0 (fun _ => 0) (Nat.zero_le _) (fun x hx => absurd hx (Nat.not_lt_zero x)) (fun _ => Nat.zero_le 1) (Nat.lt_succ_self _)
