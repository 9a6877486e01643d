theorem i32_cmp {a b : Int32} : a < b ↔ a.toInt < b.toInt := Int32.lt_iff_toInt_lt
theorem resV_k {n : Nat} {kf vf : Nat → Int32} {k w : Int32} (h : k < 0 ∨ nI n ≤ k) : resV n kf vf k w = 1099511627776 := by
  unfold resV
  rw [if_neg]
  rintro ⟨h1, h2⟩
  rcases h with h | h
  · exact h1 h
  · exact i32_nlt_of_le h h2
theorem resV_w {n : Nat} {kf vf : Nat → Int32} {k w : Int32} (h : w < 0 ∨ nI 1 < w) : resV n kf vf k w = 1099511627776 := by
  have h0 : w ≠ 0 := fun e => by rw [e] at h; exact absurd h (by decide)
  have h1 : w ≠ nI 1 := fun e => by rw [e] at h; exact absurd h (by decide)
  unfold resV
  rw [if_neg h0, if_neg h1]
  split <;> rfl
theorem w01 {w : Int32} (h : ¬ w < 0) (h1 : w ≤ nI 1) (h2 : w ≠ 0) : w = nI 1 := by
  apply Int32.toInt_inj.mp
  have a0 : (0 : Int32).toInt = 0 := by decide
  have a1 : (nI 1).toInt = 1 := by decide
  have h3 : w.toInt ≠ 0 := fun e => h2 (Int32.toInt_inj.mp (e.trans a0.symm))
  rw [Int32.lt_iff_toInt_lt] at h
  rw [Int32.le_iff_toInt_le] at h1
  omega
/-- the reference's counts in one row with its error -/
def cnF (err : Int32) (to : Nat → Nat) : Nat → Int32 := fun j => if j = 0 then err else nI (to j)
theorem cn_out {w : Int32} (h0 : w ≠ 0) (h8 : w ≠ nI 8) (h9 : w ≠ nI 9) (h : w < nI 1 ∨ nI 7 < w) : w < 0 ∨ nI 9 < w := by
  have a0 : (0 : Int32).toInt = 0 := by decide
  have a1 : (nI 1).toInt = 1 := by decide
  have a7 : (nI 7).toInt = 7 := by decide
  have a8 : (nI 8).toInt = 8 := by decide
  have a9 : (nI 9).toInt = 9 := by decide
  have b0 : w.toInt ≠ 0 := fun e => h0 (Int32.toInt_inj.mp (e.trans a0.symm))
  have b8 : w.toInt ≠ 8 := fun e => h8 (Int32.toInt_inj.mp (e.trans a8.symm))
  have b9 : w.toInt ≠ 9 := fun e => h9 (Int32.toInt_inj.mp (e.trans a9.symm))
  rw [i32_cmp, i32_cmp] at h ⊢
  omega
theorem cn_nn {w : Int32} (h : nI 1 ≤ w) : ¬ w < 0 := by
  have a0 : (0 : Int32).toInt = 0 := by decide
  have a1 : (nI 1).toInt = 1 := by decide
  rw [Int32.lt_iff_toInt_lt]
  rw [Int32.le_iff_toInt_le] at h
  omega
set_option maxHeartbeats 4000000 in
set_option maxRecDepth 100000 in
theorem is7_n (l_ : Launch) (E : zE) (j : Nat) (hj : j < 2147483648) : zMi l_ E yX7_is (zTs yX7_is cX7_is 1 (some .boolean)) ({ frames := 0, cells := 0, slots := 0, locals := 0 } : Room) [.int (nI j)] [] (fun r_ w_ => (r_ = (zb (j < 4)) ∧ w_ = [])) 0 0 := by
  refine zMi.of (cc := cX7_is) (nL := 1) (ret := (some .boolean)) (by decide) rfl (Nat.le_of_ble_eq_true rfl) ?_
  intro p_ e_ s_ m_ args_ below_ meth_ c_ A_ C0 hin0
  have C0 : zC E p_ s_ m_ args_ meth_ c_ cX7_is 1 (some .boolean) RX7 (zTs yX7_is cX7_is 1 (some .boolean)) A_ := C0
  refine z_eqL (L1 := [(0, .int (nI j))]) rfl ?_
  refine z_iload_n 1 C0 0 dX7_is_0 rfl rfl rfl ?_
  refine z_if_ltN 4 C0 13 (by omega) dX7_is_1 rfl (by decide) ?_
  refine z_iload_n 5 C0 0 dX7_is_4 rfl rfl rfl ?_
  refine z_iconst 6 C0 (v := (nI 4)) dX7_is_5 rfl rfl ?_
  refine z_icmp_geN 9 13 C0 (by omega) (by decide) dX7_is_6 rfl (by decide) (fun k6 => ?_) (fun k6 => ?_)
  · skip
    refine z_iconst 14 C0 (v := (nI 0)) dX7_is_13 rfl rfl ?_
    exact z_zret C0 rfl rfl dX7_is_14 ⟨(zb_fN (by omega)), rfl⟩ (by decide) (by decide)
  · skip
    refine z_iconst 10 C0 (v := (nI 1)) dX7_is_9 rfl rfl ?_
    refine z_goto 14 C0 dX7_is_10 (by decide) ?_
    exact z_zret C0 rfl rfl dX7_is_14 ⟨(zb_tN (by omega)), rfl⟩ (by decide) (by decide)

set_option maxHeartbeats 4000000 in
set_option maxRecDepth 100000 in
theorem is7_i (l_ : Launch) (E : zE) (z : Int32)  : zMi l_ E yX7_is (zTs yX7_is cX7_is 1 (some .boolean)) ({ frames := 0, cells := 0, slots := 0, locals := 0 } : Room) [.int z] [] (fun r_ w_ => (r_ = (zb (∃ k, k < 4 ∧ z = nI k)) ∧ w_ = [])) 0 0 := by
  refine zMi.of (cc := cX7_is) (nL := 1) (ret := (some .boolean)) (by decide) rfl (Nat.le_of_ble_eq_true rfl) ?_
  intro p_ e_ s_ m_ args_ below_ meth_ c_ A_ C0 hin0
  have C0 : zC E p_ s_ m_ args_ meth_ c_ cX7_is 1 (some .boolean) RX7 (zTs yX7_is cX7_is 1 (some .boolean)) A_ := C0
  refine z_eqL (L1 := [(0, .int z)]) rfl ?_
  refine z_iload_n 1 C0 0 dX7_is_0 rfl rfl rfl ?_
  refine z_if_lt 4 13 C0 dX7_is_1 rfl (by decide) (fun k1 => ?_) (fun k1 => ?_)
  · skip
    refine z_iconst 14 C0 (v := (nI 0)) dX7_is_13 rfl rfl ?_
    exact z_zret C0 rfl rfl dX7_is_14 ⟨(zb_fN (fun ⟨k, h1, h2⟩ => by first | (rw [h2] at k1; exact nI_pos (by omega) k1) | (rw [h2] at k6; exact nI_ge h1 (by decide) k6))), rfl⟩ (by decide) (by decide)
  · skip
    refine z_iload_n 5 C0 0 dX7_is_4 rfl rfl rfl ?_
    refine z_iconst 6 C0 (v := (nI 4)) dX7_is_5 rfl rfl ?_
    refine z_icmp_ge 9 13 C0 dX7_is_6 rfl (by decide) (fun k6 => ?_) (fun k6 => ?_)
    · skip
      refine z_iconst 14 C0 (v := (nI 0)) dX7_is_13 rfl rfl ?_
      exact z_zret C0 rfl rfl dX7_is_14 ⟨(zb_fN (fun ⟨k, h1, h2⟩ => by first | (rw [h2] at k1; exact nI_pos (by omega) k1) | (rw [h2] at k6; exact nI_ge h1 (by decide) k6))), rfl⟩ (by decide) (by decide)
    · skip
      refine z_iconst 10 C0 (v := (nI 1)) dX7_is_9 rfl rfl ?_
      refine z_goto 14 C0 dX7_is_10 (by decide) ?_
      exact z_zret C0 rfl rfl dX7_is_14 ⟨(zb_tN (nI_ltx (by decide) k1 (i32_lt_of_nle k6))), rfl⟩ (by decide) (by decide)

set_option maxHeartbeats 4000000 in
set_option maxRecDepth 100000 in
theorem record7 (l_ : Launch) (E : zE) (y : Nat) (sz : Nat) (yrk : Nat) (yrv : Nat) (rn : Nat) (yop : Nat) (ynu : Nat) (yle : Nat) (yk : Nat) (yv : Nat) (ysp : Nat) (prs : Nat) (yxk : Nat) (yxv : Nat) (rs : Nat) (err : Int32) (yto : Nat) (yst : Nat) (ylo : Nat) (stp : Nat) (res : Int32) (wo : Nat) (rf : Nat → Int32) (rg : Nat → Int32) (a : Int32) (b : Int32) (hrn : rn ≤ 120) : zMi l_ E yX7_record (zTs yX7_record cX7_record 3 (some .int)) ({ frames := 0, cells := 0, slots := 0, locals := 0 } : Room) [.ref y, .int a, .int b] [(y, zo 7 [.int (nI sz), .ref yrk, .ref yrv, .int (nI rn), .ref yop, .ref ynu, .ref yle, .ref yk, .ref yv, .ref ysp, .int (nI prs), .ref yxk, .ref yxv, .int (nI rs), .int err, .ref yto, .ref yst, .ref ylo, .int (nI stp), .int res, .int (nI wo)]), (yrk, zi E 120 rf), (yrv, zi E 120 rg)] (fun r_ w_ => (r_ = (capR 120 rn) ∧ w_ = [(y, zo 7 [.int (nI sz), .ref yrk, .ref yrv, .int (nI (capN 120 rn)), .ref yop, .ref ynu, .ref yle, .ref yk, .ref yv, .ref ysp, .int (nI prs), .ref yxk, .ref yxv, .int (nI rs), .int err, .ref yto, .ref yst, .ref ylo, .int (nI stp), .int res, .int (nI wo)]), (yrk, zi E 120 (capU 120 rn rf a)), (yrv, zi E 120 (capU 120 rn rg b))])) 0 0 := by
  refine zMi.of (cc := cX7_record) (nL := 3) (ret := (some .int)) (by decide) rfl (Nat.le_of_ble_eq_true rfl) ?_
  intro p_ e_ s_ m_ args_ below_ meth_ c_ A_ C0 hin0
  have C0 : zC E p_ s_ m_ args_ meth_ c_ cX7_record 3 (some .int) RX7 (zTs yX7_record cX7_record 3 (some .int)) A_ := C0
  refine z_eqL (L1 := [(0, .ref y), (1, .int a), (2, .int b)]) rfl ?_
  refine z_aload_n 1 C0 0 dX7_record_0 rfl rfl rfl ?_
  refine z_get 4 C0 0 3 wz_7 rfl (by decide) (zTs_in wk_451) dX7_record_1 rfl rfl rfl ?_
  refine z_bipush 6 C0 (v := (nI 120)) dX7_record_4 rfl rfl ?_
  refine z_icmp_neN 9 12 C0 (by omega) (by decide) dX7_record_6 rfl (by decide) (fun k6 => ?_) (fun k6 => ?_)
  · skip
    refine z_aload_n 13 C0 0 dX7_record_12 rfl rfl rfl ?_
    refine z_get 16 C0 0 1 wz_7 rfl (by decide) (zTs_in wk_449) dX7_record_13 rfl rfl rfl ?_
    refine z_aload_n 17 C0 0 dX7_record_16 rfl rfl rfl ?_
    refine z_get 20 C0 0 3 wz_7 rfl (by decide) (zTs_in wk_451) dX7_record_17 rfl rfl rfl ?_
    refine z_iload_n 21 C0 1 dX7_record_20 rfl rfl rfl ?_
    refine z_iastN 22 C0 1 [(y, zo 7 [.int (nI sz), .ref yrk, .ref yrv, .int (nI rn), .ref yop, .ref ynu, .ref yle, .ref yk, .ref yv, .ref ysp, .int (nI prs), .ref yxk, .ref yxv, .int (nI rs), .int err, .ref yto, .ref yst, .ref ylo, .int (nI stp), .int res, .int (nI wo)]), (yrk, zi E 120 (upd rf rn a)), (yrv, zi E 120 rg)] dX7_record_21 rfl rfl (by omega) (by decide) rfl ?_
    refine z_aload_n 23 C0 0 dX7_record_22 rfl rfl rfl ?_
    refine z_get 26 C0 0 2 wz_7 rfl (by decide) (zTs_in wk_450) dX7_record_23 rfl rfl rfl ?_
    refine z_aload_n 27 C0 0 dX7_record_26 rfl rfl rfl ?_
    refine z_get 30 C0 0 3 wz_7 rfl (by decide) (zTs_in wk_451) dX7_record_27 rfl rfl rfl ?_
    refine z_iload_n 31 C0 2 dX7_record_30 rfl rfl rfl ?_
    refine z_iastN 32 C0 2 [(y, zo 7 [.int (nI sz), .ref yrk, .ref yrv, .int (nI rn), .ref yop, .ref ynu, .ref yle, .ref yk, .ref yv, .ref ysp, .int (nI prs), .ref yxk, .ref yxv, .int (nI rs), .int err, .ref yto, .ref yst, .ref ylo, .int (nI stp), .int res, .int (nI wo)]), (yrk, zi E 120 (upd rf rn a)), (yrv, zi E 120 (upd rg rn b))] dX7_record_31 rfl rfl (by omega) (by decide) rfl ?_
    refine z_aload_n 33 C0 0 dX7_record_32 rfl rfl rfl ?_
    refine z_dup 34 C0 dX7_record_33 rfl rfl ?_
    refine z_get 37 C0 0 3 wz_7 rfl (by decide) (zTs_in wk_451) dX7_record_34 rfl rfl rfl ?_
    refine z_iconst 38 C0 (v := (nI 1)) dX7_record_37 rfl rfl ?_
    refine z_iadd 39 C0 (v := (nI (rn + 1))) dX7_record_38 rfl (nI_add _ _) ?_
    refine z_put 42 C0 0 3 [(y, zo 7 [.int (nI sz), .ref yrk, .ref yrv, .int (nI (rn + 1)), .ref yop, .ref ynu, .ref yle, .ref yk, .ref yv, .ref ysp, .int (nI prs), .ref yxk, .ref yxv, .int (nI rs), .int err, .ref yto, .ref yst, .ref ylo, .int (nI stp), .int res, .int (nI wo)]), (yrk, zi E 120 (upd rf rn a)), (yrv, zi E 120 (upd rg rn b))] wz_7 rfl (by decide) (zTs_in wk_451) tyX7 tyX7_ok nmX7 rfl rfl rfl rfl dX7_record_39 rfl rfl (Nat.le_of_ble_eq_true rfl) rfl ?_
    refine z_aload_n 43 C0 0 dX7_record_42 rfl rfl rfl ?_
    refine z_get 46 C0 0 3 wz_7 rfl (by decide) (zTs_in wk_451) dX7_record_43 rfl rfl rfl ?_
    refine z_iconst 47 C0 (v := (nI 1)) dX7_record_46 rfl rfl ?_
    refine z_isub 48 C0 (v := (nI rn)) dX7_record_47 rfl (z_subN (by omega)) ?_
    exact z_iret C0 rfl dX7_record_48 ⟨(capR_t (by omega)).symm, (by rw [capU_t (by omega), capU_t (by omega), capN_t (by omega)])⟩ (by decide) (by decide)
  · skip
    refine z_bipush 11 C0 (v := (-3)) dX7_record_9 rfl (by decide) ?_
    exact z_iret C0 rfl dX7_record_11 ⟨(capR_f (by omega)).symm, (by rw [capU_f (by omega), capU_f (by omega), capN_f (by omega)])⟩ (by decide) (by decide)

set_option maxHeartbeats 4000000 in
set_option maxRecDepth 100000 in
theorem wipe7 (l_ : Launch) (E : zE) (y : Nat) (sz : Nat) (yrk : Nat) (yrv : Nat) (rn : Nat) (yop : Nat) (ynu : Nat) (yle : Nat) (yk : Nat) (yv : Nat) (ysp : Nat) (prs : Nat) (yxk : Nat) (yxv : Nat) (rs : Nat) (err : Int32) (yto : Nat) (yst : Nat) (ylo : Nat) (stp : Nat) (res : Int32) (wo : Nat)  : zMi l_ E yX7_wipe (zTs yX7_wipe cX7_wipe 2 (some .int)) ({ frames := 0, cells := 0, slots := 0, locals := 0 } : Room) [.ref y] [(y, zo 7 [.int (nI sz), .ref yrk, .ref yrv, .int (nI rn), .ref yop, .ref ynu, .ref yle, .ref yk, .ref yv, .ref ysp, .int (nI prs), .ref yxk, .ref yxv, .int (nI rs), .int err, .ref yto, .ref yst, .ref ylo, .int (nI stp), .int res, .int (nI wo)])] (fun r_ w_ => (r_ = (nI rn) ∧ w_ = [(y, zo 7 [.int (nI sz), .ref yrk, .ref yrv, .int (nI 0), .ref yop, .ref ynu, .ref yle, .ref yk, .ref yv, .ref ysp, .int (nI prs), .ref yxk, .ref yxv, .int (nI rs), .int err, .ref yto, .ref yst, .ref ylo, .int (nI stp), .int res, .int (nI wo)])])) 0 0 := by
  refine zMi.of (cc := cX7_wipe) (nL := 2) (ret := (some .int)) (by decide) rfl (Nat.le_of_ble_eq_true rfl) ?_
  intro p_ e_ s_ m_ args_ below_ meth_ c_ A_ C0 hin0
  have C0 : zC E p_ s_ m_ args_ meth_ c_ cX7_wipe 2 (some .int) RX7 (zTs yX7_wipe cX7_wipe 2 (some .int)) A_ := C0
  refine z_eqL (L1 := [(0, .ref y)]) rfl ?_
  refine z_aload_n 1 C0 0 dX7_wipe_0 rfl rfl rfl ?_
  refine z_get 4 C0 0 3 wz_7 rfl (by decide) (zTs_in wk_451) dX7_wipe_1 rfl rfl rfl ?_
  refine z_istore_n 5 C0 [1, 0] [(0, .ref y), (1, .int (nI rn))] dX7_wipe_4 rfl rfl (by decide) rfl ?_
  refine z_aload_n 6 C0 0 dX7_wipe_5 rfl rfl rfl ?_
  refine z_iconst 7 C0 (v := (nI 0)) dX7_wipe_6 rfl rfl ?_
  refine z_put 10 C0 0 3 [(y, zo 7 [.int (nI sz), .ref yrk, .ref yrv, .int (nI 0), .ref yop, .ref ynu, .ref yle, .ref yk, .ref yv, .ref ysp, .int (nI prs), .ref yxk, .ref yxv, .int (nI rs), .int err, .ref yto, .ref yst, .ref ylo, .int (nI stp), .int res, .int (nI wo)])] wz_7 rfl (by decide) (zTs_in wk_451) tyX7 tyX7_ok nmX7 rfl rfl rfl rfl dX7_wipe_7 rfl rfl (Nat.le_of_ble_eq_true rfl) rfl ?_
  refine z_iload_n 11 C0 1 dX7_wipe_10 rfl rfl rfl ?_
  exact z_iret C0 rfl dX7_wipe_11 ⟨rfl, rfl⟩ (by decide) (by decide)

set_option maxHeartbeats 4000000 in
set_option maxRecDepth 100000 in
theorem code7_bad (l_ : Launch) (E : zE) (y : Nat) (sz : Nat) (yrk : Nat) (yrv : Nat) (rn : Nat) (yop : Nat) (ynu : Nat) (yle : Nat) (yk : Nat) (yv : Nat) (ysp : Nat) (prs : Nat) (yxk : Nat) (yxv : Nat) (rs : Nat) (err : Int32) (yto : Nat) (yst : Nat) (ylo : Nat) (stp : Nat) (res : Int32) (wo : Nat) (z : Int32) (o : Int32) (n : Int32) (hz : ¬ ∃ k, k < 4 ∧ z = nI k) : zMi l_ E yX7_code (zTs yX7_code cX7_code 4 (some .int)) ({ frames := 1, cells := 0, slots := 0, locals := 20 } : Room) [.ref y, .int z, .int o, .int n] [(y, zo 7 [.int (nI sz), .ref yrk, .ref yrv, .int (nI rn), .ref yop, .ref ynu, .ref yle, .ref yk, .ref yv, .ref ysp, .int (nI prs), .ref yxk, .ref yxv, .int (nI rs), .int err, .ref yto, .ref yst, .ref ylo, .int (nI stp), .int res, .int (nI wo)])] (fun r_ w_ => (r_ = (-1) ∧ w_ = [(y, zo 7 [.int (nI sz), .ref yrk, .ref yrv, .int (nI rn), .ref yop, .ref ynu, .ref yle, .ref yk, .ref yv, .ref ysp, .int (nI prs), .ref yxk, .ref yxv, .int (nI rs), .int err, .ref yto, .ref yst, .ref ylo, .int (nI stp), .int res, .int (nI wo)])])) 0 0 := by
  refine zMi.of (cc := cX7_code) (nL := 4) (ret := (some .int)) (by decide) rfl (Nat.le_of_ble_eq_true rfl) ?_
  intro p_ e_ s_ m_ args_ below_ meth_ c_ A_ C0 hin0
  have C0 : zC E p_ s_ m_ args_ meth_ c_ cX7_code 4 (some .int) RX7 (zTs yX7_code cX7_code 4 (some .int)) A_ := C0
  refine z_eqL (L1 := [(0, .ref y), (1, .int z), (2, .int o), (3, .int n)]) rfl ?_
  refine z_iload_n 1 C0 1 dX7_code_0 rfl rfl rfl ?_
  refine z_callSi 4 C0 [] [0] [(y, zo 7 [.int (nI sz), .ref yrk, .ref yrv, .int (nI rn), .ref yop, .ref ynu, .ref yle, .ref yk, .ref yv, .ref ysp, .int (nI prs), .ref yxk, .ref yxv, .int (nI rs), .int err, .ref yto, .ref yst, .ref ylo, .int (nI stp), .int res, .int (nI wo)])] 0 0 (As := [.int z]) (n := 1) (is7_i l_ E z ) (zGIS (fun _ => zTs_in) wk_526 wk_524 wk_525 wk_20) rfl ⟨by decide, by decide, by decide +kernel⟩ rfl rfl (by decide) rfl rfl (Nat.le_of_ble_eq_true rfl) ⟨by decide, by decide⟩ rfl rfl ⟨by decide, by decide⟩ ⟨by decide, by decide⟩ dX7_code_1 rfl (fun r1 w1 hB1 => ?_)
  obtain ⟨rfl, rfl⟩ := hB1
  refine z_perm [0] [(y, zo 7 [.int (nI sz), .ref yrk, .ref yrv, .int (nI rn), .ref yop, .ref ynu, .ref yle, .ref yk, .ref yv, .ref ysp, .int (nI prs), .ref yxk, .ref yxv, .int (nI rs), .int err, .ref yto, .ref yst, .ref ylo, .int (nI stp), .int res, .int (nI wo)])] (by decide) rfl ?_
  refine z_if_neP 7 9 C0 dX7_code_4 rfl (by decide) (fun k4 => absurd k4 hz) (fun k4 => ?_)
  refine z_iconst 8 C0 (v := (-1)) dX7_code_7 rfl (by decide) ?_
  exact z_iret C0 rfl dX7_code_8 ⟨rfl, rfl⟩ (by decide) (by decide)

set_option maxHeartbeats 4000000 in
set_option maxRecDepth 100000 in
theorem code7 (l_ : Launch) (E : zE) (y : Nat) (sz : Nat) (yrk : Nat) (yrv : Nat) (rn : Nat) (yop : Nat) (ynu : Nat) (yle : Nat) (yk : Nat) (yv : Nat) (ysp : Nat) (prs : Nat) (yxk : Nat) (yxv : Nat) (rs : Nat) (err : Int32) (yto : Nat) (yst : Nat) (ylo : Nat) (stp : Nat) (res : Int32) (wo : Nat) (p : Nat) (oo : Nat → Option Nat) (nu : Nat → Option Nat) (ra : Nat) (rb : Nat) (op : Nat → Int32) (nn : Nat → Int32) (ln : Nat → Nat) (o : Int32) (n : Int32) (hp : p < 4) (hoo : oo p = some ra) (hnu : nu p = some rb) (hlen : ln p ≤ 64) : zMi l_ E yX7_code (zTs yX7_code cX7_code 4 (some .int)) ({ frames := 1, cells := 0, slots := 0, locals := 20 } : Room) [.ref y, .int (nI p), .int o, .int n] [(y, zo 7 [.int (nI sz), .ref yrk, .ref yrv, .int (nI rn), .ref yop, .ref ynu, .ref yle, .ref yk, .ref yv, .ref ysp, .int (nI prs), .ref yxk, .ref yxv, .int (nI rs), .int err, .ref yto, .ref yst, .ref ylo, .int (nI stp), .int res, .int (nI wo)]), (yop, zg E 4 oo), (ra, zi E 64 op), (ynu, zg E 4 nu), (rb, zi E 64 nn), (yle, zi E 4 (zn ln))] (fun r_ w_ => (r_ = (capR 64 (ln p)) ∧ w_ = [(y, zo 7 [.int (nI sz), .ref yrk, .ref yrv, .int (nI rn), .ref yop, .ref ynu, .ref yle, .ref yk, .ref yv, .ref ysp, .int (nI prs), .ref yxk, .ref yxv, .int (nI rs), .int err, .ref yto, .ref yst, .ref ylo, .int (nI stp), .int res, .int (nI wo)]), (yop, zg E 4 oo), (ra, zi E 64 (capU 64 (ln p) op o)), (ynu, zg E 4 nu), (rb, zi E 64 (capU 64 (ln p) nn n)), (yle, zi E 4 (zn (va_up ln p (capN 64 (ln p)))))])) 0 0 := by
  refine zMi.of (cc := cX7_code) (nL := 4) (ret := (some .int)) (by decide) rfl (Nat.le_of_ble_eq_true rfl) ?_
  intro p_ e_ s_ m_ args_ below_ meth_ c_ A_ C0 hin0
  have C0 : zC E p_ s_ m_ args_ meth_ c_ cX7_code 4 (some .int) RX7 (zTs yX7_code cX7_code 4 (some .int)) A_ := C0
  refine z_eqL (L1 := [(0, .ref y), (1, .int (nI p)), (2, .int o), (3, .int n)]) rfl ?_
  refine z_iload_n 1 C0 1 dX7_code_0 rfl rfl rfl ?_
  refine z_callSi 4 C0 [] [0, 1, 2, 3, 4, 5] [(y, zo 7 [.int (nI sz), .ref yrk, .ref yrv, .int (nI rn), .ref yop, .ref ynu, .ref yle, .ref yk, .ref yv, .ref ysp, .int (nI prs), .ref yxk, .ref yxv, .int (nI rs), .int err, .ref yto, .ref yst, .ref ylo, .int (nI stp), .int res, .int (nI wo)]), (yop, zg E 4 oo), (ra, zi E 64 op), (ynu, zg E 4 nu), (rb, zi E 64 nn), (yle, zi E 4 (zn ln))] 0 0 (As := [.int (nI p)]) (n := 1) (is7_n l_ E p (by omega)) (zGIS (fun _ => zTs_in) wk_526 wk_524 wk_525 wk_20) rfl ⟨by decide, by decide, by decide +kernel⟩ rfl rfl (by decide) rfl rfl (Nat.le_of_ble_eq_true rfl) ⟨by decide, by decide⟩ rfl rfl ⟨by decide, by decide⟩ ⟨by decide, by decide⟩ dX7_code_1 rfl (fun r1 w1 hB1 => ?_)
  obtain ⟨rfl, rfl⟩ := hB1
  refine z_perm [0, 1, 2, 3, 4, 5] [(y, zo 7 [.int (nI sz), .ref yrk, .ref yrv, .int (nI rn), .ref yop, .ref ynu, .ref yle, .ref yk, .ref yv, .ref ysp, .int (nI prs), .ref yxk, .ref yxv, .int (nI rs), .int err, .ref yto, .ref yst, .ref ylo, .int (nI stp), .int res, .int (nI wo)]), (yop, zg E 4 oo), (ra, zi E 64 op), (ynu, zg E 4 nu), (rb, zi E 64 nn), (yle, zi E 4 (zn ln))] (by decide) rfl ?_
  refine z_if_neP 7 9 C0 dX7_code_4 rfl (by decide) (fun k4 => ?_) (fun k4 => absurd k4 (fun q => q hp))
  refine z_aload_n 10 C0 0 dX7_code_9 rfl rfl rfl ?_
  refine z_get 13 C0 0 6 wz_7 rfl (by decide) (zTs_in wk_454) dX7_code_10 rfl rfl rfl ?_
  refine z_iload_n 14 C0 1 dX7_code_13 rfl rfl rfl ?_
  refine z_ialdN 15 C0 5 (v := (nI (ln p))) dX7_code_14 rfl rfl (by omega) (by decide) rfl ?_
  refine z_bipush 17 C0 (v := (nI 64)) dX7_code_15 rfl rfl ?_
  refine z_icmp_neN 20 23 C0 (by omega) (by decide) dX7_code_17 rfl (by decide) (fun k17 => ?_) (fun k17 => ?_)
  · skip
    refine z_aload_n 24 C0 0 dX7_code_23 rfl rfl rfl ?_
    refine z_get 27 C0 0 4 wz_7 rfl (by decide) (zTs_in wk_452) dX7_code_24 rfl rfl rfl ?_
    refine z_iload_n 28 C0 1 dX7_code_27 rfl rfl rfl ?_
    refine z_aald 29 C0 1 2 dX7_code_28 rfl rfl rfl rfl (by omega) (by decide) (v := .ref ra) (by rw [hoo]; rfl) ?_
    refine z_aload_n 30 C0 0 dX7_code_29 rfl rfl rfl ?_
    refine z_get 33 C0 0 6 wz_7 rfl (by decide) (zTs_in wk_454) dX7_code_30 rfl rfl rfl ?_
    refine z_iload_n 34 C0 1 dX7_code_33 rfl rfl rfl ?_
    refine z_ialdN 35 C0 5 (v := (nI (ln p))) dX7_code_34 rfl rfl (by omega) (by decide) rfl ?_
    refine z_iload_n 36 C0 2 dX7_code_35 rfl rfl rfl ?_
    refine z_iastN 37 C0 2 [(y, zo 7 [.int (nI sz), .ref yrk, .ref yrv, .int (nI rn), .ref yop, .ref ynu, .ref yle, .ref yk, .ref yv, .ref ysp, .int (nI prs), .ref yxk, .ref yxv, .int (nI rs), .int err, .ref yto, .ref yst, .ref ylo, .int (nI stp), .int res, .int (nI wo)]), (yop, zg E 4 oo), (ra, zi E 64 (upd op (ln p) o)), (ynu, zg E 4 nu), (rb, zi E 64 nn), (yle, zi E 4 (zn ln))] dX7_code_36 rfl rfl (by omega) (by decide) rfl ?_
    refine z_aload_n 38 C0 0 dX7_code_37 rfl rfl rfl ?_
    refine z_get 41 C0 0 5 wz_7 rfl (by decide) (zTs_in wk_453) dX7_code_38 rfl rfl rfl ?_
    refine z_iload_n 42 C0 1 dX7_code_41 rfl rfl rfl ?_
    refine z_aald 43 C0 3 2 dX7_code_42 rfl rfl rfl rfl (by omega) (by decide) (v := .ref rb) (by rw [hnu]; rfl) ?_
    refine z_aload_n 44 C0 0 dX7_code_43 rfl rfl rfl ?_
    refine z_get 47 C0 0 6 wz_7 rfl (by decide) (zTs_in wk_454) dX7_code_44 rfl rfl rfl ?_
    refine z_iload_n 48 C0 1 dX7_code_47 rfl rfl rfl ?_
    refine z_ialdN 49 C0 5 (v := (nI (ln p))) dX7_code_48 rfl rfl (by omega) (by decide) rfl ?_
    refine z_iload_n 50 C0 3 dX7_code_49 rfl rfl rfl ?_
    refine z_iastN 51 C0 4 [(y, zo 7 [.int (nI sz), .ref yrk, .ref yrv, .int (nI rn), .ref yop, .ref ynu, .ref yle, .ref yk, .ref yv, .ref ysp, .int (nI prs), .ref yxk, .ref yxv, .int (nI rs), .int err, .ref yto, .ref yst, .ref ylo, .int (nI stp), .int res, .int (nI wo)]), (yop, zg E 4 oo), (ra, zi E 64 (upd op (ln p) o)), (ynu, zg E 4 nu), (rb, zi E 64 (upd nn (ln p) n)), (yle, zi E 4 (zn ln))] dX7_code_50 rfl rfl (by omega) (by decide) rfl ?_
    refine z_aload_n 52 C0 0 dX7_code_51 rfl rfl rfl ?_
    refine z_get 55 C0 0 6 wz_7 rfl (by decide) (zTs_in wk_454) dX7_code_52 rfl rfl rfl ?_
    refine z_iload_n 56 C0 1 dX7_code_55 rfl rfl rfl ?_
    refine z_dup2 57 C0 dX7_code_56 rfl rfl rfl ?_
    refine z_ialdN 58 C0 5 (v := (nI (ln p))) dX7_code_57 rfl rfl (by omega) (by decide) rfl ?_
    refine z_iconst 59 C0 (v := (nI 1)) dX7_code_58 rfl rfl ?_
    refine z_iadd 60 C0 (v := (nI ((ln p) + 1))) dX7_code_59 rfl (nI_add _ _) ?_
    refine z_iastN 61 C0 5 [(y, zo 7 [.int (nI sz), .ref yrk, .ref yrv, .int (nI rn), .ref yop, .ref ynu, .ref yle, .ref yk, .ref yv, .ref ysp, .int (nI prs), .ref yxk, .ref yxv, .int (nI rs), .int err, .ref yto, .ref yst, .ref ylo, .int (nI stp), .int res, .int (nI wo)]), (yop, zg E 4 oo), (ra, zi E 64 (upd op (ln p) o)), (ynu, zg E 4 nu), (rb, zi E 64 (upd nn (ln p) n)), (yle, zi E 4 (zn (va_up ln p ((ln p) + 1))))] dX7_code_60 rfl rfl (by omega) (by decide) (by rw [z_upN]; rfl) ?_
    refine z_aload_n 62 C0 0 dX7_code_61 rfl rfl rfl ?_
    refine z_get 65 C0 0 6 wz_7 rfl (by decide) (zTs_in wk_454) dX7_code_62 rfl rfl rfl ?_
    refine z_iload_n 66 C0 1 dX7_code_65 rfl rfl rfl ?_
    refine z_ialdN 67 C0 5 (v := (nI (ln p + 1))) dX7_code_66 rfl rfl (by omega) (by decide) (congrArg nI vaup_at) ?_
    refine z_iconst 68 C0 (v := (nI 1)) dX7_code_67 rfl rfl ?_
    refine z_isub 69 C0 (v := (nI (ln p))) dX7_code_68 rfl (z_subN (by omega)) ?_
    exact z_iret C0 rfl dX7_code_69 ⟨(capR_t (by omega)).symm, (by rw [capU_t (by omega), capU_t (by omega), capN_t (by omega)])⟩ (by decide) (by decide)
  · skip
    refine z_bipush 22 C0 (v := (-3)) dX7_code_20 rfl (by decide) ?_
    exact z_iret C0 rfl dX7_code_22 ⟨(capR_f (by omega)).symm, (by rw [capU_f (by omega), capU_f (by omega), capN_f (by omega), show va_up ln p (ln p) = ln from z_up_self ln p])⟩ (by decide) (by decide)

set_option maxHeartbeats 4000000 in
set_option maxRecDepth 100000 in
theorem clear7_bad (l_ : Launch) (E : zE) (y : Nat) (sz : Nat) (yrk : Nat) (yrv : Nat) (rn : Nat) (yop : Nat) (ynu : Nat) (yle : Nat) (yk : Nat) (yv : Nat) (ysp : Nat) (prs : Nat) (yxk : Nat) (yxv : Nat) (rs : Nat) (err : Int32) (yto : Nat) (yst : Nat) (ylo : Nat) (stp : Nat) (res : Int32) (wo : Nat) (z : Int32) (hz : ¬ ∃ k, k < 4 ∧ z = nI k) : zMi l_ E yX7_clear (zTs yX7_clear cX7_clear 3 (some .int)) ({ frames := 1, cells := 0, slots := 0, locals := 20 } : Room) [.ref y, .int z] [(y, zo 7 [.int (nI sz), .ref yrk, .ref yrv, .int (nI rn), .ref yop, .ref ynu, .ref yle, .ref yk, .ref yv, .ref ysp, .int (nI prs), .ref yxk, .ref yxv, .int (nI rs), .int err, .ref yto, .ref yst, .ref ylo, .int (nI stp), .int res, .int (nI wo)])] (fun r_ w_ => (r_ = (-1) ∧ w_ = [(y, zo 7 [.int (nI sz), .ref yrk, .ref yrv, .int (nI rn), .ref yop, .ref ynu, .ref yle, .ref yk, .ref yv, .ref ysp, .int (nI prs), .ref yxk, .ref yxv, .int (nI rs), .int err, .ref yto, .ref yst, .ref ylo, .int (nI stp), .int res, .int (nI wo)])])) 0 0 := by
  refine zMi.of (cc := cX7_clear) (nL := 3) (ret := (some .int)) (by decide) rfl (Nat.le_of_ble_eq_true rfl) ?_
  intro p_ e_ s_ m_ args_ below_ meth_ c_ A_ C0 hin0
  have C0 : zC E p_ s_ m_ args_ meth_ c_ cX7_clear 3 (some .int) RX7 (zTs yX7_clear cX7_clear 3 (some .int)) A_ := C0
  refine z_eqL (L1 := [(0, .ref y), (1, .int z)]) rfl ?_
  refine z_iload_n 1 C0 1 dX7_clear_0 rfl rfl rfl ?_
  refine z_callSi 4 C0 [] [0] [(y, zo 7 [.int (nI sz), .ref yrk, .ref yrv, .int (nI rn), .ref yop, .ref ynu, .ref yle, .ref yk, .ref yv, .ref ysp, .int (nI prs), .ref yxk, .ref yxv, .int (nI rs), .int err, .ref yto, .ref yst, .ref ylo, .int (nI stp), .int res, .int (nI wo)])] 0 0 (As := [.int z]) (n := 1) (is7_i l_ E z ) (zGIS (fun _ => zTs_in) wk_526 wk_524 wk_525 wk_20) rfl ⟨by decide, by decide, by decide +kernel⟩ rfl rfl (by decide) rfl rfl (Nat.le_of_ble_eq_true rfl) ⟨by decide, by decide⟩ rfl rfl ⟨by decide, by decide⟩ ⟨by decide, by decide⟩ dX7_clear_1 rfl (fun r1 w1 hB1 => ?_)
  obtain ⟨rfl, rfl⟩ := hB1
  refine z_perm [0] [(y, zo 7 [.int (nI sz), .ref yrk, .ref yrv, .int (nI rn), .ref yop, .ref ynu, .ref yle, .ref yk, .ref yv, .ref ysp, .int (nI prs), .ref yxk, .ref yxv, .int (nI rs), .int err, .ref yto, .ref yst, .ref ylo, .int (nI stp), .int res, .int (nI wo)])] (by decide) rfl ?_
  refine z_if_neP 7 9 C0 dX7_clear_4 rfl (by decide) (fun k4 => absurd k4 hz) (fun k4 => ?_)
  refine z_iconst 8 C0 (v := (-1)) dX7_clear_7 rfl (by decide) ?_
  exact z_iret C0 rfl dX7_clear_8 ⟨rfl, rfl⟩ (by decide) (by decide)

set_option maxHeartbeats 4000000 in
set_option maxRecDepth 100000 in
theorem clear7 (l_ : Launch) (E : zE) (y : Nat) (sz : Nat) (yrk : Nat) (yrv : Nat) (rn : Nat) (yop : Nat) (ynu : Nat) (yle : Nat) (yk : Nat) (yv : Nat) (ysp : Nat) (prs : Nat) (yxk : Nat) (yxv : Nat) (rs : Nat) (err : Int32) (yto : Nat) (yst : Nat) (ylo : Nat) (stp : Nat) (res : Int32) (wo : Nat) (p : Nat) (ln : Nat → Nat) (hp : p < 4) : zMi l_ E yX7_clear (zTs yX7_clear cX7_clear 3 (some .int)) ({ frames := 1, cells := 0, slots := 0, locals := 20 } : Room) [.ref y, .int (nI p)] [(y, zo 7 [.int (nI sz), .ref yrk, .ref yrv, .int (nI rn), .ref yop, .ref ynu, .ref yle, .ref yk, .ref yv, .ref ysp, .int (nI prs), .ref yxk, .ref yxv, .int (nI rs), .int err, .ref yto, .ref yst, .ref ylo, .int (nI stp), .int res, .int (nI wo)]), (yle, zi E 4 (zn ln))] (fun r_ w_ => (r_ = (nI (ln p)) ∧ w_ = [(y, zo 7 [.int (nI sz), .ref yrk, .ref yrv, .int (nI rn), .ref yop, .ref ynu, .ref yle, .ref yk, .ref yv, .ref ysp, .int (nI prs), .ref yxk, .ref yxv, .int (nI rs), .int err, .ref yto, .ref yst, .ref ylo, .int (nI stp), .int res, .int (nI wo)]), (yle, zi E 4 (zn (va_up ln p 0)))])) 0 0 := by
  refine zMi.of (cc := cX7_clear) (nL := 3) (ret := (some .int)) (by decide) rfl (Nat.le_of_ble_eq_true rfl) ?_
  intro p_ e_ s_ m_ args_ below_ meth_ c_ A_ C0 hin0
  have C0 : zC E p_ s_ m_ args_ meth_ c_ cX7_clear 3 (some .int) RX7 (zTs yX7_clear cX7_clear 3 (some .int)) A_ := C0
  refine z_eqL (L1 := [(0, .ref y), (1, .int (nI p))]) rfl ?_
  refine z_iload_n 1 C0 1 dX7_clear_0 rfl rfl rfl ?_
  refine z_callSi 4 C0 [] [0, 1] [(y, zo 7 [.int (nI sz), .ref yrk, .ref yrv, .int (nI rn), .ref yop, .ref ynu, .ref yle, .ref yk, .ref yv, .ref ysp, .int (nI prs), .ref yxk, .ref yxv, .int (nI rs), .int err, .ref yto, .ref yst, .ref ylo, .int (nI stp), .int res, .int (nI wo)]), (yle, zi E 4 (zn ln))] 0 0 (As := [.int (nI p)]) (n := 1) (is7_n l_ E p (by omega)) (zGIS (fun _ => zTs_in) wk_526 wk_524 wk_525 wk_20) rfl ⟨by decide, by decide, by decide +kernel⟩ rfl rfl (by decide) rfl rfl (Nat.le_of_ble_eq_true rfl) ⟨by decide, by decide⟩ rfl rfl ⟨by decide, by decide⟩ ⟨by decide, by decide⟩ dX7_clear_1 rfl (fun r1 w1 hB1 => ?_)
  obtain ⟨rfl, rfl⟩ := hB1
  refine z_perm [0, 1] [(y, zo 7 [.int (nI sz), .ref yrk, .ref yrv, .int (nI rn), .ref yop, .ref ynu, .ref yle, .ref yk, .ref yv, .ref ysp, .int (nI prs), .ref yxk, .ref yxv, .int (nI rs), .int err, .ref yto, .ref yst, .ref ylo, .int (nI stp), .int res, .int (nI wo)]), (yle, zi E 4 (zn ln))] (by decide) rfl ?_
  refine z_if_neP 7 9 C0 dX7_clear_4 rfl (by decide) (fun k4 => ?_) (fun k4 => absurd k4 (fun q => q hp))
  refine z_aload_n 10 C0 0 dX7_clear_9 rfl rfl rfl ?_
  refine z_get 13 C0 0 6 wz_7 rfl (by decide) (zTs_in wk_454) dX7_clear_10 rfl rfl rfl ?_
  refine z_iload_n 14 C0 1 dX7_clear_13 rfl rfl rfl ?_
  refine z_ialdN 15 C0 1 (v := (nI (ln p))) dX7_clear_14 rfl rfl (by omega) (by decide) rfl ?_
  refine z_istore_n 16 C0 [1, 2, 0] [(0, .ref y), (1, .int (nI p)), (2, .int (nI (ln p)))] dX7_clear_15 rfl rfl (by decide) rfl ?_
  refine z_aload_n 17 C0 0 dX7_clear_16 rfl rfl rfl ?_
  refine z_get 20 C0 0 6 wz_7 rfl (by decide) (zTs_in wk_454) dX7_clear_17 rfl rfl rfl ?_
  refine z_iload_n 21 C0 1 dX7_clear_20 rfl rfl rfl ?_
  refine z_iconst 22 C0 (v := (nI 0)) dX7_clear_21 rfl rfl ?_
  refine z_iastN 23 C0 1 [(y, zo 7 [.int (nI sz), .ref yrk, .ref yrv, .int (nI rn), .ref yop, .ref ynu, .ref yle, .ref yk, .ref yv, .ref ysp, .int (nI prs), .ref yxk, .ref yxv, .int (nI rs), .int err, .ref yto, .ref yst, .ref ylo, .int (nI stp), .int res, .int (nI wo)]), (yle, zi E 4 (zn (va_up ln p 0)))] dX7_clear_22 rfl rfl (by omega) (by decide) (by rw [z_upN]; rfl) ?_
  refine z_iload_n 24 C0 2 dX7_clear_23 rfl rfl rfl ?_
  exact z_iret C0 rfl dX7_clear_24 ⟨rfl, rfl⟩ (by decide) (by decide)

set_option maxHeartbeats 4000000 in
set_option maxRecDepth 100000 in
theorem check7_bad (l_ : Launch) (E : zE) (y : Nat) (sz : Nat) (yrk : Nat) (yrv : Nat) (rn : Nat) (yop : Nat) (ynu : Nat) (yle : Nat) (yk : Nat) (yv : Nat) (ysp : Nat) (prs : Nat) (yxk : Nat) (yxv : Nat) (rs : Nat) (err : Int32) (yto : Nat) (yst : Nat) (ylo : Nat) (stp : Nat) (res : Int32) (wo : Nat) (z : Int32) (hz : ¬ ∃ k, k < 4 ∧ z = nI k) : zMi l_ E yX7_check (zTs yX7_check cX7_check 2 (some .int)) ({ frames := 2, cells := 2, slots := 640, locals := 56 } : Room) [.ref y, .int z] [(y, zo 7 [.int (nI sz), .ref yrk, .ref yrv, .int (nI rn), .ref yop, .ref ynu, .ref yle, .ref yk, .ref yv, .ref ysp, .int (nI prs), .ref yxk, .ref yxv, .int (nI rs), .int err, .ref yto, .ref yst, .ref ylo, .int (nI stp), .int res, .int (nI wo)])] (fun r_ w_ => (r_ = (-1) ∧ w_ = [(y, zo 7 [.int (nI sz), .ref yrk, .ref yrv, .int (nI rn), .ref yop, .ref ynu, .ref yle, .ref yk, .ref yv, .ref ysp, .int (nI prs), .ref yxk, .ref yxv, .int (nI rs), .int err, .ref yto, .ref yst, .ref ylo, .int (nI stp), .int res, .int (nI wo)])])) 2 640 := by
  refine zMi.of (cc := cX7_check) (nL := 2) (ret := (some .int)) (by decide) rfl (Nat.le_of_ble_eq_true rfl) ?_
  intro p_ e_ s_ m_ args_ below_ meth_ c_ A_ C0 hin0
  have C0 : zC E p_ s_ m_ args_ meth_ c_ cX7_check 2 (some .int) RX7 (zTs yX7_check cX7_check 2 (some .int)) A_ := C0
  refine z_eqL (L1 := [(0, .ref y), (1, .int z)]) rfl ?_
  refine z_iload_n 1 C0 1 dX7_check_0 rfl rfl rfl ?_
  refine z_callSi 4 C0 [] [0] [(y, zo 7 [.int (nI sz), .ref yrk, .ref yrv, .int (nI rn), .ref yop, .ref ynu, .ref yle, .ref yk, .ref yv, .ref ysp, .int (nI prs), .ref yxk, .ref yxv, .int (nI rs), .int err, .ref yto, .ref yst, .ref ylo, .int (nI stp), .int res, .int (nI wo)])] 0 0 (As := [.int z]) (n := 1) (is7_i l_ E z ) (zGIS (fun _ => zTs_in) wk_526 wk_524 wk_525 wk_20) rfl ⟨by decide, by decide, by decide +kernel⟩ rfl rfl (by decide) rfl rfl (Nat.le_of_ble_eq_true rfl) ⟨by decide, by decide⟩ rfl rfl ⟨by decide, by decide⟩ ⟨by decide, by decide⟩ dX7_check_1 rfl (fun r1 w1 hB1 => ?_)
  obtain ⟨rfl, rfl⟩ := hB1
  refine z_perm [0] [(y, zo 7 [.int (nI sz), .ref yrk, .ref yrv, .int (nI rn), .ref yop, .ref ynu, .ref yle, .ref yk, .ref yv, .ref ysp, .int (nI prs), .ref yxk, .ref yxv, .int (nI rs), .int err, .ref yto, .ref yst, .ref ylo, .int (nI stp), .int res, .int (nI wo)])] (by decide) rfl ?_
  refine z_if_neP 7 9 C0 dX7_check_4 rfl (by decide) (fun k4 => absurd k4 hz) (fun k4 => ?_)
  refine z_iconst 8 C0 (v := (-1)) dX7_check_7 rfl (by decide) ?_
  exact z_iret C0 rfl dX7_check_8 ⟨rfl, rfl⟩ (by decide) (by decide)

set_option maxHeartbeats 4000000 in
set_option maxRecDepth 100000 in
theorem check7 (l_ : Launch) (E : zE) (y : Nat) (sz : Nat) (yrk : Nat) (yrv : Nat) (rn : Nat) (yop : Nat) (ynu : Nat) (yle : Nat) (yk : Nat) (yv : Nat) (ysp : Nat) (prs : Nat) (yxk : Nat) (yxv : Nat) (rs : Nat) (err : Int32) (yto : Nat) (yst : Nat) (ylo : Nat) (stp : Nat) (res : Int32) (wo : Nat) (p : Nat) (oo : Nat → Option Nat) (nu : Nat → Option Nat) (ra : Nat) (rb : Nat) (op : Nat → Int32) (nn : Nat → Int32) (ln : Nat → Nat) (hp : p < 4) (hoo : oo p = some ra) (hnu : nu p = some rb) (hlen : ln p ≤ 64) : zMi l_ E yX7_check (zTs yX7_check cX7_check 2 (some .int)) ({ frames := 2, cells := 2, slots := 640, locals := 56 } : Room) [.ref y, .int (nI p)] [(y, zo 7 [.int (nI sz), .ref yrk, .ref yrv, .int (nI rn), .ref yop, .ref ynu, .ref yle, .ref yk, .ref yv, .ref ysp, .int (nI prs), .ref yxk, .ref yxv, .int (nI rs), .int err, .ref yto, .ref yst, .ref ylo, .int (nI stp), .int res, .int (nI wo)]), (yop, zg E 4 oo), (ra, zi E 64 op), (ynu, zg E 4 nu), (rb, zi E 64 nn), (yle, zi E 4 (zn ln))] (fun r_ w_ => ∃ r2 : Int32, (r_ = r2 ∧ w_ = [(y, zo 7 [.int (nI sz), .ref yrk, .ref yrv, .int (nI rn), .ref yop, .ref ynu, .ref yle, .ref yk, .ref yv, .ref ysp, .int (nI prs), .ref yxk, .ref yxv, .int (nI rs), .int err, .ref yto, .ref yst, .ref ylo, .int (nI stp), .int res, .int (nI wo)]), (yop, zg E 4 oo), (ra, zi E 64 op), (ynu, zg E 4 nu), (rb, zi E 64 nn), (yle, zi E 4 (zn ln))]) ∧ (chkR p op nn (ln p) r2)) 2 640 := by
  refine zMi.of (cc := cX7_check) (nL := 2) (ret := (some .int)) (by decide) rfl (Nat.le_of_ble_eq_true rfl) ?_
  intro p_ e_ s_ m_ args_ below_ meth_ c_ A_ C0 hin0
  have C0 : zC E p_ s_ m_ args_ meth_ c_ cX7_check 2 (some .int) RX7 (zTs yX7_check cX7_check 2 (some .int)) A_ := C0
  refine z_eqL (L1 := [(0, .ref y), (1, .int (nI p))]) rfl ?_
  refine z_iload_n 1 C0 1 dX7_check_0 rfl rfl rfl ?_
  refine z_callSi 4 C0 [] [0, 1, 2, 3, 4, 5] [(y, zo 7 [.int (nI sz), .ref yrk, .ref yrv, .int (nI rn), .ref yop, .ref ynu, .ref yle, .ref yk, .ref yv, .ref ysp, .int (nI prs), .ref yxk, .ref yxv, .int (nI rs), .int err, .ref yto, .ref yst, .ref ylo, .int (nI stp), .int res, .int (nI wo)]), (yop, zg E 4 oo), (ra, zi E 64 op), (ynu, zg E 4 nu), (rb, zi E 64 nn), (yle, zi E 4 (zn ln))] 0 0 (As := [.int (nI p)]) (n := 1) (is7_n l_ E p (by omega)) (zGIS (fun _ => zTs_in) wk_526 wk_524 wk_525 wk_20) rfl ⟨by decide, by decide, by decide +kernel⟩ rfl rfl (by decide) rfl rfl (Nat.le_of_ble_eq_true rfl) ⟨by decide, by decide⟩ rfl rfl ⟨by decide, by decide⟩ ⟨by decide, by decide⟩ dX7_check_1 rfl (fun r1 w1 hB1 => ?_)
  obtain ⟨rfl, rfl⟩ := hB1
  refine z_perm [0, 1, 2, 3, 4, 5] [(y, zo 7 [.int (nI sz), .ref yrk, .ref yrv, .int (nI rn), .ref yop, .ref ynu, .ref yle, .ref yk, .ref yv, .ref ysp, .int (nI prs), .ref yxk, .ref yxv, .int (nI rs), .int err, .ref yto, .ref yst, .ref ylo, .int (nI stp), .int res, .int (nI wo)]), (yop, zg E 4 oo), (ra, zi E 64 op), (ynu, zg E 4 nu), (rb, zi E 64 nn), (yle, zi E 4 (zn ln))] (by decide) rfl ?_
  refine z_if_neP 7 9 C0 dX7_check_4 rfl (by decide) (fun k4 => ?_) (fun k4 => absurd k4 (fun q => q hp))
  refine z_aload_n 10 C0 0 dX7_check_9 rfl rfl rfl ?_
  refine z_get 13 C0 0 6 wz_7 rfl (by decide) (zTs_in wk_454) dX7_check_10 rfl rfl rfl ?_
  refine z_iload_n 14 C0 1 dX7_check_13 rfl rfl rfl ?_
  refine z_ialdN 15 C0 5 (v := (nI (ln p))) dX7_check_14 rfl rfl (by omega) (by decide) rfl ?_
  refine z_if_neN 18 23 C0 (by omega) dX7_check_15 rfl (by decide) (fun k15 => ?_) (fun k15 => ?_)
  · skip
    refine z_aload_n 24 C0 0 dX7_check_23 rfl rfl rfl ?_
    refine z_iload_n 25 C0 1 dX7_check_24 rfl rfl rfl ?_
    refine z_callVi 28 C0 [0, 1, 2, 3, 4, 5] [] [] 2 640 (As := [.int (nI p)]) (T := TX7) (N := 21) (C := RX7) (ci := 7) (n := 1) 0 (fw7 l_ E y sz yrk yrv rn yop ynu yle yk yv ysp prs yxk yxv rs err yto yst ylo stp res wo p oo nu ra rb op nn ln (by omega) (by omega) (by omega) (by omega) (by omega)) (zGIV (fun _ => zTs_in) wk_538 wk_535 wk_537 wk_2 wk_20) rfl ⟨rfl, by decide, by decide, by decide +kernel⟩ rfl rfl rfl rfl (by decide) rfl rfl (Nat.le_of_ble_eq_true rfl) ⟨by decide, by decide⟩ rfl rfl ⟨by decide, by decide⟩ ⟨by decide, by decide⟩ dX7_check_25 rfl (fun r25 w25 hB25 => ?_)
    obtain ⟨r2_25, ⟨hr25, rfl⟩, fF_25⟩ := hB25
    replace hr25 := hr25.symm
    subst hr25
    refine z_perm [0, 1, 2, 3, 4, 5] [(y, zo 7 [.int (nI sz), .ref yrk, .ref yrv, .int (nI rn), .ref yop, .ref ynu, .ref yle, .ref yk, .ref yv, .ref ysp, .int (nI prs), .ref yxk, .ref yxv, .int (nI rs), .int err, .ref yto, .ref yst, .ref ylo, .int (nI stp), .int res, .int (nI wo)]), (yop, zg E 4 oo), (ra, zi E 64 op), (ynu, zg E 4 nu), (rb, zi E 64 nn), (yle, zi E 4 (zn ln))] (by decide) rfl ?_
    exact z_iret C0 rfl dX7_check_28 ⟨r2_25, ⟨rfl, rfl⟩, (Or.inr ⟨by omega, fF_25⟩)⟩ (by decide) (by decide)
  · skip
    refine z_bipush 20 C0 (v := (nI 64)) dX7_check_18 rfl rfl ?_
    refine z_goto 28 C0 dX7_check_20 (by decide) ?_
    exact z_iret C0 rfl dX7_check_28 ⟨(nI 64), ⟨rfl, rfl⟩, (Or.inl ⟨k15, rfl⟩)⟩ (by decide) (by decide)

set_option maxHeartbeats 4000000 in
set_option maxRecDepth 100000 in
theorem good7_f (l_ : Launch) (E : zE) (y : Nat) (sz : Nat) (yrk : Nat) (yrv : Nat) (rn : Nat) (yop : Nat) (ynu : Nat) (yle : Nat) (yk : Nat) (yv : Nat) (ysp : Nat) (prs : Nat) (yxk : Nat) (yxv : Nat) (rs : Nat) (err : Int32) (yto : Nat) (yst : Nat) (ylo : Nat) (stp : Nat) (res : Int32) (wo : Nat) (p : Nat) (oo : Nat → Option Nat) (nu : Nat → Option Nat) (ra : Nat) (rb : Nat) (op : Nat → Int32) (nn : Nat → Int32) (ln : Nat → Nat) (hp : p < 4) (hoo : oo p = some ra) (hnu : nu p = some rb) (hlen : ln p ≤ 64) : zMi l_ E yX7_good (zTs yX7_good cX7_good 3 (some .boolean)) ({ frames := 2, cells := 2, slots := 640, locals := 56 } : Room) [.ref y, .int (nI p), .int (nI 0)] [(y, zo 7 [.int (nI sz), .ref yrk, .ref yrv, .int (nI rn), .ref yop, .ref ynu, .ref yle, .ref yk, .ref yv, .ref ysp, .int (nI prs), .ref yxk, .ref yxv, .int (nI rs), .int err, .ref yto, .ref yst, .ref ylo, .int (nI stp), .int res, .int (nI wo)]), (yop, zg E 4 oo), (ra, zi E 64 op), (ynu, zg E 4 nu), (rb, zi E 64 nn), (yle, zi E 4 (zn ln))] (fun r_ w_ => (r_ = (zb (Good p op nn (ln p))) ∧ w_ = [(y, zo 7 [.int (nI sz), .ref yrk, .ref yrv, .int (nI rn), .ref yop, .ref ynu, .ref yle, .ref yk, .ref yv, .ref ysp, .int (nI prs), .ref yxk, .ref yxv, .int (nI rs), .int err, .ref yto, .ref yst, .ref ylo, .int (nI stp), .int res, .int (nI wo)]), (yop, zg E 4 oo), (ra, zi E 64 op), (ynu, zg E 4 nu), (rb, zi E 64 nn), (yle, zi E 4 (zn ln))])) 2 640 := by
  refine zMi.of (cc := cX7_good) (nL := 3) (ret := (some .boolean)) (by decide) rfl (Nat.le_of_ble_eq_true rfl) ?_
  intro p_ e_ s_ m_ args_ below_ meth_ c_ A_ C0 hin0
  have C0 : zC E p_ s_ m_ args_ meth_ c_ cX7_good 3 (some .boolean) RX7 (zTs yX7_good cX7_good 3 (some .boolean)) A_ := C0
  refine z_eqL (L1 := [(0, .ref y), (1, .int (nI p)), (2, .int (nI 0))]) rfl ?_
  refine z_iload_n 1 C0 2 dX7_good_0 rfl rfl rfl ?_
  refine z_if_eqN 4 13 C0 (by decide) dX7_good_1 rfl (by decide) (fun k1 => ?_) (fun k1 => absurd k1 (by omega))
  refine z_aload_n 14 C0 0 dX7_good_13 rfl rfl rfl ?_
  refine z_get 17 C0 0 6 wz_7 rfl (by decide) (zTs_in wk_454) dX7_good_14 rfl rfl rfl ?_
  refine z_iload_n 18 C0 1 dX7_good_17 rfl rfl rfl ?_
  refine z_ialdN 19 C0 5 (v := (nI (ln p))) dX7_good_18 rfl rfl (by omega) (by decide) rfl ?_
  refine z_if_leN 22 36 C0 (by omega) dX7_good_19 rfl (by decide) (fun k19 => ?_) (fun k19 => ?_)
  · skip
    refine z_iconst 37 C0 (v := (nI 0)) dX7_good_36 rfl rfl ?_
    exact z_zret C0 rfl rfl dX7_good_37 ⟨(zb_fN (fun q => by have := q.1; omega)), rfl⟩ (by decide) (by decide)
  · skip
    refine z_aload_n 23 C0 0 dX7_good_22 rfl rfl rfl ?_
    refine z_iload_n 24 C0 1 dX7_good_23 rfl rfl rfl ?_
    refine z_callVi 27 C0 [0, 1, 2, 3, 4, 5] [] [] 2 640 (As := [.int (nI p)]) (T := TX7) (N := 21) (C := RX7) (ci := 7) (n := 1) 0 (fw7 l_ E y sz yrk yrv rn yop ynu yle yk yv ysp prs yxk yxv rs err yto yst ylo stp res wo p oo nu ra rb op nn ln (by omega) (by omega) (by omega) (by omega) (by omega)) (zGIV (fun _ => zTs_in) wk_538 wk_535 wk_537 wk_2 wk_20) rfl ⟨rfl, by decide, by decide, by decide +kernel⟩ rfl rfl rfl rfl (by decide) rfl rfl (Nat.le_of_ble_eq_true rfl) ⟨by decide, by decide⟩ rfl rfl ⟨by decide, by decide⟩ ⟨by decide, by decide⟩ dX7_good_24 rfl (fun r24 w24 hB24 => ?_)
    obtain ⟨r2_24, ⟨hr24, rfl⟩, fF_24⟩ := hB24
    replace hr24 := hr24.symm
    subst hr24
    refine z_perm [0, 1, 2, 3, 4, 5] [(y, zo 7 [.int (nI sz), .ref yrk, .ref yrv, .int (nI rn), .ref yop, .ref ynu, .ref yle, .ref yk, .ref yv, .ref ysp, .int (nI prs), .ref yxk, .ref yxv, .int (nI rs), .int err, .ref yto, .ref yst, .ref ylo, .int (nI stp), .int res, .int (nI wo)]), (yop, zg E 4 oo), (ra, zi E 64 op), (ynu, zg E 4 nu), (rb, zi E 64 nn), (yle, zi E 4 (zn ln))] (by decide) rfl ?_
    refine z_bipush 29 C0 (v := (-2)) dX7_good_27 rfl (by decide) ?_
    refine z_icmp_ne 32 36 C0 dX7_good_29 rfl (by decide) (fun k29 => ?_) (fun k29 => ?_)
    · skip
      refine z_iconst 37 C0 (v := (nI 0)) dX7_good_36 rfl rfl ?_
      exact z_zret C0 rfl rfl dX7_good_37 ⟨(zb_fN (fun q => k29 ((chk_good (Or.inr ⟨k19, fF_24⟩) hlen).mpr q))), rfl⟩ (by decide) (by decide)
    · skip
      refine z_iconst 33 C0 (v := (nI 1)) dX7_good_32 rfl rfl ?_
      refine z_goto 37 C0 dX7_good_33 (by decide) ?_
      exact z_zret C0 rfl rfl dX7_good_37 ⟨(zb_tN (((chk_good (Or.inr ⟨k19, fF_24⟩) hlen).mp k29))), rfl⟩ (by decide) (by decide)

set_option maxHeartbeats 4000000 in
set_option maxRecDepth 100000 in
theorem good7_t (l_ : Launch) (E : zE) (y : Nat) (sz : Nat) (yrk : Nat) (yrv : Nat) (rn : Nat) (yop : Nat) (ynu : Nat) (yle : Nat) (yk : Nat) (yv : Nat) (ysp : Nat) (prs : Nat) (yxk : Nat) (yxv : Nat) (rs : Nat) (err : Int32) (yto : Nat) (yst : Nat) (ylo : Nat) (stp : Nat) (res : Int32) (wo : Nat) (p : Nat) (oo : Nat → Option Nat) (nu : Nat → Option Nat) (ra : Nat) (rb : Nat) (op : Nat → Int32) (nn : Nat → Int32) (ln : Nat → Nat) (hp : p < 4) (hoo : oo p = some ra) (hnu : nu p = some rb) (hlen : ln p ≤ 64) : zMi l_ E yX7_good (zTs yX7_good cX7_good 3 (some .boolean)) ({ frames := 2, cells := 2, slots := 640, locals := 56 } : Room) [.ref y, .int (nI p), .int (nI 1)] [(y, zo 7 [.int (nI sz), .ref yrk, .ref yrv, .int (nI rn), .ref yop, .ref ynu, .ref yle, .ref yk, .ref yv, .ref ysp, .int (nI prs), .ref yxk, .ref yxv, .int (nI rs), .int err, .ref yto, .ref yst, .ref ylo, .int (nI stp), .int res, .int (nI wo)]), (yop, zg E 4 oo), (ra, zi E 64 op), (ynu, zg E 4 nu), (rb, zi E 64 nn), (yle, zi E 4 (zn ln))] (fun r_ w_ => (r_ = (zb (ln p = 0 ∨ Good p op nn (ln p))) ∧ w_ = [(y, zo 7 [.int (nI sz), .ref yrk, .ref yrv, .int (nI rn), .ref yop, .ref ynu, .ref yle, .ref yk, .ref yv, .ref ysp, .int (nI prs), .ref yxk, .ref yxv, .int (nI rs), .int err, .ref yto, .ref yst, .ref ylo, .int (nI stp), .int res, .int (nI wo)]), (yop, zg E 4 oo), (ra, zi E 64 op), (ynu, zg E 4 nu), (rb, zi E 64 nn), (yle, zi E 4 (zn ln))])) 2 640 := by
  refine zMi.of (cc := cX7_good) (nL := 3) (ret := (some .boolean)) (by decide) rfl (Nat.le_of_ble_eq_true rfl) ?_
  intro p_ e_ s_ m_ args_ below_ meth_ c_ A_ C0 hin0
  have C0 : zC E p_ s_ m_ args_ meth_ c_ cX7_good 3 (some .boolean) RX7 (zTs yX7_good cX7_good 3 (some .boolean)) A_ := C0
  refine z_eqL (L1 := [(0, .ref y), (1, .int (nI p)), (2, .int (nI 1))]) rfl ?_
  refine z_iload_n 1 C0 2 dX7_good_0 rfl rfl rfl ?_
  refine z_if_eqN 4 13 C0 (by decide) dX7_good_1 rfl (by decide) (fun k1 => absurd k1 (by omega)) (fun k1 => ?_)
  refine z_aload_n 5 C0 0 dX7_good_4 rfl rfl rfl ?_
  refine z_get 8 C0 0 6 wz_7 rfl (by decide) (zTs_in wk_454) dX7_good_5 rfl rfl rfl ?_
  refine z_iload_n 9 C0 1 dX7_good_8 rfl rfl rfl ?_
  refine z_ialdN 10 C0 5 (v := (nI (ln p))) dX7_good_9 rfl rfl (by omega) (by decide) rfl ?_
  refine z_if_eqN 13 32 C0 (by omega) dX7_good_10 rfl (by decide) (fun k10 => ?_) (fun k10 => ?_)
  · skip
    refine z_iconst 33 C0 (v := (nI 1)) dX7_good_32 rfl rfl ?_
    refine z_goto 37 C0 dX7_good_33 (by decide) ?_
    exact z_zret C0 rfl rfl dX7_good_37 ⟨(zb_tN (Or.inl k10)), rfl⟩ (by decide) (by decide)
  · skip
    refine z_aload_n 14 C0 0 dX7_good_13 rfl rfl rfl ?_
    refine z_get 17 C0 0 6 wz_7 rfl (by decide) (zTs_in wk_454) dX7_good_14 rfl rfl rfl ?_
    refine z_iload_n 18 C0 1 dX7_good_17 rfl rfl rfl ?_
    refine z_ialdN 19 C0 5 (v := (nI (ln p))) dX7_good_18 rfl rfl (by omega) (by decide) rfl ?_
    refine z_if_leN 22 36 C0 (by omega) dX7_good_19 rfl (by decide) (fun k19 => ?_) (fun k19 => ?_)
    · skip
      refine z_iconst 37 C0 (v := (nI 0)) dX7_good_36 rfl rfl ?_
      exact z_zret C0 rfl rfl dX7_good_37 ⟨(zb_fN (fun q => k10 k19)), rfl⟩ (by decide) (by decide)
    · skip
      refine z_aload_n 23 C0 0 dX7_good_22 rfl rfl rfl ?_
      refine z_iload_n 24 C0 1 dX7_good_23 rfl rfl rfl ?_
      refine z_callVi 27 C0 [0, 1, 2, 3, 4, 5] [] [] 2 640 (As := [.int (nI p)]) (T := TX7) (N := 21) (C := RX7) (ci := 7) (n := 1) 0 (fw7 l_ E y sz yrk yrv rn yop ynu yle yk yv ysp prs yxk yxv rs err yto yst ylo stp res wo p oo nu ra rb op nn ln (by omega) (by omega) (by omega) (by omega) (by omega)) (zGIV (fun _ => zTs_in) wk_538 wk_535 wk_537 wk_2 wk_20) rfl ⟨rfl, by decide, by decide, by decide +kernel⟩ rfl rfl rfl rfl (by decide) rfl rfl (Nat.le_of_ble_eq_true rfl) ⟨by decide, by decide⟩ rfl rfl ⟨by decide, by decide⟩ ⟨by decide, by decide⟩ dX7_good_24 rfl (fun r24 w24 hB24 => ?_)
      obtain ⟨r2_24, ⟨hr24, rfl⟩, fF_24⟩ := hB24
      replace hr24 := hr24.symm
      subst hr24
      refine z_perm [0, 1, 2, 3, 4, 5] [(y, zo 7 [.int (nI sz), .ref yrk, .ref yrv, .int (nI rn), .ref yop, .ref ynu, .ref yle, .ref yk, .ref yv, .ref ysp, .int (nI prs), .ref yxk, .ref yxv, .int (nI rs), .int err, .ref yto, .ref yst, .ref ylo, .int (nI stp), .int res, .int (nI wo)]), (yop, zg E 4 oo), (ra, zi E 64 op), (ynu, zg E 4 nu), (rb, zi E 64 nn), (yle, zi E 4 (zn ln))] (by decide) rfl ?_
      refine z_bipush 29 C0 (v := (-2)) dX7_good_27 rfl (by decide) ?_
      refine z_icmp_ne 32 36 C0 dX7_good_29 rfl (by decide) (fun k29 => ?_) (fun k29 => ?_)
      · skip
        refine z_iconst 37 C0 (v := (nI 0)) dX7_good_36 rfl rfl ?_
        exact z_zret C0 rfl rfl dX7_good_37 ⟨(zb_fN (fun q => q.elim (fun z => k10 z) (fun z => k29 ((chk_good (Or.inr ⟨k19, fF_24⟩) hlen).mpr z)))), rfl⟩ (by decide) (by decide)
      · skip
        refine z_iconst 33 C0 (v := (nI 1)) dX7_good_32 rfl rfl ?_
        refine z_goto 37 C0 dX7_good_33 (by decide) ?_
        exact z_zret C0 rfl rfl dX7_good_37 ⟨(zb_tN (Or.inr ((chk_good (Or.inr ⟨k19, fF_24⟩) hlen).mp k29))), rfl⟩ (by decide) (by decide)

set_option maxHeartbeats 4000000 in
set_option maxRecDepth 100000 in
theorem result7 (l_ : Launch) (E : zE) (y : Nat) (sz : Nat) (yrk : Nat) (yrv : Nat) (rn : Nat) (yop : Nat) (ynu : Nat) (yle : Nat) (yk : Nat) (yv : Nat) (ysp : Nat) (prs : Nat) (yxk : Nat) (yxv : Nat) (rs : Nat) (err : Int32) (yto : Nat) (yst : Nat) (ylo : Nat) (stp : Nat) (res : Int32) (wo : Nat) (xk : Nat → Int32) (xv : Nat → Int32) (k : Int32) (wh : Int32) (hrs : rs ≤ 600) : zMl l_ E yX7_result (zTs yX7_result cX7_result 3 (some .long)) ({ frames := 0, cells := 0, slots := 0, locals := 0 } : Room) [.ref y, .int k, .int wh] [(y, zo 7 [.int (nI sz), .ref yrk, .ref yrv, .int (nI rn), .ref yop, .ref ynu, .ref yle, .ref yk, .ref yv, .ref ysp, .int (nI prs), .ref yxk, .ref yxv, .int (nI rs), .int err, .ref yto, .ref yst, .ref ylo, .int (nI stp), .int res, .int (nI wo)]), (yxk, zi E 600 xk), (yxv, zi E 600 xv)] (fun r_ w_ => (r_ = (resV rs xk xv k wh) ∧ w_ = [(y, zo 7 [.int (nI sz), .ref yrk, .ref yrv, .int (nI rn), .ref yop, .ref ynu, .ref yle, .ref yk, .ref yv, .ref ysp, .int (nI prs), .ref yxk, .ref yxv, .int (nI rs), .int err, .ref yto, .ref yst, .ref ylo, .int (nI stp), .int res, .int (nI wo)]), (yxk, zi E 600 xk), (yxv, zi E 600 xv)])) 0 0 := by
  refine zMl.of (cc := cX7_result) (nL := 3) (ret := (some .long)) (by decide) rfl (Nat.le_of_ble_eq_true rfl) ?_
  intro p_ e_ s_ m_ args_ below_ meth_ c_ A_ C0 hin0
  have C0 : zC E p_ s_ m_ args_ meth_ c_ cX7_result 3 (some .long) RX7 (zTs yX7_result cX7_result 3 (some .long)) A_ := C0
  refine z_eqL (L1 := [(0, .ref y), (1, .int k), (2, .int wh)]) rfl ?_
  refine z_iload_n 1 C0 1 dX7_result_0 rfl rfl rfl ?_
  refine z_if_lt 4 21 C0 dX7_result_1 rfl (by decide) (fun k1 => ?_) (fun k1 => ?_)
  · skip
    refine z_ldc2 24 C0 (v := 1099511627776) (zTs_in wk_591) dX7_result_21 rfl ?_
    exact z_lret C0 rfl dX7_result_24 ⟨(by first | exact (resV_k (Or.inl k1)).symm | exact (resV_k (Or.inr k9)).symm | exact (resV_w (Or.inl k13)).symm | exact (resV_w (Or.inr (i32_lt_of_nle k18))).symm), rfl⟩ (by decide) (by decide)
  · skip
    refine z_iload_n 5 C0 1 dX7_result_4 rfl rfl rfl ?_
    refine z_aload_n 6 C0 0 dX7_result_5 rfl rfl rfl ?_
    refine z_get 9 C0 0 13 wz_7 rfl (by decide) (zTs_in wk_461) dX7_result_6 rfl rfl rfl ?_
    refine z_icmp_ge 12 21 C0 dX7_result_9 rfl (by decide) (fun k9 => ?_) (fun k9 => ?_)
    · skip
      refine z_ldc2 24 C0 (v := 1099511627776) (zTs_in wk_591) dX7_result_21 rfl ?_
      exact z_lret C0 rfl dX7_result_24 ⟨(by first | exact (resV_k (Or.inl k1)).symm | exact (resV_k (Or.inr k9)).symm | exact (resV_w (Or.inl k13)).symm | exact (resV_w (Or.inr (i32_lt_of_nle k18))).symm), rfl⟩ (by decide) (by decide)
    · skip
      refine z_iload_n 13 C0 2 dX7_result_12 rfl rfl rfl ?_
      refine z_if_lt 16 21 C0 dX7_result_13 rfl (by decide) (fun k13 => ?_) (fun k13 => ?_)
      · skip
        refine z_ldc2 24 C0 (v := 1099511627776) (zTs_in wk_591) dX7_result_21 rfl ?_
        exact z_lret C0 rfl dX7_result_24 ⟨(by first | exact (resV_k (Or.inl k1)).symm | exact (resV_k (Or.inr k9)).symm | exact (resV_w (Or.inl k13)).symm | exact (resV_w (Or.inr (i32_lt_of_nle k18))).symm), rfl⟩ (by decide) (by decide)
      · skip
        refine z_iload_n 17 C0 2 dX7_result_16 rfl rfl rfl ?_
        refine z_iconst 18 C0 (v := (nI 1)) dX7_result_17 rfl rfl ?_
        refine z_icmp_le 21 25 C0 dX7_result_18 rfl (by decide) (fun k18 => ?_) (fun k18 => ?_)
        · skip
          obtain ⟨j, hj, rfl⟩ := nI_ltx (by omega) k1 (i32_lt_of_nle k9)
          refine z_iload_n 26 C0 2 dX7_result_25 rfl rfl rfl ?_
          refine z_if_ne 29 39 C0 dX7_result_26 rfl (by decide) (fun k26 => ?_) (fun k26 => ?_)
          · skip
            refine z_aload_n 40 C0 0 dX7_result_39 rfl rfl rfl ?_
            refine z_get 43 C0 0 12 wz_7 rfl (by decide) (zTs_in wk_460) dX7_result_40 rfl rfl rfl ?_
            refine z_iload_n 44 C0 1 dX7_result_43 rfl rfl rfl ?_
            refine z_ialdN 45 C0 2 (v := (xv j)) dX7_result_44 rfl rfl (by omega) (by decide) rfl ?_
            refine z_i2l 46 C0 (v := (xv j).toInt64) dX7_result_45 rfl rfl ?_
            exact z_lret C0 rfl dX7_result_46 ⟨(by unfold resV; rw [if_pos ⟨k1, i32_lt_of_nle k9⟩, if_neg k26, if_pos (w01 k13 k18 k26), nI_clamp (by omega)]), rfl⟩ (by decide) (by decide)
          · skip
            refine z_aload_n 30 C0 0 dX7_result_29 rfl rfl rfl ?_
            refine z_get 33 C0 0 11 wz_7 rfl (by decide) (zTs_in wk_459) dX7_result_30 rfl rfl rfl ?_
            refine z_iload_n 34 C0 1 dX7_result_33 rfl rfl rfl ?_
            refine z_ialdN 35 C0 1 (v := (xk j)) dX7_result_34 rfl rfl (by omega) (by decide) rfl ?_
            refine z_i2l 36 C0 (v := (xk j).toInt64) dX7_result_35 rfl rfl ?_
            refine z_goto 46 C0 dX7_result_36 (by decide) ?_
            exact z_lret C0 rfl dX7_result_46 ⟨(by unfold resV; rw [if_pos ⟨k1, i32_lt_of_nle k9⟩, if_pos k26, nI_clamp (by omega)]), rfl⟩ (by decide) (by decide)
        · skip
          refine z_ldc2 24 C0 (v := 1099511627776) (zTs_in wk_591) dX7_result_21 rfl ?_
          exact z_lret C0 rfl dX7_result_24 ⟨(by first | exact (resV_k (Or.inl k1)).symm | exact (resV_k (Or.inr k9)).symm | exact (resV_w (Or.inl k13)).symm | exact (resV_w (Or.inr (i32_lt_of_nle k18))).symm), rfl⟩ (by decide) (by decide)

set_option maxHeartbeats 4000000 in
set_option maxRecDepth 100000 in
theorem valueOf7 (l_ : Launch) (E : zE) (y : Nat) (sz : Nat) (yrk : Nat) (yrv : Nat) (rn : Nat) (yop : Nat) (ynu : Nat) (yle : Nat) (yk : Nat) (yv : Nat) (ysp : Nat) (prs : Nat) (yxk : Nat) (yxv : Nat) (rs : Nat) (err : Int32) (yto : Nat) (yst : Nat) (ylo : Nat) (stp : Nat) (res : Int32) (wo : Nat) (xk : Nat → Int32) (xv : Nat → Int32) (key : Int32) (hrs : rs ≤ 600) : zMl l_ E yX7_valueOf (zTs yX7_valueOf cX7_valueOf 3 (some .long)) ({ frames := 0, cells := 0, slots := 0, locals := 0 } : Room) [.ref y, .int key] [(y, zo 7 [.int (nI sz), .ref yrk, .ref yrv, .int (nI rn), .ref yop, .ref ynu, .ref yle, .ref yk, .ref yv, .ref ysp, .int (nI prs), .ref yxk, .ref yxv, .int (nI rs), .int err, .ref yto, .ref yst, .ref ylo, .int (nI stp), .int res, .int (nI wo)]), (yxk, zi E 600 xk), (yxv, zi E 600 xv)] (fun r_ w_ => ∃ r2 : Int64, (r_ = r2 ∧ w_ = [(y, zo 7 [.int (nI sz), .ref yrk, .ref yrv, .int (nI rn), .ref yop, .ref ynu, .ref yle, .ref yk, .ref yv, .ref ysp, .int (nI prs), .ref yxk, .ref yxv, .int (nI rs), .int err, .ref yto, .ref yst, .ref ylo, .int (nI stp), .int res, .int (nI wo)]), (yxk, zi E 600 xk), (yxv, zi E 600 xv)]) ∧ (vlR rs xk xv key r2)) 0 0 := by
  refine zMl.of (cc := cX7_valueOf) (nL := 3) (ret := (some .long)) (by decide) rfl (Nat.le_of_ble_eq_true rfl) ?_
  intro p_ e_ s_ m_ args_ below_ meth_ c_ A_ C0 hin0
  have C0 : zC E p_ s_ m_ args_ meth_ c_ cX7_valueOf 3 (some .long) RX7 (zTs yX7_valueOf cX7_valueOf 3 (some .long)) A_ := C0
  refine z_eqL (L1 := [(0, .ref y), (1, .int key)]) rfl ?_
  refine z_iconst 1 C0 (v := (nI 0)) dX7_valueOf_0 rfl rfl ?_
  refine z_istore_n 2 C0 [1, 2, 0] [(0, .ref y), (1, .int key), (2, .int (nI 0))] dX7_valueOf_1 rfl rfl (by decide) rfl ?_
  have CUT2 : ∀ (N2 : Nat) (i : Nat), (i ≤ rs) → (∀ j, j < i → xk j ≠ key) → rs - i < N2 → Z E p_ l_ e_ ({ frames := 0, cells := 0, slots := 0, locals := 0 } : Room) s_ m_ args_ below_ meth_ c_ (MQ below_ (va_Ql (fun r_ w_ => ∃ r2 : Int64, (r_ = r2 ∧ w_ = [(y, zo 7 [.int (nI sz), .ref yrk, .ref yrv, .int (nI rn), .ref yop, .ref ynu, .ref yle, .ref yk, .ref yv, .ref ysp, .int (nI prs), .ref yxk, .ref yxv, .int (nI rs), .int err, .ref yto, .ref yst, .ref ylo, .int (nI stp), .int res, .int (nI wo)]), (yxk, zi E 600 xk), (yxv, zi E 600 xv)]) ∧ (vlR rs xk xv key r2)) (zPost E A_) A_) args_ s_ 0 0 A_) A_ 3 2 [(0, .ref y), (1, .int key), (2, .int (nI i))] [] [(y, zo 7 [.int (nI sz), .ref yrk, .ref yrv, .int (nI rn), .ref yop, .ref ynu, .ref yle, .ref yk, .ref yv, .ref ysp, .int (nI prs), .ref yxk, .ref yxv, .int (nI rs), .int err, .ref yto, .ref yst, .ref ylo, .int (nI stp), .int res, .int (nI wo)]), (yxk, zi E 600 xk), (yxv, zi E 600 xv)] 0 0 := by
    intro N2
    induction N2 with
    | zero => intro i hi hno hm2; exact absurd hm2 (Nat.not_lt_zero _)
    | succ N2 ih2 =>
      intro i hi hno hm2
      refine z_iload_n 3 C0 2 dX7_valueOf_2 rfl rfl rfl ?_
      refine z_aload_n 4 C0 0 dX7_valueOf_3 rfl rfl rfl ?_
      refine z_get 7 C0 0 13 wz_7 rfl (by decide) (zTs_in wk_461) dX7_valueOf_4 rfl rfl rfl ?_
      refine z_icmp_geN 10 34 C0 (by omega) (by omega) dX7_valueOf_7 rfl (by decide) (fun k7 => ?_) (fun k7 => ?_)
      · skip
        refine z_ldc2 37 C0 (v := 1099511627776) (zTs_in wk_591) dX7_valueOf_34 rfl ?_
        exact z_lret C0 rfl dX7_valueOf_37 ⟨1099511627776, ⟨rfl, rfl⟩, (Or.inr ⟨fun j hj => hno j (by omega), rfl⟩)⟩ (by decide) (by decide)
      · skip
        refine z_aload_n 11 C0 0 dX7_valueOf_10 rfl rfl rfl ?_
        refine z_get 14 C0 0 11 wz_7 rfl (by decide) (zTs_in wk_459) dX7_valueOf_11 rfl rfl rfl ?_
        refine z_iload_n 15 C0 2 dX7_valueOf_14 rfl rfl rfl ?_
        refine z_ialdN 16 C0 1 (v := (xk i)) dX7_valueOf_15 rfl rfl (by omega) (by decide) rfl ?_
        refine z_iload_n 17 C0 1 dX7_valueOf_16 rfl rfl rfl ?_
        refine z_icmp_ne 20 28 C0 dX7_valueOf_17 rfl (by decide) (fun k17 => ?_) (fun k17 => ?_)
        · skip
          refine z_iinc 31 C0 2 [1, 2, 0] [(0, .ref y), (1, .int key), (2, .int (nI (i + 1)))] (v := (nI (i + 1))) dX7_valueOf_28 rfl rfl (z_incN _ _) (by decide) rfl ?_
          refine z_goto 2 C0 dX7_valueOf_31 (by decide) ?_
          exact ih2 (i + 1) (by omega) (fun j hj => by rcases Nat.lt_or_ge j i with q | q; exact hno j q; rw [show j = i by omega]; exact k17) (by omega)
        · skip
          refine z_aload_n 21 C0 0 dX7_valueOf_20 rfl rfl rfl ?_
          refine z_get 24 C0 0 12 wz_7 rfl (by decide) (zTs_in wk_460) dX7_valueOf_21 rfl rfl rfl ?_
          refine z_iload_n 25 C0 2 dX7_valueOf_24 rfl rfl rfl ?_
          refine z_ialdN 26 C0 2 (v := (xv i)) dX7_valueOf_25 rfl rfl (by omega) (by decide) rfl ?_
          refine z_i2l 27 C0 (v := (xv i).toInt64) dX7_valueOf_26 rfl rfl ?_
          exact z_lret C0 rfl dX7_valueOf_27 ⟨((xv i).toInt64), ⟨rfl, rfl⟩, (Or.inl ⟨i, by omega, k17, rfl⟩)⟩ (by decide) (by decide)
  exact CUT2 (rs - 0 + 1) 0 (Nat.zero_le _) (fun j hj => absurd hj (Nat.not_lt_zero j)) (Nat.lt_succ_self _)

set_option maxHeartbeats 4000000 in
set_option maxRecDepth 100000 in
theorem count7 (l_ : Launch) (E : zE) (y : Nat) (sz : Nat) (yrk : Nat) (yrv : Nat) (rn : Nat) (yop : Nat) (ynu : Nat) (yle : Nat) (yk : Nat) (yv : Nat) (ysp : Nat) (prs : Nat) (yxk : Nat) (yxv : Nat) (rs : Nat) (err : Int32) (yto : Nat) (yst : Nat) (ylo : Nat) (stp : Nat) (res : Int32) (wo : Nat) (to : Nat → Nat) (wh : Int32) (hrn : rn ≤ 120) (hsz : 1 ≤ sz) (hsz2 : sz ≤ 16) : zMi l_ E yX7_count (zTs yX7_count cX7_count 2 (some .int)) ({ frames := 0, cells := 0, slots := 0, locals := 0 } : Room) [.ref y, .int wh] [(y, zo 7 [.int (nI sz), .ref yrk, .ref yrv, .int (nI rn), .ref yop, .ref ynu, .ref yle, .ref yk, .ref yv, .ref ysp, .int (nI prs), .ref yxk, .ref yxv, .int (nI rs), .int err, .ref yto, .ref yst, .ref ylo, .int (nI stp), .int res, .int (nI wo)]), (yto, zi E 8 (zn to))] (fun r_ w_ => (r_ = (cnV (cnF err to) rn sz wh) ∧ w_ = [(y, zo 7 [.int (nI sz), .ref yrk, .ref yrv, .int (nI rn), .ref yop, .ref ynu, .ref yle, .ref yk, .ref yv, .ref ysp, .int (nI prs), .ref yxk, .ref yxv, .int (nI rs), .int err, .ref yto, .ref yst, .ref ylo, .int (nI stp), .int res, .int (nI wo)]), (yto, zi E 8 (zn to))])) 0 0 := by
  refine zMi.of (cc := cX7_count) (nL := 2) (ret := (some .int)) (by decide) rfl (Nat.le_of_ble_eq_true rfl) ?_
  intro p_ e_ s_ m_ args_ below_ meth_ c_ A_ C0 hin0
  have C0 : zC E p_ s_ m_ args_ meth_ c_ cX7_count 2 (some .int) RX7 (zTs yX7_count cX7_count 2 (some .int)) A_ := C0
  refine z_eqL (L1 := [(0, .ref y), (1, .int wh)]) rfl ?_
  refine z_iload_n 1 C0 1 dX7_count_0 rfl rfl rfl ?_
  refine z_if_ne 4 9 C0 dX7_count_1 rfl (by decide) (fun k1 => ?_) (fun k1 => ?_)
  · skip
    refine z_iload_n 10 C0 1 dX7_count_9 rfl rfl rfl ?_
    refine z_bipush 12 C0 (v := (nI 8)) dX7_count_10 rfl rfl ?_
    refine z_icmp_ne 15 20 C0 dX7_count_12 rfl (by decide) (fun k12 => ?_) (fun k12 => ?_)
    · skip
      refine z_iload_n 21 C0 1 dX7_count_20 rfl rfl rfl ?_
      refine z_bipush 23 C0 (v := (nI 9)) dX7_count_21 rfl rfl ?_
      refine z_icmp_ne 26 43 C0 dX7_count_23 rfl (by decide) (fun k23 => ?_) (fun k23 => ?_)
      · skip
        refine z_iload_n 44 C0 1 dX7_count_43 rfl rfl rfl ?_
        refine z_iconst 45 C0 (v := (nI 1)) dX7_count_44 rfl rfl ?_
        refine z_icmp_lt 48 63 C0 dX7_count_45 rfl (by decide) (fun k45 => ?_) (fun k45 => ?_)
        · skip
          refine z_iconst 64 C0 (v := (-1)) dX7_count_63 rfl (by decide) ?_
          exact z_iret C0 rfl dX7_count_64 ⟨(by unfold cnV; rw [if_pos (cn_out k1 k12 k23 (by first | exact Or.inl k45 | exact Or.inr (i32_lt_of_nle k51) | exact Or.inr k51))]), rfl⟩ (by decide) (by decide)
        · skip
          refine z_iload_n 49 C0 1 dX7_count_48 rfl rfl rfl ?_
          refine z_bipush 51 C0 (v := (nI 7)) dX7_count_49 rfl rfl ?_
          refine z_icmp_gt 54 63 C0 dX7_count_51 rfl (by decide) (fun k51 => ?_) (fun k51 => ?_)
          · skip
            refine z_iconst 64 C0 (v := (-1)) dX7_count_63 rfl (by decide) ?_
            exact z_iret C0 rfl dX7_count_64 ⟨(by unfold cnV; rw [if_pos (cn_out k1 k12 k23 (by first | exact Or.inl k45 | exact Or.inr (i32_lt_of_nle k51) | exact Or.inr k51))]), rfl⟩ (by decide) (by decide)
          · skip
            obtain ⟨j, hj, rfl⟩ := nI_of2 (n := 7) (by decide) (cn_nn (i32_le_of_nlt k45)) (i32_le_of_nlt k51)
            refine z_aload_n 55 C0 0 dX7_count_54 rfl rfl rfl ?_
            refine z_get 58 C0 0 15 wz_7 rfl (by decide) (zTs_in wk_463) dX7_count_55 rfl rfl rfl ?_
            refine z_iload_n 59 C0 1 dX7_count_58 rfl rfl rfl ?_
            refine z_ialdN 60 C0 1 (v := (nI (to j))) dX7_count_59 rfl rfl (by omega) (by decide) rfl ?_
            refine z_goto 64 C0 dX7_count_60 (by decide) ?_
            exact z_iret C0 rfl dX7_count_64 ⟨(by unfold cnV; rw [if_neg (cn_in (by omega)), if_neg k12, if_neg k23, nI_clamp (by omega)]; exact (if_neg (by have h0 : nI j ≠ 0 := k1; intro e; rw [e] at h0; exact h0 rfl)).symm), rfl⟩ (by decide) (by decide)
      · skip
        refine z_aload_n 27 C0 0 dX7_count_26 rfl rfl rfl ?_
        refine z_get 30 C0 0 3 wz_7 rfl (by decide) (zTs_in wk_451) dX7_count_27 rfl rfl rfl ?_
        refine z_aload_n 31 C0 0 dX7_count_30 rfl rfl rfl ?_
        refine z_get 34 C0 0 0 wz_7 rfl (by decide) (zTs_in wk_448) dX7_count_31 rfl rfl rfl ?_
        refine z_iadd 35 C0 (v := (nI (rn + sz))) dX7_count_34 rfl (nI_add _ _) ?_
        refine z_iconst 36 C0 (v := (nI 1)) dX7_count_35 rfl rfl ?_
        refine z_isub 37 C0 (v := (nI ((rn + sz) - 1))) dX7_count_36 rfl (z_subN (by omega)) ?_
        refine z_aload_n 38 C0 0 dX7_count_37 rfl rfl rfl ?_
        refine z_get 41 C0 0 0 wz_7 rfl (by decide) (zTs_in wk_448) dX7_count_38 rfl rfl rfl ?_
        refine z_idiv 42 C0 (v := (nI (((rn + sz) - 1) / sz))) dX7_count_41 rfl (nI_ne0 (by omega) (by omega)) (pk_div (by omega) (by omega) (by omega)) ?_
        exact z_iret C0 rfl dX7_count_42 ⟨(by rw [k23]; rfl), rfl⟩ (by decide) (by decide)
    · skip
      refine z_aload_n 16 C0 0 dX7_count_15 rfl rfl rfl ?_
      refine z_get 19 C0 0 3 wz_7 rfl (by decide) (zTs_in wk_451) dX7_count_16 rfl rfl rfl ?_
      exact z_iret C0 rfl dX7_count_19 ⟨(by rw [k12]; rfl), rfl⟩ (by decide) (by decide)
  · skip
    refine z_aload_n 5 C0 0 dX7_count_4 rfl rfl rfl ?_
    refine z_get 8 C0 0 14 wz_7 rfl (by decide) (zTs_in wk_462) dX7_count_5 rfl rfl rfl ?_
    exact z_iret C0 rfl dX7_count_8 ⟨(by rw [k1]; rfl), rfl⟩ (by decide) (by decide)

set_option maxHeartbeats 4000000 in
set_option maxRecDepth 100000 in
theorem join7_z (l_ : Launch) (E : zE) (y : Nat) (sz : Nat) (yrk : Nat) (yrv : Nat) (rn : Nat) (yop : Nat) (ynu : Nat) (yle : Nat) (yk : Nat) (yv : Nat) (ysp : Nat) (prs : Nat) (yxk : Nat) (yxv : Nat) (rs : Nat) (err : Int32) (yto : Nat) (yst : Nat) (ylo : Nat) (stp : Nat) (res : Int32) (wo : Nat) (oo : Nat → Option Nat) (nu : Nat → Option Nat) (ra : Nat) (rb : Nat) (op : Nat → Int32) (nn : Nat → Int32) (kf : Nat → Int32) (vf : Nat → Int32) (sp : Nat → Nat) (st : Nat → Int32) (lo : Nat → Int32) (to : Nat → Nat) (ln : Nat → Nat) (cc : Nat → Nat) (spl : Nat) (hz : ln 1 = 0) (hlim : prs ≤ 600) : zMi l_ E yX7_join (zTs yX7_join cX7_join 4 (some .boolean)) ({ frames := 2, cells := 0, slots := 0, locals := 54 } : Room) [.ref y] [(y, zo 7 [.int (nI sz), .ref yrk, .ref yrv, .int (nI rn), .ref yop, .ref ynu, .ref yle, .ref yk, .ref yv, .ref ysp, .int (nI prs), .ref yxk, .ref yxv, .int (nI rs), .int err, .ref yto, .ref yst, .ref ylo, .int (nI stp), .int res, .int (nI wo)]), (yop, zg E 4 oo), (ra, zi E 64 op), (ynu, zg E 4 nu), (rb, zi E 64 nn), (yk, zi E 620 kf), (yv, zi E 620 vf), (ysp, zi E 620 (zn sp)), (yst, zi E 8 st), (ylo, zi E 4 lo), (yto, zi E 8 (zn to)), (yle, zi E 4 (zn ln))] (fun r_ w_ => ∃ prs2 : Nat, ∃ kf2 : Nat → Int32, ∃ vf2 : Nat → Int32, ∃ sp2 : Nat → Nat, ∃ st2 : Nat → Int32, ∃ lo2 : Nat → Int32, ∃ to2 : Nat → Nat, ∃ stp2 : Nat, ∃ res2 : Int32, ∃ wo2 : Nat, ∃ err2 : Int32, ∃ r2 : Int32, (r_ = (zb (r2 = -1)) ∧ w_ = [(y, zo 7 [.int (nI sz), .ref yrk, .ref yrv, .int (nI rn), .ref yop, .ref ynu, .ref yle, .ref yk, .ref yv, .ref ysp, .int (nI prs2), .ref yxk, .ref yxv, .int (nI rs), .int err2, .ref yto, .ref yst, .ref ylo, .int (nI stp2), .int res2, .int (nI wo2)]), (yop, zg E 4 oo), (ra, zi E 64 op), (ynu, zg E 4 nu), (rb, zi E 64 nn), (yk, zi E 620 kf2), (yv, zi E 620 vf2), (ysp, zi E 620 (zn sp2)), (yst, zi E 8 st2), (ylo, zi E 4 lo2), (yto, zi E 8 (zn to2)), (yle, zi E 4 (zn ln))]) ∧ (ln 1 = 0 ∧ r2 = -1 ∧ kf2 = kf ∧ vf2 = vf ∧ prs2 = prs ∧ to2 = to ∧ err2 = err)) 0 0 := by
  refine zMi.of (cc := cX7_join) (nL := 4) (ret := (some .boolean)) (by decide) rfl (Nat.le_of_ble_eq_true rfl) ?_
  intro p_ e_ s_ m_ args_ below_ meth_ c_ A_ C0 hin0
  have C0 : zC E p_ s_ m_ args_ meth_ c_ cX7_join 4 (some .boolean) RX7 (zTs yX7_join cX7_join 4 (some .boolean)) A_ := C0
  refine z_eqL (L1 := [(0, .ref y)]) rfl ?_
  refine z_aload_n 1 C0 0 dX7_join_0 rfl rfl rfl ?_
  refine z_get 4 C0 0 6 wz_7 rfl (by decide) (zTs_in wk_454) dX7_join_1 rfl rfl rfl ?_
  refine z_iconst 5 C0 (v := (nI 1)) dX7_join_4 rfl rfl ?_
  refine z_ialdN 6 C0 11 (v := (nI (ln 1))) dX7_join_5 rfl rfl (by omega) (by decide) rfl ?_
  refine z_eq (L1 := [(0, .ref y)]) (st1 := [.int (nI 0)]) (w1 := [(y, zo 7 [.int (nI sz), .ref yrk, .ref yrv, .int (nI rn), .ref yop, .ref ynu, .ref yle, .ref yk, .ref yv, .ref ysp, .int (nI prs), .ref yxk, .ref yxv, .int (nI rs), .int err, .ref yto, .ref yst, .ref ylo, .int (nI stp), .int res, .int (nI wo)]), (yop, zg E 4 oo), (ra, zi E 64 op), (ynu, zg E 4 nu), (rb, zi E 64 nn), (yk, zi E 620 kf), (yv, zi E 620 vf), (ysp, zi E 620 (zn sp)), (yst, zi E 8 st), (ylo, zi E 4 lo), (yto, zi E 8 (zn to)), (yle, zi E 4 (zn ln))]) rfl (by rw [hz]) rfl ?_
  refine z_if_neN 9 11 C0 (by decide) dX7_join_6 rfl (by decide) (fun k6 => absurd k6 (by omega)) (fun k6 => ?_)
  refine z_iconst 10 C0 (v := (nI 1)) dX7_join_9 rfl rfl ?_
  exact z_zret C0 rfl rfl dX7_join_10 ⟨prs, kf, vf, sp, st, lo, to, stp, res, wo, err, (-1), ⟨(zb_tN rfl), rfl⟩, (⟨hz, rfl, rfl, rfl, rfl, rfl, rfl⟩)⟩ (by decide) (by decide)

theorem join7 (l_ : Launch) (E : zE) (y : Nat) (sz : Nat) (yrk : Nat) (yrv : Nat) (rn : Nat) (yop : Nat) (ynu : Nat) (yle : Nat) (yk : Nat) (yv : Nat) (ysp : Nat) (prs : Nat) (yxk : Nat) (yxv : Nat) (rs : Nat) (err : Int32) (yto : Nat) (yst : Nat) (ylo : Nat) (stp : Nat) (res : Int32) (wo : Nat) (oo : Nat → Option Nat) (nu : Nat → Option Nat) (ra : Nat) (rb : Nat) (op : Nat → Int32) (nn : Nat → Int32) (kf : Nat → Int32) (vf : Nat → Int32) (sp : Nat → Nat) (st : Nat → Int32) (lo : Nat → Int32) (to : Nat → Nat) (ln : Nat → Nat) (cc : Nat → Nat) (spl : Nat) (hG : ln 1 = 0 ∨ Good 1 op nn (ln 1)) (hoo : oo 1 = some ra) (hnu : nu 1 = some rb) (hlen : ln 1 ≤ 64) (hprs : prs ≤ 600) (hspl : spl ≤ 120) (hc0 : cc 0 = 0) (hcm : ∀ s, cc s ≤ cc (s + 1)) (hcN : cc spl = prs) (hsp : ∀ s j, s < spl → cc s ≤ j → j < cc (s + 1) → sp j = s) : zMi l_ E yX7_join (zTs yX7_join cX7_join 4 (some .boolean)) ({ frames := 2, cells := 0, slots := 0, locals := 54 } : Room) [.ref y] [(y, zo 7 [.int (nI sz), .ref yrk, .ref yrv, .int (nI rn), .ref yop, .ref ynu, .ref yle, .ref yk, .ref yv, .ref ysp, .int (nI prs), .ref yxk, .ref yxv, .int (nI rs), .int err, .ref yto, .ref yst, .ref ylo, .int (nI stp), .int res, .int (nI wo)]), (yop, zg E 4 oo), (ra, zi E 64 op), (ynu, zg E 4 nu), (rb, zi E 64 nn), (yk, zi E 620 kf), (yv, zi E 620 vf), (ysp, zi E 620 (zn sp)), (yst, zi E 8 st), (ylo, zi E 4 lo), (yto, zi E 8 (zn to)), (yle, zi E 4 (zn ln))] (fun r_ w_ => ∃ prs2 : Nat, ∃ kf2 : Nat → Int32, ∃ vf2 : Nat → Int32, ∃ sp2 : Nat → Nat, ∃ st2 : Nat → Int32, ∃ lo2 : Nat → Int32, ∃ to2 : Nat → Nat, ∃ stp2 : Nat, ∃ res2 : Int32, ∃ wo2 : Nat, ∃ err2 : Int32, ∃ r2 : Int32, (r_ = (zb (r2 = -1)) ∧ w_ = [(y, zo 7 [.int (nI sz), .ref yrk, .ref yrv, .int (nI rn), .ref yop, .ref ynu, .ref yle, .ref yk, .ref yv, .ref ysp, .int (nI prs2), .ref yxk, .ref yxv, .int (nI rs), .int err2, .ref yto, .ref yst, .ref ylo, .int (nI stp2), .int res2, .int (nI wo2)]), (yop, zg E 4 oo), (ra, zi E 64 op), (ynu, zg E 4 nu), (rb, zi E 64 nn), (yk, zi E 620 kf2), (yv, zi E 620 vf2), (ysp, zi E 620 (zn sp2)), (yst, zi E 8 st2), (ylo, zi E 4 lo2), (yto, zi E 8 (zn to2)), (yle, zi E 4 (zn ln))]) ∧ ((ln 1 = 0 ∧ r2 = -1 ∧ kf2 = kf ∧ vf2 = vf ∧ prs2 = prs ∧ to2 = to ∧ err2 = err) ∨ (ln 1 ≠ 0 ∧ joinL (pF op nn) (fun s => tab kf vf (cc s) (cc (s + 1) - cc s)) spl r2 ∧ err2 = (if r2 = -1 then err else r2) ∧ prs2 ≤ 600 ∧ (r2 = -1 → ∃ tot, jnU (pF op nn) (fun s => tab kf vf (cc s) (cc (s + 1) - cc s)) spl (tab kf2 vf2 0 prs2) tot ∧ to2 = va_up to 5 (to 5 + tot))))) 0 0 := by
  intro sz_
  rcases Nat.eq_zero_or_pos (ln 1) with h0 | h0
  · refine Met.postI (join7_z l_ E y sz yrk yrv rn yop ynu yle yk yv ysp prs yxk yxv rs err yto yst ylo stp res wo oo nu ra rb op nn kf vf sp st lo to ln cc spl h0 hprs sz_) ?_
    rintro r w ⟨prs2, kf2, vf2, sp2, st2, lo2, to2, stp2, res2, wo2, err2, r2, hrw, hZ⟩
    exact ⟨prs2, kf2, vf2, sp2, st2, lo2, to2, stp2, res2, wo2, err2, r2, hrw, Or.inl hZ⟩
  · refine Met.postI (join7_1 l_ E y sz yrk yrv rn yop ynu yle yk yv ysp prs yxk yxv rs err yto yst ylo stp res wo oo nu ra rb op nn kf vf sp st lo to ln cc spl hoo hnu (hG.resolve_left (by omega)) hlen hprs hspl hc0 hcm hcN hsp sz_) ?_
    rintro r w ⟨prs2, kf2, vf2, sp2, st2, lo2, to2, stp2, res2, wo2, err2, r2, hrw, h1, h2, h3, h4⟩
    exact ⟨prs2, kf2, vf2, sp2, st2, lo2, to2, stp2, res2, wo2, err2, r2, hrw, Or.inr ⟨by omega, h1, h2, h3, h4⟩⟩

set_option maxHeartbeats 4000000 in
set_option maxRecDepth 100000 in
theorem end7_z (l_ : Launch) (E : zE) (y : Nat) (sz : Nat) (yrk : Nat) (yrv : Nat) (rn : Nat) (yop : Nat) (ynu : Nat) (yle : Nat) (yk : Nat) (yv : Nat) (ysp : Nat) (prs : Nat) (yxk : Nat) (yxv : Nat) (rs : Nat) (err : Int32) (yto : Nat) (yst : Nat) (ylo : Nat) (stp : Nat) (res : Int32) (wo : Nat) (oo : Nat → Option Nat) (nu : Nat → Option Nat) (ra : Nat) (rb : Nat) (op : Nat → Int32) (nn : Nat → Int32) (kf : Nat → Int32) (vf : Nat → Int32) (sp : Nat → Nat) (st : Nat → Int32) (lo : Nat → Int32) (xk : Nat → Int32) (xv : Nat → Int32) (to : Nat → Nat) (ln : Nat → Nat) (hz : ln 3 = 0) (hlim : rs ≤ 600) : zMi l_ E yX7_end (zTs yX7_end cX7_end 3 (some .boolean)) ({ frames := 2, cells := 0, slots := 0, locals := 54 } : Room) [.ref y] [(y, zo 7 [.int (nI sz), .ref yrk, .ref yrv, .int (nI rn), .ref yop, .ref ynu, .ref yle, .ref yk, .ref yv, .ref ysp, .int (nI prs), .ref yxk, .ref yxv, .int (nI rs), .int err, .ref yto, .ref yst, .ref ylo, .int (nI stp), .int res, .int (nI wo)]), (yop, zg E 4 oo), (ra, zi E 64 op), (ynu, zg E 4 nu), (rb, zi E 64 nn), (yk, zi E 620 kf), (yv, zi E 620 vf), (ysp, zi E 620 (zn sp)), (yst, zi E 8 st), (ylo, zi E 4 lo), (yxk, zi E 600 xk), (yxv, zi E 600 xv), (yto, zi E 8 (zn to)), (yle, zi E 4 (zn ln))] (fun r_ w_ => ∃ n2 : Nat, ∃ xk2 : Nat → Int32, ∃ xv2 : Nat → Int32, ∃ st2 : Nat → Int32, ∃ lo2 : Nat → Int32, ∃ to2 : Nat → Nat, ∃ stp2 : Nat, ∃ res2 : Int32, ∃ wo2 : Nat, ∃ err2 : Int32, ∃ r2 : Int32, (r_ = (zb (r2 = -1)) ∧ w_ = [(y, zo 7 [.int (nI sz), .ref yrk, .ref yrv, .int (nI rn), .ref yop, .ref ynu, .ref yle, .ref yk, .ref yv, .ref ysp, .int (nI prs), .ref yxk, .ref yxv, .int (nI n2), .int err2, .ref yto, .ref yst, .ref ylo, .int (nI stp2), .int res2, .int (nI wo2)]), (yop, zg E 4 oo), (ra, zi E 64 op), (ynu, zg E 4 nu), (rb, zi E 64 nn), (yk, zi E 620 kf), (yv, zi E 620 vf), (ysp, zi E 620 (zn sp)), (yst, zi E 8 st2), (ylo, zi E 4 lo2), (yxk, zi E 600 xk2), (yxv, zi E 600 xv2), (yto, zi E 8 (zn to2)), (yle, zi E 4 (zn ln))]) ∧ (ln 3 = 0 ∧ r2 = -1 ∧ n2 = rs ∧ xk2 = xk ∧ xv2 = xv ∧ to2 = to ∧ err2 = err)) 0 0 := by
  refine zMi.of (cc := cX7_end) (nL := 3) (ret := (some .boolean)) (by decide) rfl (Nat.le_of_ble_eq_true rfl) ?_
  intro p_ e_ s_ m_ args_ below_ meth_ c_ A_ C0 hin0
  have C0 : zC E p_ s_ m_ args_ meth_ c_ cX7_end 3 (some .boolean) RX7 (zTs yX7_end cX7_end 3 (some .boolean)) A_ := C0
  refine z_eqL (L1 := [(0, .ref y)]) rfl ?_
  refine z_aload_n 1 C0 0 dX7_end_0 rfl rfl rfl ?_
  refine z_get 4 C0 0 6 wz_7 rfl (by decide) (zTs_in wk_454) dX7_end_1 rfl rfl rfl ?_
  refine z_iconst 5 C0 (v := (nI 3)) dX7_end_4 rfl rfl ?_
  refine z_ialdN 6 C0 13 (v := (nI (ln 3))) dX7_end_5 rfl rfl (by omega) (by decide) rfl ?_
  refine z_eq (L1 := [(0, .ref y)]) (st1 := [.int (nI 0)]) (w1 := [(y, zo 7 [.int (nI sz), .ref yrk, .ref yrv, .int (nI rn), .ref yop, .ref ynu, .ref yle, .ref yk, .ref yv, .ref ysp, .int (nI prs), .ref yxk, .ref yxv, .int (nI rs), .int err, .ref yto, .ref yst, .ref ylo, .int (nI stp), .int res, .int (nI wo)]), (yop, zg E 4 oo), (ra, zi E 64 op), (ynu, zg E 4 nu), (rb, zi E 64 nn), (yk, zi E 620 kf), (yv, zi E 620 vf), (ysp, zi E 620 (zn sp)), (yst, zi E 8 st), (ylo, zi E 4 lo), (yxk, zi E 600 xk), (yxv, zi E 600 xv), (yto, zi E 8 (zn to)), (yle, zi E 4 (zn ln))]) rfl (by rw [hz]) rfl ?_
  refine z_if_neN 9 11 C0 (by decide) dX7_end_6 rfl (by decide) (fun k6 => absurd k6 (by omega)) (fun k6 => ?_)
  refine z_iconst 10 C0 (v := (nI 1)) dX7_end_9 rfl rfl ?_
  exact z_zret C0 rfl rfl dX7_end_10 ⟨rs, xk, xv, st, lo, to, stp, res, wo, err, (-1), ⟨(zb_tN rfl), rfl⟩, (⟨hz, rfl, rfl, rfl, rfl, rfl, rfl⟩)⟩ (by decide) (by decide)

theorem end7 (l_ : Launch) (E : zE) (y : Nat) (sz : Nat) (yrk : Nat) (yrv : Nat) (rn : Nat) (yop : Nat) (ynu : Nat) (yle : Nat) (yk : Nat) (yv : Nat) (ysp : Nat) (prs : Nat) (yxk : Nat) (yxv : Nat) (rs : Nat) (err : Int32) (yto : Nat) (yst : Nat) (ylo : Nat) (stp : Nat) (res : Int32) (wo : Nat) (oo : Nat → Option Nat) (nu : Nat → Option Nat) (ra : Nat) (rb : Nat) (op : Nat → Int32) (nn : Nat → Int32) (kf : Nat → Int32) (vf : Nat → Int32) (sp : Nat → Nat) (st : Nat → Int32) (lo : Nat → Int32) (xk : Nat → Int32) (xv : Nat → Int32) (to : Nat → Nat) (ln : Nat → Nat) (hG : ln 3 = 0 ∨ Good 3 op nn (ln 3)) (hoo : oo 3 = some ra) (hnu : nu 3 = some rb) (hlen : ln 3 ≤ 64) (hrs : rs ≤ 600) (hprs : prs ≤ 600) : zMi l_ E yX7_end (zTs yX7_end cX7_end 3 (some .boolean)) ({ frames := 2, cells := 0, slots := 0, locals := 54 } : Room) [.ref y] [(y, zo 7 [.int (nI sz), .ref yrk, .ref yrv, .int (nI rn), .ref yop, .ref ynu, .ref yle, .ref yk, .ref yv, .ref ysp, .int (nI prs), .ref yxk, .ref yxv, .int (nI rs), .int err, .ref yto, .ref yst, .ref ylo, .int (nI stp), .int res, .int (nI wo)]), (yop, zg E 4 oo), (ra, zi E 64 op), (ynu, zg E 4 nu), (rb, zi E 64 nn), (yk, zi E 620 kf), (yv, zi E 620 vf), (ysp, zi E 620 (zn sp)), (yst, zi E 8 st), (ylo, zi E 4 lo), (yxk, zi E 600 xk), (yxv, zi E 600 xv), (yto, zi E 8 (zn to)), (yle, zi E 4 (zn ln))] (fun r_ w_ => ∃ n2 : Nat, ∃ xk2 : Nat → Int32, ∃ xv2 : Nat → Int32, ∃ st2 : Nat → Int32, ∃ lo2 : Nat → Int32, ∃ to2 : Nat → Nat, ∃ stp2 : Nat, ∃ res2 : Int32, ∃ wo2 : Nat, ∃ err2 : Int32, ∃ r2 : Int32, (r_ = (zb (r2 = -1)) ∧ w_ = [(y, zo 7 [.int (nI sz), .ref yrk, .ref yrv, .int (nI rn), .ref yop, .ref ynu, .ref yle, .ref yk, .ref yv, .ref ysp, .int (nI prs), .ref yxk, .ref yxv, .int (nI n2), .int err2, .ref yto, .ref yst, .ref ylo, .int (nI stp2), .int res2, .int (nI wo2)]), (yop, zg E 4 oo), (ra, zi E 64 op), (ynu, zg E 4 nu), (rb, zi E 64 nn), (yk, zi E 620 kf), (yv, zi E 620 vf), (ysp, zi E 620 (zn sp)), (yst, zi E 8 st2), (ylo, zi E 4 lo2), (yxk, zi E 600 xk2), (yxv, zi E 600 xv2), (yto, zi E 8 (zn to2)), (yle, zi E 4 (zn ln))]) ∧ ((ln 3 = 0 ∧ r2 = -1 ∧ n2 = rs ∧ xk2 = xk ∧ xv2 = xv ∧ to2 = to ∧ err2 = err) ∨ (ln 3 ≠ 0 ∧ endR op nn xk xv rs r2 ∧ err2 = (if r2 = -1 then err else r2) ∧ n2 ≤ 600 ∧ (r2 = -1 → n2 = (enK op nn xk xv rs).length ∧ (∀ j, j < n2 → (xk2 j, xv2 j) = (enK op nn xk xv rs).getD j (0, 0)) ∧ to2 = va_up to 7 (to 7 + enS op nn xk xv rs))))) 0 0 := by
  intro sz_
  rcases Nat.eq_zero_or_pos (ln 3) with h0 | h0
  · refine Met.postI (end7_z l_ E y sz yrk yrv rn yop ynu yle yk yv ysp prs yxk yxv rs err yto yst ylo stp res wo oo nu ra rb op nn kf vf sp st lo xk xv to ln h0 hrs sz_) ?_
    rintro r w ⟨n2, xk2, xv2, st2, lo2, to2, stp2, res2, wo2, err2, r2, hrw, hZ⟩
    exact ⟨n2, xk2, xv2, st2, lo2, to2, stp2, res2, wo2, err2, r2, hrw, Or.inl hZ⟩
  · refine Met.postI (end7_1 l_ E y sz yrk yrv rn yop ynu yle yk yv ysp prs yxk yxv rs err yto yst ylo stp res wo oo nu ra rb op nn kf vf sp st lo xk xv to ln hoo hnu (hG.resolve_left (by omega)) hlen hrs hprs sz_) ?_
    rintro r w ⟨n2, xk2, xv2, st2, lo2, to2, stp2, res2, wo2, err2, r2, hrw, h1, h2, h3, h4⟩
    exact ⟨n2, xk2, xv2, st2, lo2, to2, stp2, res2, wo2, err2, r2, hrw, Or.inr ⟨by omega, h1, h2, h3, h4⟩⟩
