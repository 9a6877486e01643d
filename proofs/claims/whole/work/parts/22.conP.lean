set_option maxHeartbeats 4000000 in
set_option maxRecDepth 100000 in
theorem end7_0 (l_ : Launch) (E : zE) (y : Nat) (sz : Nat) (yrk : Nat) (yrv : Nat) (rn : Nat) (yop : Nat) (ynu : Nat) (yle : Nat) (yk : Nat) (yv : Nat) (ysp : Nat) (prs : Nat) (yxk : Nat) (yxv : Nat) (rs : Nat) (err : Int32) (yto : Nat) (yst : Nat) (ylo : Nat) (stp : Nat) (res : Int32) (wo : Nat) (ln : Nat → Nat) (hln : ln 3 = 0) : zMi l_ E yX7_end (zTs yX7_end cX7_end 3 (some .boolean)) ({ frames := 2, cells := 0, slots := 0, locals := 54 } : Room) [.ref y] [(y, zo 7 [.int (nI sz), .ref yrk, .ref yrv, .int (nI rn), .ref yop, .ref ynu, .ref yle, .ref yk, .ref yv, .ref ysp, .int (nI prs), .ref yxk, .ref yxv, .int (nI rs), .int err, .ref yto, .ref yst, .ref ylo, .int (nI stp), .int res, .int (nI wo)]), (yle, zi E 4 (zn ln))] (fun r_ w_ => (r_ = (nI 1) ∧ w_ = [(y, zo 7 [.int (nI sz), .ref yrk, .ref yrv, .int (nI rn), .ref yop, .ref ynu, .ref yle, .ref yk, .ref yv, .ref ysp, .int (nI prs), .ref yxk, .ref yxv, .int (nI rs), .int err, .ref yto, .ref yst, .ref ylo, .int (nI stp), .int res, .int (nI wo)]), (yle, zi E 4 (zn ln))])) 0 0 := by
  refine zMi.of (cc := cX7_end) (nL := 3) (ret := (some .boolean)) (by decide) rfl (Nat.le_of_ble_eq_true rfl) ?_
  intro p_ e_ s_ m_ args_ below_ meth_ c_ A_ C0 hin0
  have C0 : zC E p_ s_ m_ args_ meth_ c_ cX7_end 3 (some .boolean) RX7 (zTs yX7_end cX7_end 3 (some .boolean)) A_ := C0
  refine z_eqL (L1 := [(0, .ref y)]) rfl ?_
  refine z_aload_n 1 C0 0 dX7_end_0 rfl rfl rfl ?_
  refine z_get 4 C0 0 6 wz_7 rfl (by decide) (zTs_in wk_454) dX7_end_1 rfl rfl rfl ?_
  refine z_iconst 5 C0 (v := (nI 3)) dX7_end_4 rfl rfl ?_
  refine z_ialdN 6 C0 1 (v := (nI (ln 3))) dX7_end_5 rfl rfl (by omega) (by decide) rfl ?_
  refine z_eq (L1 := [(0, .ref y)]) (st1 := [.int (nI 0)]) (w1 := [(y, zo 7 [.int (nI sz), .ref yrk, .ref yrv, .int (nI rn), .ref yop, .ref ynu, .ref yle, .ref yk, .ref yv, .ref ysp, .int (nI prs), .ref yxk, .ref yxv, .int (nI rs), .int err, .ref yto, .ref yst, .ref ylo, .int (nI stp), .int res, .int (nI wo)]), (yle, zi E 4 (zn ln))]) rfl (by rw [hln]) rfl ?_
  refine z_if_neN 9 11 C0 (by decide) dX7_end_6 rfl (by decide) (fun k6 => absurd k6 (by omega)) (fun k6 => ?_)
  refine z_iconst 10 C0 (v := (nI 1)) dX7_end_9 rfl rfl ?_
  exact z_zret C0 rfl rfl dX7_end_10 ⟨rfl, rfl⟩ (by decide) (by decide)

set_option maxHeartbeats 4000000 in
set_option maxRecDepth 100000 in
theorem end7_1 (l_ : Launch) (E : zE) (y : Nat) (sz : Nat) (yrk : Nat) (yrv : Nat) (rn : Nat) (yop : Nat) (ynu : Nat) (yle : Nat) (yk : Nat) (yv : Nat) (ysp : Nat) (prs : Nat) (yxk : Nat) (yxv : Nat) (rs : Nat) (err : Int32) (yto : Nat) (yst : Nat) (ylo : Nat) (stp : Nat) (res : Int32) (wo : Nat) (oo : Nat → Option Nat) (nu : Nat → Option Nat) (ra : Nat) (rb : Nat) (op : Nat → Int32) (nn : Nat → Int32) (kf : Nat → Int32) (vf : Nat → Int32) (sp : Nat → Nat) (st : Nat → Int32) (lo : Nat → Int32) (xk : Nat → Int32) (xv : Nat → Int32) (to : Nat → Nat) (ln : Nat → Nat) (hoo : oo 3 = some ra) (hnu : nu 3 = some rb) (hG : Good 3 op nn (ln 3)) (hlen : ln 3 ≤ 64) (hrs : rs ≤ 600) (hprs : prs ≤ 600) : zMi l_ E yX7_end (zTs yX7_end cX7_end 3 (some .boolean)) ({ frames := 2, cells := 0, slots := 0, locals := 54 } : Room) [.ref y] [(y, zo 7 [.int (nI sz), .ref yrk, .ref yrv, .int (nI rn), .ref yop, .ref ynu, .ref yle, .ref yk, .ref yv, .ref ysp, .int (nI prs), .ref yxk, .ref yxv, .int (nI rs), .int err, .ref yto, .ref yst, .ref ylo, .int (nI stp), .int res, .int (nI wo)]), (yop, zg E 4 oo), (ra, zi E 64 op), (ynu, zg E 4 nu), (rb, zi E 64 nn), (yk, zi E 620 kf), (yv, zi E 620 vf), (ysp, zi E 620 (zn sp)), (yst, zi E 8 st), (ylo, zi E 4 lo), (yxk, zi E 600 xk), (yxv, zi E 600 xv), (yto, zi E 8 (zn to)), (yle, zi E 4 (zn ln))] (fun r_ w_ => ∃ n2 : Nat, ∃ xk2 : Nat → Int32, ∃ xv2 : Nat → Int32, ∃ st2 : Nat → Int32, ∃ lo2 : Nat → Int32, ∃ to2 : Nat → Nat, ∃ stp2 : Nat, ∃ res2 : Int32, ∃ wo2 : Nat, ∃ err2 : Int32, ∃ r2 : Int32, (r_ = (zb (r2 = -1)) ∧ w_ = [(y, zo 7 [.int (nI sz), .ref yrk, .ref yrv, .int (nI rn), .ref yop, .ref ynu, .ref yle, .ref yk, .ref yv, .ref ysp, .int (nI prs), .ref yxk, .ref yxv, .int (nI n2), .int err2, .ref yto, .ref yst, .ref ylo, .int (nI stp2), .int res2, .int (nI wo2)]), (yop, zg E 4 oo), (ra, zi E 64 op), (ynu, zg E 4 nu), (rb, zi E 64 nn), (yk, zi E 620 kf), (yv, zi E 620 vf), (ysp, zi E 620 (zn sp)), (yst, zi E 8 st2), (ylo, zi E 4 lo2), (yxk, zi E 600 xk2), (yxv, zi E 600 xv2), (yto, zi E 8 (zn to2)), (yle, zi E 4 (zn ln))]) ∧ (endR op nn xk xv rs r2) ∧ (err2 = (if r2 = -1 then err else r2)) ∧ (n2 ≤ 600) ∧ (r2 = -1 → n2 = (enK op nn xk xv rs).length ∧ (∀ j, j < n2 → (xk2 j, xv2 j) = (enK op nn xk xv rs).getD j (0, 0)) ∧ to2 = va_up to 7 (to 7 + enS op nn xk xv rs))) 0 0 := by
  refine zMi.of (cc := cX7_end) (nL := 3) (ret := (some .boolean)) (by decide) rfl (Nat.le_of_ble_eq_true rfl) ?_
  intro p_ e_ s_ m_ args_ below_ meth_ c_ A_ C0 hin0
  have C0 : zC E p_ s_ m_ args_ meth_ c_ cX7_end 3 (some .boolean) RX7 (zTs yX7_end cX7_end 3 (some .boolean)) A_ := C0
  refine z_eqL (L1 := [(0, .ref y)]) rfl ?_
  refine z_aload_n 1 C0 0 dX7_end_0 rfl rfl rfl ?_
  refine z_get 4 C0 0 6 wz_7 rfl (by decide) (zTs_in wk_454) dX7_end_1 rfl rfl rfl ?_
  refine z_iconst 5 C0 (v := (nI 3)) dX7_end_4 rfl rfl ?_
  refine z_ialdN 6 C0 13 (v := (nI (ln 3))) dX7_end_5 rfl rfl (by omega) (by decide) rfl ?_
  refine z_if_neN 9 11 C0 (by omega) dX7_end_6 rfl (by decide) (fun k6 => ?_) (fun k6 => absurd k6 (by have := hG.1; omega))
  refine z_iconst 12 C0 (v := (nI 0)) dX7_end_11 rfl rfl ?_
  refine z_istore_n 13 C0 [1, 0] [(0, .ref y), (1, .int (nI 0))] dX7_end_12 rfl rfl (by decide) rfl ?_
  refine z_eq (L1 := [(0, .ref y), (1, .int (nI ((enK op nn xk xv 0).length)))]) (st1 := []) (w1 := [(y, zo 7 [.int (nI sz), .ref yrk, .ref yrv, .int (nI rn), .ref yop, .ref ynu, .ref yle, .ref yk, .ref yv, .ref ysp, .int (nI prs), .ref yxk, .ref yxv, .int (nI rs), .int err, .ref yto, .ref yst, .ref ylo, .int (nI stp), .int res, .int (nI wo)]), (yop, zg E 4 oo), (ra, zi E 64 op), (ynu, zg E 4 nu), (rb, zi E 64 nn), (yk, zi E 620 kf), (yv, zi E 620 vf), (ysp, zi E 620 (zn sp)), (yst, zi E 8 st), (ylo, zi E 4 lo), (yxk, zi E 600 xk), (yxv, zi E 600 xv), (yto, zi E 8 (zn to)), (yle, zi E 4 (zn ln))]) rfl rfl rfl ?_
  refine z_iconst 14 C0 (v := (nI 0)) dX7_end_13 rfl rfl ?_
  refine z_istore_n 15 C0 [1, 2, 0] [(0, .ref y), (1, .int (nI ((enK op nn xk xv 0).length))), (2, .int (nI 0))] dX7_end_14 rfl rfl (by decide) rfl ?_
  have CUT15 : ∀ (N15 : Nat) (i : Nat) (ka : Nat → Int32) (va : Nat → Int32) (st : Nat → Int32) (lo : Nat → Int32) (tx : Nat → Nat) (stp : Nat) (res : Int32) (wo : Nat), (i ≤ rs) → (∀ x, x < i → (enC op nn xk xv x).1 ≠ 0) → (∀ j, j < (enK op nn xk xv i).length → (ka j, va j) = (enK op nn xk xv i).getD j (0, 0)) → (∀ j, i ≤ j → ka j = xk j ∧ va j = xv j) → (tx = va_up to 7 (to 7 + enS op nn xk xv i)) → rs - i < N15 → Z E p_ l_ e_ ({ frames := 2, cells := 0, slots := 0, locals := 54 } : Room) s_ m_ args_ below_ meth_ c_ (MQ below_ (va_Qi (fun r_ w_ => ∃ n2 : Nat, ∃ xk2 : Nat → Int32, ∃ xv2 : Nat → Int32, ∃ st2 : Nat → Int32, ∃ lo2 : Nat → Int32, ∃ to2 : Nat → Nat, ∃ stp2 : Nat, ∃ res2 : Int32, ∃ wo2 : Nat, ∃ err2 : Int32, ∃ r2 : Int32, (r_ = (zb (r2 = -1)) ∧ w_ = [(y, zo 7 [.int (nI sz), .ref yrk, .ref yrv, .int (nI rn), .ref yop, .ref ynu, .ref yle, .ref yk, .ref yv, .ref ysp, .int (nI prs), .ref yxk, .ref yxv, .int (nI n2), .int err2, .ref yto, .ref yst, .ref ylo, .int (nI stp2), .int res2, .int (nI wo2)]), (yop, zg E 4 oo), (ra, zi E 64 op), (ynu, zg E 4 nu), (rb, zi E 64 nn), (yk, zi E 620 kf), (yv, zi E 620 vf), (ysp, zi E 620 (zn sp)), (yst, zi E 8 st2), (ylo, zi E 4 lo2), (yxk, zi E 600 xk2), (yxv, zi E 600 xv2), (yto, zi E 8 (zn to2)), (yle, zi E 4 (zn ln))]) ∧ (endR op nn xk xv rs r2) ∧ (err2 = (if r2 = -1 then err else r2)) ∧ (n2 ≤ 600) ∧ (r2 = -1 → n2 = (enK op nn xk xv rs).length ∧ (∀ j, j < n2 → (xk2 j, xv2 j) = (enK op nn xk xv rs).getD j (0, 0)) ∧ to2 = va_up to 7 (to 7 + enS op nn xk xv rs))) (zPost E A_) A_) args_ s_ 0 0 A_) A_ 3 15 [(0, .ref y), (1, .int (nI ((enK op nn xk xv i).length))), (2, .int (nI i))] [] [(y, zo 7 [.int (nI sz), .ref yrk, .ref yrv, .int (nI rn), .ref yop, .ref ynu, .ref yle, .ref yk, .ref yv, .ref ysp, .int (nI prs), .ref yxk, .ref yxv, .int (nI rs), .int err, .ref yto, .ref yst, .ref ylo, .int (nI stp), .int res, .int (nI wo)]), (yop, zg E 4 oo), (ra, zi E 64 op), (ynu, zg E 4 nu), (rb, zi E 64 nn), (yk, zi E 620 kf), (yv, zi E 620 vf), (ysp, zi E 620 (zn sp)), (yst, zi E 8 st), (ylo, zi E 4 lo), (yxk, zi E 600 ka), (yxv, zi E 600 va), (yto, zi E 8 (zn tx)), (yle, zi E 4 (zn ln))] 0 0 := by
    intro N15
    induction N15 with
    | zero => intro i ka va st lo tx stp res wo hi hok hA hB htx hm15; exact absurd hm15 (Nat.not_lt_zero _)
    | succ N15 ih15 =>
      intro i ka va st lo tx stp res wo hi hok hA hB htx hm15
      refine z_iload_n 16 C0 2 dX7_end_15 rfl rfl rfl ?_
      refine z_aload_n 17 C0 0 dX7_end_16 rfl rfl rfl ?_
      refine z_get 20 C0 0 13 wz_7 rfl (by decide) (zTs_in wk_461) dX7_end_17 rfl rfl rfl ?_
      refine z_icmp_geN 23 109 C0 (by omega) (by omega) dX7_end_20 rfl (by decide) (fun k20 => ?_) (fun k20 => ?_)
      · skip
        have hl3 := enK_len op nn xk xv i
        refine z_aload_n 110 C0 0 dX7_end_109 rfl rfl rfl ?_
        refine z_iload_n 111 C0 1 dX7_end_110 rfl rfl rfl ?_
        refine z_put 114 C0 0 13 [(y, zo 7 [.int (nI sz), .ref yrk, .ref yrv, .int (nI rn), .ref yop, .ref ynu, .ref yle, .ref yk, .ref yv, .ref ysp, .int (nI prs), .ref yxk, .ref yxv, .int (nI ((enK op nn xk xv i).length)), .int err, .ref yto, .ref yst, .ref ylo, .int (nI stp), .int res, .int (nI wo)]), (yop, zg E 4 oo), (ra, zi E 64 op), (ynu, zg E 4 nu), (rb, zi E 64 nn), (yk, zi E 620 kf), (yv, zi E 620 vf), (ysp, zi E 620 (zn sp)), (yst, zi E 8 st), (ylo, zi E 4 lo), (yxk, zi E 600 ka), (yxv, zi E 600 va), (yto, zi E 8 (zn tx)), (yle, zi E 4 (zn ln))] wz_7 rfl (by decide) (zTs_in wk_461) tyX7 tyX7_ok nmX7 rfl rfl rfl rfl dX7_end_111 rfl rfl (Nat.le_of_ble_eq_true rfl) rfl ?_
        refine z_iconst 115 C0 (v := (nI 1)) dX7_end_114 rfl rfl ?_
        have hl2 := enK_len op nn xk xv i
        obtain rfl : i = rs := by omega
        exact z_zret C0 rfl rfl dX7_end_115 ⟨((enK op nn xk xv i).length), ka, va, st, lo, tx, stp, res, wo, err, (-1), ⟨(zb_tN rfl), rfl⟩, (Or.inr ⟨hok, rfl⟩), (by rw [if_pos rfl]), (by omega), (fun _ => ⟨rfl, hA, htx⟩)⟩ (by decide) (by decide)
      · skip
        refine z_aload_n 24 C0 0 dX7_end_23 rfl rfl rfl ?_
        refine z_iconst 25 C0 (v := (nI 3)) dX7_end_24 rfl rfl ?_
        refine z_aload_n 26 C0 0 dX7_end_25 rfl rfl rfl ?_
        refine z_get 29 C0 0 11 wz_7 rfl (by decide) (zTs_in wk_459) dX7_end_26 rfl rfl rfl ?_
        refine z_iload_n 30 C0 2 dX7_end_29 rfl rfl rfl ?_
        refine z_ialdN 31 C0 10 (v := (xk i)) dX7_end_30 rfl rfl (by omega) (by decide) (hB i (Nat.le_refl i)).1 ?_
        refine z_aload_n 32 C0 0 dX7_end_31 rfl rfl rfl ?_
        refine z_get 35 C0 0 12 wz_7 rfl (by decide) (zTs_in wk_460) dX7_end_32 rfl rfl rfl ?_
        refine z_iload_n 36 C0 2 dX7_end_35 rfl rfl rfl ?_
        refine z_ialdN 37 C0 11 (v := (xv i)) dX7_end_36 rfl rfl (by omega) (by decide) (hB i (Nat.le_refl i)).2 ?_
        refine z_iconst 38 C0 (v := (nI 0)) dX7_end_37 rfl rfl ?_
        refine z_iconst 39 C0 (v := (nI 0)) dX7_end_38 rfl rfl ?_
        refine z_callVi 42 C0 [0, 1, 2, 3, 4, 5, 6, 7, 8, 9] [10, 11, 12, 13] [(yxk, zi E 600 ka), (yxv, zi E 600 va), (yto, zi E 8 (zn tx)), (yle, zi E 4 (zn ln))] 0 0 (As := [.int (nI 3), .int (xk i), .int (xv i), .int (nI 0), .int (nI 0)]) (T := TX7) (N := 21) (C := RX7) (ci := 7) (n := 5) 0 (call7 l_ E y sz yrk yrv rn yop ynu yle yk yv ysp prs yxk yxv rs err yto yst ylo stp res wo 3 oo nu ra rb op nn kf vf sp st lo (ln 3) (xk i) (xv i) (nI 0) 0 (by decide) (hoo) (hnu) (hG) (hlen) (by omega)) (zGIV (fun _ => zTs_in) wk_571 wk_568 wk_570 wk_7 wk_20) rfl ⟨rfl, by decide, by decide, by decide +kernel⟩ rfl rfl rfl rfl (by decide) rfl rfl (Nat.le_of_ble_eq_true rfl) ⟨by decide, by decide⟩ rfl rfl ⟨by decide, by decide⟩ ⟨by decide, by decide⟩ dX7_end_39 rfl (fun r39 w39 hB39 => ?_)
        obtain ⟨stp2_39, res2_39, wo2_39, st2_39, lo2_39, ⟨rfl, rfl⟩, fs_39, fa_39⟩ := hB39
        refine z_perm [4, 5, 6, 7, 8, 9, 10, 11, 12, 13, 0, 1, 2, 3] [(y, zo 7 [.int (nI sz), .ref yrk, .ref yrv, .int (nI rn), .ref yop, .ref ynu, .ref yle, .ref yk, .ref yv, .ref ysp, .int (nI (prs + (callR op nn (xk i) (xv i) (nI 0)).2.2.2.length)), .ref yxk, .ref yxv, .int (nI rs), .int err, .ref yto, .ref yst, .ref ylo, .int (nI stp2_39), .int res2_39, .int (nI wo2_39)]), (yop, zg E 4 oo), (ra, zi E 64 op), (ynu, zg E 4 nu), (rb, zi E 64 nn), (yk, zi E 620 (rwK 620 prs kf (callR op nn (xk i) (xv i) (nI 0)).2.2.2)), (yv, zi E 620 (rwV 620 prs vf (callR op nn (xk i) (xv i) (nI 0)).2.2.2)), (ysp, zi E 620 (zn (rwS 620 prs sp 0 (callR op nn (xk i) (xv i) (nI 0)).2.2.2))), (yst, zi E 8 st2_39), (ylo, zi E 4 lo2_39), (yxk, zi E 600 ka), (yxv, zi E 600 va), (yto, zi E 8 (zn tx)), (yle, zi E 4 (zn ln))] (by decide) rfl ?_
        have hP0 : (callR op nn (xk i) (xv i) (nI 0)).2.2.2 = [] := callR_nil hG hlen (by decide) _ _ _
        have hle := callR_le op nn (xk i) (xv i) (nI 0)
        refine z_eq (L1 := [(0, .ref y), (1, .int (nI ((enK op nn xk xv i).length))), (2, .int (nI i))]) (st1 := [.int (zb ((callR op nn (xk i) (xv i) (nI 0)).1 ≠ 0))]) (w1 := [(y, zo 7 [.int (nI sz), .ref yrk, .ref yrv, .int (nI rn), .ref yop, .ref ynu, .ref yle, .ref yk, .ref yv, .ref ysp, .int (nI prs), .ref yxk, .ref yxv, .int (nI rs), .int err, .ref yto, .ref yst, .ref ylo, .int (nI stp2_39), .int res2_39, .int (nI wo2_39)]), (yop, zg E 4 oo), (ra, zi E 64 op), (ynu, zg E 4 nu), (rb, zi E 64 nn), (yk, zi E 620 kf), (yv, zi E 620 vf), (ysp, zi E 620 (zn sp)), (yst, zi E 8 st2_39), (ylo, zi E 4 lo2_39), (yxk, zi E 600 ka), (yxv, zi E 600 va), (yto, zi E 8 (zn tx)), (yle, zi E 4 (zn ln))]) rfl rfl (by rw [hP0, rwK_0, rwV_0, rwS_0]; rfl) ?_
        refine z_if_neP 45 54 C0 dX7_end_42 rfl (by decide) (fun k42 => ?_) (fun k42 => ?_)
        · skip
          have hst := (fs_39 k42).1
          have hwo := (fs_39 k42).2
          have hwo1 : wo2_39 ≤ 1 := by rw [hwo]; split <;> omega
          refine z_aload_n 55 C0 0 dX7_end_54 rfl rfl rfl ?_
          refine z_get 58 C0 0 15 wz_7 rfl (by decide) (zTs_in wk_463) dX7_end_55 rfl rfl rfl ?_
          refine z_bipush 60 C0 (v := (nI 7)) dX7_end_58 rfl rfl ?_
          refine z_dup2 61 C0 dX7_end_60 rfl rfl rfl ?_
          refine z_ialdN 62 C0 12 (v := (nI (tx 7))) dX7_end_61 rfl rfl (by omega) (by decide) rfl ?_
          refine z_aload_n 63 C0 0 dX7_end_62 rfl rfl rfl ?_
          refine z_get 66 C0 0 18 wz_7 rfl (by decide) (zTs_in wk_466) dX7_end_63 rfl rfl rfl ?_
          refine z_iadd 67 C0 (v := (nI ((tx 7) + stp2_39))) dX7_end_66 rfl (nI_add _ _) ?_
          refine z_iastN 68 C0 12 [(y, zo 7 [.int (nI sz), .ref yrk, .ref yrv, .int (nI rn), .ref yop, .ref ynu, .ref yle, .ref yk, .ref yv, .ref ysp, .int (nI prs), .ref yxk, .ref yxv, .int (nI rs), .int err, .ref yto, .ref yst, .ref ylo, .int (nI stp2_39), .int res2_39, .int (nI wo2_39)]), (yop, zg E 4 oo), (ra, zi E 64 op), (ynu, zg E 4 nu), (rb, zi E 64 nn), (yk, zi E 620 kf), (yv, zi E 620 vf), (ysp, zi E 620 (zn sp)), (yst, zi E 8 st2_39), (ylo, zi E 4 lo2_39), (yxk, zi E 600 ka), (yxv, zi E 600 va), (yto, zi E 8 (zn (va_up tx 7 ((tx 7) + stp2_39)))), (yle, zi E 4 (zn ln))] dX7_end_67 rfl rfl (by omega) (by decide) (by rw [z_upN]; rfl) ?_
          refine z_aload_n 69 C0 0 dX7_end_68 rfl rfl rfl ?_
          refine z_get 72 C0 0 20 wz_7 rfl (by decide) (zTs_in wk_468) dX7_end_69 rfl rfl rfl ?_
          refine z_if_eqN 75 78 C0 (by omega) dX7_end_72 rfl (by decide) (fun k72 => ?_) (fun k72 => ?_)
          · skip
            have hone : (enC op nn xk xv i).1 = 1 := (by have h1 : (enC op nn xk xv i).1 ≠ 0 := k42; have h2 : (enC op nn xk xv i).1 ≤ 2 := hle; have h3 : ¬ (enC op nn xk xv i).1 = 2 := (fun q => by have q2 : (callR op nn (xk i) (xv i) (nI 0)).1 = 2 := q; rw [if_pos q2] at hwo; omega); omega)
            have hres : res2_39 = (enC op nn xk xv i).2.1 := fa_39 hone (by decide)
            have hlt : (enK op nn xk xv i).length < 600 := by have := enK_len op nn xk xv i; omega
            refine z_aload_n 79 C0 0 dX7_end_78 rfl rfl rfl ?_
            refine z_get 82 C0 0 11 wz_7 rfl (by decide) (zTs_in wk_459) dX7_end_79 rfl rfl rfl ?_
            refine z_iload_n 83 C0 1 dX7_end_82 rfl rfl rfl ?_
            refine z_aload_n 84 C0 0 dX7_end_83 rfl rfl rfl ?_
            refine z_get 87 C0 0 11 wz_7 rfl (by decide) (zTs_in wk_459) dX7_end_84 rfl rfl rfl ?_
            refine z_iload_n 88 C0 2 dX7_end_87 rfl rfl rfl ?_
            refine z_ialdN 89 C0 10 (v := (ka i)) dX7_end_88 rfl rfl (by omega) (by decide) rfl ?_
            refine z_iastN 90 C0 10 [(y, zo 7 [.int (nI sz), .ref yrk, .ref yrv, .int (nI rn), .ref yop, .ref ynu, .ref yle, .ref yk, .ref yv, .ref ysp, .int (nI prs), .ref yxk, .ref yxv, .int (nI rs), .int err, .ref yto, .ref yst, .ref ylo, .int (nI stp2_39), .int res2_39, .int (nI wo2_39)]), (yop, zg E 4 oo), (ra, zi E 64 op), (ynu, zg E 4 nu), (rb, zi E 64 nn), (yk, zi E 620 kf), (yv, zi E 620 vf), (ysp, zi E 620 (zn sp)), (yst, zi E 8 st2_39), (ylo, zi E 4 lo2_39), (yxk, zi E 600 (upd ka ((enK op nn xk xv i).length) (ka i))), (yxv, zi E 600 va), (yto, zi E 8 (zn (va_up tx 7 ((tx 7) + stp2_39)))), (yle, zi E 4 (zn ln))] dX7_end_89 rfl rfl (by omega) (by decide) rfl ?_
            refine z_aload_n 91 C0 0 dX7_end_90 rfl rfl rfl ?_
            refine z_get 94 C0 0 12 wz_7 rfl (by decide) (zTs_in wk_460) dX7_end_91 rfl rfl rfl ?_
            refine z_iload_n 95 C0 1 dX7_end_94 rfl rfl rfl ?_
            refine z_aload_n 96 C0 0 dX7_end_95 rfl rfl rfl ?_
            refine z_get 99 C0 0 19 wz_7 rfl (by decide) (zTs_in wk_467) dX7_end_96 rfl rfl rfl ?_
            refine z_iastN 100 C0 11 [(y, zo 7 [.int (nI sz), .ref yrk, .ref yrv, .int (nI rn), .ref yop, .ref ynu, .ref yle, .ref yk, .ref yv, .ref ysp, .int (nI prs), .ref yxk, .ref yxv, .int (nI rs), .int err, .ref yto, .ref yst, .ref ylo, .int (nI stp2_39), .int res2_39, .int (nI wo2_39)]), (yop, zg E 4 oo), (ra, zi E 64 op), (ynu, zg E 4 nu), (rb, zi E 64 nn), (yk, zi E 620 kf), (yv, zi E 620 vf), (ysp, zi E 620 (zn sp)), (yst, zi E 8 st2_39), (ylo, zi E 4 lo2_39), (yxk, zi E 600 (upd ka ((enK op nn xk xv i).length) (ka i))), (yxv, zi E 600 (upd va ((enK op nn xk xv i).length) res2_39)), (yto, zi E 8 (zn (va_up tx 7 ((tx 7) + stp2_39)))), (yle, zi E 4 (zn ln))] dX7_end_99 rfl rfl (by omega) (by decide) rfl ?_
            refine z_iinc 103 C0 1 [1, 0, 2] [(0, .ref y), (1, .int (nI (((enK op nn xk xv i).length) + 1))), (2, .int (nI i))] (v := (nI (((enK op nn xk xv i).length) + 1))) dX7_end_100 rfl rfl (z_incN _ _) (by decide) rfl ?_
            refine z_eq (L1 := [(0, .ref y), (1, .int (nI ((enK op nn xk xv (i + 1)).length))), (2, .int (nI i))]) (st1 := []) (w1 := [(y, zo 7 [.int (nI sz), .ref yrk, .ref yrv, .int (nI rn), .ref yop, .ref ynu, .ref yle, .ref yk, .ref yv, .ref ysp, .int (nI prs), .ref yxk, .ref yxv, .int (nI rs), .int err, .ref yto, .ref yst, .ref ylo, .int (nI stp2_39), .int res2_39, .int (nI wo2_39)]), (yop, zg E 4 oo), (ra, zi E 64 op), (ynu, zg E 4 nu), (rb, zi E 64 nn), (yk, zi E 620 kf), (yv, zi E 620 vf), (ysp, zi E 620 (zn sp)), (yst, zi E 8 st2_39), (ylo, zi E 4 lo2_39), (yxk, zi E 600 (upd ka ((enK op nn xk xv i).length) (ka i))), (yxv, zi E 600 (upd va ((enK op nn xk xv i).length) res2_39)), (yto, zi E 8 (zn (va_up tx 7 ((tx 7) + stp2_39)))), (yle, zi E 4 (zn ln))]) (by rw [enK_take hone, List.length_append]; rfl) rfl rfl ?_
            refine z_iinc 106 C0 2 [1, 2, 0] [(0, .ref y), (1, .int (nI ((enK op nn xk xv (i + 1)).length))), (2, .int (nI (i + 1)))] (v := (nI (i + 1))) dX7_end_103 rfl rfl (z_incN _ _) (by decide) rfl ?_
            refine z_goto 15 C0 dX7_end_106 (by decide) ?_
            exact ih15 (i + 1) (upd ka ((enK op nn xk xv i).length) (ka i)) (upd va ((enK op nn xk xv i).length) res2_39) st2_39 lo2_39 (va_up tx 7 ((tx 7) + stp2_39)) stp2_39 res2_39 wo2_39 (by omega) (fun x hx => by rcases Nat.lt_or_ge x i with q | q; exact hok x q; rw [show x = i by omega]; exact k42) (en_put hlt hA (hB i (Nat.le_refl i)).1 hone hres) (fun j hj => by have := enK_len op nn xk xv i; rw [en_upd (by omega), en_upd (by omega)]; exact hB j (by omega)) (by rw [htx, hst]; exact z_up_add _ _ _ _) (by omega)
          · skip
            refine z_goto 103 C0 dX7_end_75 (by decide) ?_
            have hone : (enC op nn xk xv i).1 ≠ 1 := (fun q => by have q2 : (callR op nn (xk i) (xv i) (nI 0)).1 = 1 := q; rw [if_neg (by omega)] at hwo; omega)
            refine z_eq (L1 := [(0, .ref y), (1, .int (nI ((enK op nn xk xv (i + 1)).length))), (2, .int (nI i))]) (st1 := []) (w1 := [(y, zo 7 [.int (nI sz), .ref yrk, .ref yrv, .int (nI rn), .ref yop, .ref ynu, .ref yle, .ref yk, .ref yv, .ref ysp, .int (nI prs), .ref yxk, .ref yxv, .int (nI rs), .int err, .ref yto, .ref yst, .ref ylo, .int (nI stp2_39), .int res2_39, .int (nI wo2_39)]), (yop, zg E 4 oo), (ra, zi E 64 op), (ynu, zg E 4 nu), (rb, zi E 64 nn), (yk, zi E 620 kf), (yv, zi E 620 vf), (ysp, zi E 620 (zn sp)), (yst, zi E 8 st2_39), (ylo, zi E 4 lo2_39), (yxk, zi E 600 ka), (yxv, zi E 600 va), (yto, zi E 8 (zn (va_up tx 7 ((tx 7) + stp2_39)))), (yle, zi E 4 (zn ln))]) (by rw [enK_skip hone]) rfl rfl ?_
            refine z_iinc 106 C0 2 [1, 2, 0] [(0, .ref y), (1, .int (nI ((enK op nn xk xv (i + 1)).length))), (2, .int (nI (i + 1)))] (v := (nI (i + 1))) dX7_end_103 rfl rfl (z_incN _ _) (by decide) rfl ?_
            refine z_goto 15 C0 dX7_end_106 (by decide) ?_
            exact ih15 (i + 1) ka va st2_39 lo2_39 (va_up tx 7 ((tx 7) + stp2_39)) stp2_39 res2_39 wo2_39 (by omega) (fun x hx => by rcases Nat.lt_or_ge x i with q | q; exact hok x q; rw [show x = i by omega]; exact k42) (by rw [enK_skip hone]; exact hA) (fun j hj => hB j (by omega)) (by rw [htx, hst]; exact z_up_add _ _ _ _) (by omega)
        · skip
          refine z_aload_n 46 C0 0 dX7_end_45 rfl rfl rfl ?_
          refine z_sipush 49 C0 (v := (nI 3000)) dX7_end_46 rfl rfl ?_
          refine z_put 52 C0 0 14 [(y, zo 7 [.int (nI sz), .ref yrk, .ref yrv, .int (nI rn), .ref yop, .ref ynu, .ref yle, .ref yk, .ref yv, .ref ysp, .int (nI prs), .ref yxk, .ref yxv, .int (nI rs), .int (nI 3000), .ref yto, .ref yst, .ref ylo, .int (nI stp2_39), .int res2_39, .int (nI wo2_39)]), (yop, zg E 4 oo), (ra, zi E 64 op), (ynu, zg E 4 nu), (rb, zi E 64 nn), (yk, zi E 620 kf), (yv, zi E 620 vf), (ysp, zi E 620 (zn sp)), (yst, zi E 8 st2_39), (ylo, zi E 4 lo2_39), (yxk, zi E 600 ka), (yxv, zi E 600 va), (yto, zi E 8 (zn tx)), (yle, zi E 4 (zn ln))] wz_7 rfl (by decide) (zTs_in wk_462) tyX7 tyX7_ok nmX7 rfl rfl rfl rfl dX7_end_49 rfl rfl (Nat.le_of_ble_eq_true rfl) rfl ?_
          refine z_iconst 53 C0 (v := (nI 0)) dX7_end_52 rfl rfl ?_
          exact z_zret C0 rfl rfl dX7_end_53 ⟨rs, ka, va, st2_39, lo2_39, tx, stp2_39, res2_39, wo2_39, (nI 3000), (nI 3000), ⟨(zb_fN (by decide)), rfl⟩, (Or.inl ⟨i, by omega, Classical.byContradiction fun q => k42 q, rfl⟩), (by rw [if_neg (show ¬ nI 3000 = -1 by decide)]), (by omega), (fun q => absurd q (by decide))⟩ (by decide) (by decide)
  exact CUT15 (rs - 0 + 1) 0 xk xv st lo to stp res wo (Nat.zero_le _) (fun x hx => absurd hx (Nat.not_lt_zero x)) (fun j hj => absurd hj (Nat.not_lt_zero j)) (fun j _ => ⟨rfl, rfl⟩) (z_up_self _ _).symm (Nat.lt_succ_self _)
