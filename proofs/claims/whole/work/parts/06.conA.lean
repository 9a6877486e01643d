/-- a row with room for cap: at n comes x, if there is room -/
def capU (cap n : Nat) (f : Nat → Int32) (x : Int32) : Nat → Int32 := if n < cap then upd f n x else f
def capN (cap n : Nat) : Nat := if n < cap then n + 1 else n
theorem capU_t {cap n : Nat} {f : Nat → Int32} {x : Int32} (h : n < cap) : capU cap n f x = upd f n x := if_pos h
theorem capU_f {cap n : Nat} {f : Nat → Int32} {x : Int32} (h : cap ≤ n) : capU cap n f x = f := if_neg (Nat.not_lt.mpr h)
theorem capN_t {cap n : Nat} (h : n < cap) : capN cap n = n + 1 := if_pos h
theorem capN_f {cap n : Nat} (h : cap ≤ n) : capN cap n = n := if_neg (Nat.not_lt.mpr h)
set_option maxHeartbeats 4000000 in
set_option maxRecDepth 100000 in
theorem has_n (l_ : Launch) (E : zE) (p : Nat) (po : Nat) (pn : Nat) (kd : Nat) (len : Nat) (j : Nat) (hj : j < 2147483648) (hlen : len ≤ 64) : zMi l_ E yX5_has (zTs yX5_has cX5_has 2 (some .boolean)) ({ frames := 0, cells := 0, slots := 0, locals := 0 } : Room) [.ref p, .int (nI j)] [(p, zo 5 [.int (nI kd), .ref po, .ref pn, .int (nI len)])] (fun r_ w_ => (r_ = (zb (j < len)) ∧ w_ = [(p, zo 5 [.int (nI kd), .ref po, .ref pn, .int (nI len)])])) 0 0 := by
  refine zMi.of (cc := cX5_has) (nL := 2) (ret := (some .boolean)) (by decide) rfl (Nat.le_of_ble_eq_true rfl) ?_
  intro p_ e_ s_ m_ args_ below_ meth_ c_ A_ C0 hin0
  have C0 : zC E p_ s_ m_ args_ meth_ c_ cX5_has 2 (some .boolean) RX5 (zTs yX5_has cX5_has 2 (some .boolean)) A_ := C0
  refine z_eqL (L1 := [(0, .ref p), (1, .int (nI j))]) rfl ?_
  refine z_iload_n 1 C0 1 dX5_has_0 rfl rfl rfl ?_
  refine z_if_ltN 4 C0 16 (by omega) dX5_has_1 rfl (by decide) ?_
  refine z_iload_n 5 C0 1 dX5_has_4 rfl rfl rfl ?_
  refine z_aload_n 6 C0 0 dX5_has_5 rfl rfl rfl ?_
  refine z_get 9 C0 0 3 wz_5 rfl (by decide) (zTs_in wk_76) dX5_has_6 rfl rfl rfl ?_
  refine z_icmp_geN 12 16 C0 (by omega) (by omega) dX5_has_9 rfl (by decide) (fun k9 => ?_) (fun k9 => ?_)
  · skip
    refine z_iconst 17 C0 (v := (nI 0)) dX5_has_16 rfl rfl ?_
    exact z_zret C0 rfl rfl dX5_has_17 ⟨(zb_fN (by omega)), rfl⟩ (by decide) (by decide)
  · skip
    refine z_iconst 13 C0 (v := (nI 1)) dX5_has_12 rfl rfl ?_
    refine z_goto 17 C0 dX5_has_13 (by decide) ?_
    exact z_zret C0 rfl rfl dX5_has_17 ⟨(zb_tN (by omega)), rfl⟩ (by decide) (by decide)

set_option maxHeartbeats 4000000 in
set_option maxRecDepth 100000 in
theorem has_i (l_ : Launch) (E : zE) (p : Nat) (po : Nat) (pn : Nat) (kd : Nat) (len : Nat) (x : Int32) (hlen : len ≤ 64) : zMi l_ E yX5_has (zTs yX5_has cX5_has 2 (some .boolean)) ({ frames := 0, cells := 0, slots := 0, locals := 0 } : Room) [.ref p, .int x] [(p, zo 5 [.int (nI kd), .ref po, .ref pn, .int (nI len)])] (fun r_ w_ => (r_ = (zb (∃ j, j < len ∧ x = nI j)) ∧ w_ = [(p, zo 5 [.int (nI kd), .ref po, .ref pn, .int (nI len)])])) 0 0 := by
  refine zMi.of (cc := cX5_has) (nL := 2) (ret := (some .boolean)) (by decide) rfl (Nat.le_of_ble_eq_true rfl) ?_
  intro p_ e_ s_ m_ args_ below_ meth_ c_ A_ C0 hin0
  have C0 : zC E p_ s_ m_ args_ meth_ c_ cX5_has 2 (some .boolean) RX5 (zTs yX5_has cX5_has 2 (some .boolean)) A_ := C0
  refine z_eqL (L1 := [(0, .ref p), (1, .int x)]) rfl ?_
  refine z_iload_n 1 C0 1 dX5_has_0 rfl rfl rfl ?_
  refine z_if_lt 4 16 C0 dX5_has_1 rfl (by decide) (fun k1 => ?_) (fun k1 => ?_)
  · skip
    refine z_iconst 17 C0 (v := (nI 0)) dX5_has_16 rfl rfl ?_
    exact z_zret C0 rfl rfl dX5_has_17 ⟨(zb_fN (fun ⟨j, hj, e⟩ => by rw [e] at k1; exact nI_pos (by omega) k1)), rfl⟩ (by decide) (by decide)
  · skip
    obtain ⟨j, hj, rfl⟩ := nI_of k1
    refine z_iload_n 5 C0 1 dX5_has_4 rfl rfl rfl ?_
    refine z_aload_n 6 C0 0 dX5_has_5 rfl rfl rfl ?_
    refine z_get 9 C0 0 3 wz_5 rfl (by decide) (zTs_in wk_76) dX5_has_6 rfl rfl rfl ?_
    refine z_icmp_geN 12 16 C0 (by omega) (by omega) dX5_has_9 rfl (by decide) (fun k9 => ?_) (fun k9 => ?_)
    · skip
      refine z_iconst 17 C0 (v := (nI 0)) dX5_has_16 rfl rfl ?_
      exact z_zret C0 rfl rfl dX5_has_17 ⟨(zb_fN (fun ⟨j2, h1, h2⟩ => by have := (nI_eq (by omega) (by omega)).mp h2; omega)), rfl⟩ (by decide) (by decide)
    · skip
      refine z_iconst 13 C0 (v := (nI 1)) dX5_has_12 rfl rfl ?_
      refine z_goto 17 C0 dX5_has_13 (by decide) ?_
      exact z_zret C0 rfl rfl dX5_has_17 ⟨(zb_tN ⟨j, by omega, rfl⟩), rfl⟩ (by decide) (by decide)

set_option maxHeartbeats 4000000 in
set_option maxRecDepth 100000 in
theorem argCount (l_ : Launch) (E : zE) (p : Nat) (po : Nat) (pn : Nat) (kd : Nat) (len : Nat) (hkd : kd < 4) : zMi l_ E yX5_argumentCount (zTs yX5_argumentCount cX5_argumentCount 1 (some .int)) ({ frames := 0, cells := 0, slots := 0, locals := 0 } : Room) [.ref p] [(p, zo 5 [.int (nI kd), .ref po, .ref pn, .int (nI len)])] (fun r_ w_ => (r_ = (nI (nArg kd)) ∧ w_ = [(p, zo 5 [.int (nI kd), .ref po, .ref pn, .int (nI len)])])) 0 0 := by
  refine zMi.of (cc := cX5_argumentCount) (nL := 1) (ret := (some .int)) (by decide) rfl (Nat.le_of_ble_eq_true rfl) ?_
  intro p_ e_ s_ m_ args_ below_ meth_ c_ A_ C0 hin0
  have C0 : zC E p_ s_ m_ args_ meth_ c_ cX5_argumentCount 1 (some .int) RX5 (zTs yX5_argumentCount cX5_argumentCount 1 (some .int)) A_ := C0
  refine z_eqL (L1 := [(0, .ref p)]) rfl ?_
  refine z_aload_n 1 C0 0 dX5_argumentCount_0 rfl rfl rfl ?_
  refine z_get 4 C0 0 0 wz_5 rfl (by decide) (zTs_in wk_67) dX5_argumentCount_1 rfl rfl rfl ?_
  refine z_iconst 5 C0 (v := (nI 1)) dX5_argumentCount_4 rfl rfl ?_
  refine z_icmp_eqN 8 16 C0 (by omega) (by decide) dX5_argumentCount_5 rfl (by decide) (fun k5 => ?_) (fun k5 => ?_)
  · skip
    refine z_iconst 17 C0 (v := (nI 3)) dX5_argumentCount_16 rfl rfl ?_
    refine z_goto 21 C0 dX5_argumentCount_17 (by decide) ?_
    exact z_iret C0 rfl dX5_argumentCount_21 ⟨(congrArg nI (by unfold nArg; split <;> omega)), rfl⟩ (by decide) (by decide)
  · skip
    refine z_aload_n 9 C0 0 dX5_argumentCount_8 rfl rfl rfl ?_
    refine z_get 12 C0 0 0 wz_5 rfl (by decide) (zTs_in wk_67) dX5_argumentCount_9 rfl rfl rfl ?_
    refine z_iconst 13 C0 (v := (nI 2)) dX5_argumentCount_12 rfl rfl ?_
    refine z_icmp_neN 16 20 C0 (by omega) (by decide) dX5_argumentCount_13 rfl (by decide) (fun k13 => ?_) (fun k13 => ?_)
    · skip
      refine z_iconst 21 C0 (v := (nI 2)) dX5_argumentCount_20 rfl rfl ?_
      exact z_iret C0 rfl dX5_argumentCount_21 ⟨(congrArg nI (by unfold nArg; split <;> omega)), rfl⟩ (by decide) (by decide)
    · skip
      refine z_iconst 17 C0 (v := (nI 3)) dX5_argumentCount_16 rfl rfl ?_
      refine z_goto 21 C0 dX5_argumentCount_17 (by decide) ?_
      exact z_iret C0 rfl dX5_argumentCount_21 ⟨(congrArg nI (by unfold nArg; split <;> omega)), rfl⟩ (by decide) (by decide)

set_option maxHeartbeats 4000000 in
set_option maxRecDepth 100000 in
theorem pappend_full (l_ : Launch) (E : zE) (p : Nat) (po : Nat) (pn : Nat) (kd : Nat) (op : Nat → Int32) (nn : Nat → Int32) (len : Nat) (o : Int32) (n : Int32) (hlen : len = 64) : zMi l_ E yX5_append (zTs yX5_append cX5_append 3 (some .int)) ({ frames := 0, cells := 0, slots := 0, locals := 0 } : Room) [.ref p, .int o, .int n] [(p, zo 5 [.int (nI kd), .ref po, .ref pn, .int (nI len)]), (po, zi E 64 op), (pn, zi E 64 nn)] (fun r_ w_ => (r_ = (-3) ∧ w_ = [(p, zo 5 [.int (nI kd), .ref po, .ref pn, .int (nI len)]), (po, zi E 64 op), (pn, zi E 64 nn)])) 0 0 := by
  refine zMi.of (cc := cX5_append) (nL := 3) (ret := (some .int)) (by decide) rfl (Nat.le_of_ble_eq_true rfl) ?_
  intro p_ e_ s_ m_ args_ below_ meth_ c_ A_ C0 hin0
  have C0 : zC E p_ s_ m_ args_ meth_ c_ cX5_append 3 (some .int) RX5 (zTs yX5_append cX5_append 3 (some .int)) A_ := C0
  refine z_eqL (L1 := [(0, .ref p), (1, .int o), (2, .int n)]) rfl ?_
  refine z_aload_n 1 C0 0 dX5_append_0 rfl rfl rfl ?_
  refine z_get 4 C0 0 3 wz_5 rfl (by decide) (zTs_in wk_76) dX5_append_1 rfl rfl rfl ?_
  refine z_bipush 6 C0 (v := (nI 64)) dX5_append_4 rfl rfl ?_
  refine z_icmp_ltN 9 12 C0 (by omega) (by decide) dX5_append_6 rfl (by decide) (fun k6 => absurd k6 (by omega)) (fun k6 => ?_)
  refine z_bipush 11 C0 (v := (-3)) dX5_append_9 rfl (by decide) ?_
  exact z_iret C0 rfl dX5_append_11 ⟨rfl, rfl⟩ (by decide) (by decide)

set_option maxHeartbeats 4000000 in
set_option maxRecDepth 100000 in
theorem pappend_ok (l_ : Launch) (E : zE) (p : Nat) (po : Nat) (pn : Nat) (kd : Nat) (op : Nat → Int32) (nn : Nat → Int32) (len : Nat) (o : Int32) (n : Int32) (hlen : len < 64) : zMi l_ E yX5_append (zTs yX5_append cX5_append 3 (some .int)) ({ frames := 0, cells := 0, slots := 0, locals := 0 } : Room) [.ref p, .int o, .int n] [(p, zo 5 [.int (nI kd), .ref po, .ref pn, .int (nI len)]), (po, zi E 64 op), (pn, zi E 64 nn)] (fun r_ w_ => (r_ = (nI len) ∧ w_ = [(p, zo 5 [.int (nI kd), .ref po, .ref pn, .int (nI (len + 1))]), (po, zi E 64 (upd op len o)), (pn, zi E 64 (upd nn len n))])) 0 0 := by
  refine zMi.of (cc := cX5_append) (nL := 3) (ret := (some .int)) (by decide) rfl (Nat.le_of_ble_eq_true rfl) ?_
  intro p_ e_ s_ m_ args_ below_ meth_ c_ A_ C0 hin0
  have C0 : zC E p_ s_ m_ args_ meth_ c_ cX5_append 3 (some .int) RX5 (zTs yX5_append cX5_append 3 (some .int)) A_ := C0
  refine z_eqL (L1 := [(0, .ref p), (1, .int o), (2, .int n)]) rfl ?_
  refine z_aload_n 1 C0 0 dX5_append_0 rfl rfl rfl ?_
  refine z_get 4 C0 0 3 wz_5 rfl (by decide) (zTs_in wk_76) dX5_append_1 rfl rfl rfl ?_
  refine z_bipush 6 C0 (v := (nI 64)) dX5_append_4 rfl rfl ?_
  refine z_icmp_ltN 9 12 C0 (by omega) (by decide) dX5_append_6 rfl (by decide) (fun k6 => ?_) (fun k6 => absurd k6 (by omega))
  refine z_aload_n 13 C0 0 dX5_append_12 rfl rfl rfl ?_
  refine z_get 16 C0 0 1 wz_5 rfl (by decide) (zTs_in wk_70) dX5_append_13 rfl rfl rfl ?_
  refine z_aload_n 17 C0 0 dX5_append_16 rfl rfl rfl ?_
  refine z_get 20 C0 0 3 wz_5 rfl (by decide) (zTs_in wk_76) dX5_append_17 rfl rfl rfl ?_
  refine z_iload_n 21 C0 1 dX5_append_20 rfl rfl rfl ?_
  refine z_iastN 22 C0 1 [(p, zo 5 [.int (nI kd), .ref po, .ref pn, .int (nI len)]), (po, zi E 64 (upd op len o)), (pn, zi E 64 nn)] dX5_append_21 rfl rfl (by omega) (by decide) rfl ?_
  refine z_aload_n 23 C0 0 dX5_append_22 rfl rfl rfl ?_
  refine z_get 26 C0 0 2 wz_5 rfl (by decide) (zTs_in wk_73) dX5_append_23 rfl rfl rfl ?_
  refine z_aload_n 27 C0 0 dX5_append_26 rfl rfl rfl ?_
  refine z_get 30 C0 0 3 wz_5 rfl (by decide) (zTs_in wk_76) dX5_append_27 rfl rfl rfl ?_
  refine z_iload_n 31 C0 2 dX5_append_30 rfl rfl rfl ?_
  refine z_iastN 32 C0 2 [(p, zo 5 [.int (nI kd), .ref po, .ref pn, .int (nI len)]), (po, zi E 64 (upd op len o)), (pn, zi E 64 (upd nn len n))] dX5_append_31 rfl rfl (by omega) (by decide) rfl ?_
  refine z_aload_n 33 C0 0 dX5_append_32 rfl rfl rfl ?_
  refine z_dup 34 C0 dX5_append_33 rfl rfl ?_
  refine z_get 37 C0 0 3 wz_5 rfl (by decide) (zTs_in wk_76) dX5_append_34 rfl rfl rfl ?_
  refine z_iconst 38 C0 (v := (nI 1)) dX5_append_37 rfl rfl ?_
  refine z_iadd 39 C0 (v := (nI (len + 1))) dX5_append_38 rfl (nI_add _ _) ?_
  refine z_put 42 C0 0 3 [(p, zo 5 [.int (nI kd), .ref po, .ref pn, .int (nI (len + 1))]), (po, zi E 64 (upd op len o)), (pn, zi E 64 (upd nn len n))] wz_5 rfl (by decide) (zTs_in wk_76) tyX5 tyX5_ok nmX5 rfl rfl rfl rfl dX5_append_39 rfl rfl (Nat.le_of_ble_eq_true rfl) rfl ?_
  refine z_aload_n 43 C0 0 dX5_append_42 rfl rfl rfl ?_
  refine z_get 46 C0 0 3 wz_5 rfl (by decide) (zTs_in wk_76) dX5_append_43 rfl rfl rfl ?_
  refine z_iconst 47 C0 (v := (nI 1)) dX5_append_46 rfl rfl ?_
  refine z_isub 48 C0 (v := (nI len)) dX5_append_47 rfl (z_subN (by omega)) ?_
  exact z_iret C0 rfl dX5_append_48 ⟨rfl, rfl⟩ (by decide) (by decide)

set_option maxHeartbeats 4000000 in
set_option maxRecDepth 100000 in
theorem isJump (l_ : Launch) (E : zE) (o : Nat) (ho : o < 2147483648) : zMi l_ E yX6_isJump (zTs yX6_isJump cX6_isJump 1 (some .boolean)) ({ frames := 0, cells := 0, slots := 0, locals := 0 } : Room) [.int (nI o)] [] (fun r_ w_ => (r_ = (zb (o = 14 ∨ o = 15)) ∧ w_ = [])) 0 0 := by
  refine zMi.of (cc := cX6_isJump) (nL := 1) (ret := (some .boolean)) (by decide) rfl (Nat.le_of_ble_eq_true rfl) ?_
  intro p_ e_ s_ m_ args_ below_ meth_ c_ A_ C0 hin0
  have C0 : zC E p_ s_ m_ args_ meth_ c_ cX6_isJump 1 (some .boolean) RX6 (zTs yX6_isJump cX6_isJump 1 (some .boolean)) A_ := C0
  refine z_eqL (L1 := [(0, .int (nI o))]) rfl ?_
  refine z_iload_n 1 C0 0 dX6_isJump_0 rfl rfl rfl ?_
  refine z_bipush 3 C0 (v := (nI 14)) dX6_isJump_1 rfl rfl ?_
  refine z_icmp_eqN 6 12 C0 (by omega) (by decide) dX6_isJump_3 rfl (by decide) (fun k3 => ?_) (fun k3 => ?_)
  · skip
    refine z_iconst 13 C0 (v := (nI 1)) dX6_isJump_12 rfl rfl ?_
    refine z_goto 17 C0 dX6_isJump_13 (by decide) ?_
    exact z_zret C0 rfl rfl dX6_isJump_17 ⟨(zb_tN (by omega)), rfl⟩ (by decide) (by decide)
  · skip
    refine z_iload_n 7 C0 0 dX6_isJump_6 rfl rfl rfl ?_
    refine z_bipush 9 C0 (v := (nI 15)) dX6_isJump_7 rfl rfl ?_
    refine z_icmp_neN 12 16 C0 (by omega) (by decide) dX6_isJump_9 rfl (by decide) (fun k9 => ?_) (fun k9 => ?_)
    · skip
      refine z_iconst 17 C0 (v := (nI 0)) dX6_isJump_16 rfl rfl ?_
      exact z_zret C0 rfl rfl dX6_isJump_17 ⟨(zb_fN (by omega)), rfl⟩ (by decide) (by decide)
    · skip
      refine z_iconst 13 C0 (v := (nI 1)) dX6_isJump_12 rfl rfl ?_
      refine z_goto 17 C0 dX6_isJump_13 (by decide) ?_
      exact z_zret C0 rfl rfl dX6_isJump_17 ⟨(zb_tN (by omega)), rfl⟩ (by decide) (by decide)

set_option maxHeartbeats 4000000 in
set_option maxRecDepth 100000 in
theorem isComb (l_ : Launch) (E : zE) (o : Nat) (ho : o < 2147483648) : zMi l_ E yX6_isCombination (zTs yX6_isCombination cX6_isCombination 1 (some .boolean)) ({ frames := 0, cells := 0, slots := 0, locals := 0 } : Room) [.int (nI o)] [] (fun r_ w_ => (r_ = (zb (7 ≤ o ∧ o ≤ 13)) ∧ w_ = [])) 0 0 := by
  refine zMi.of (cc := cX6_isCombination) (nL := 1) (ret := (some .boolean)) (by decide) rfl (Nat.le_of_ble_eq_true rfl) ?_
  intro p_ e_ s_ m_ args_ below_ meth_ c_ A_ C0 hin0
  have C0 : zC E p_ s_ m_ args_ meth_ c_ cX6_isCombination 1 (some .boolean) RX6 (zTs yX6_isCombination cX6_isCombination 1 (some .boolean)) A_ := C0
  refine z_eqL (L1 := [(0, .int (nI o))]) rfl ?_
  refine z_iload_n 1 C0 0 dX6_isCombination_0 rfl rfl rfl ?_
  refine z_bipush 3 C0 (v := (nI 7)) dX6_isCombination_1 rfl rfl ?_
  refine z_icmp_ltN 6 16 C0 (by omega) (by decide) dX6_isCombination_3 rfl (by decide) (fun k3 => ?_) (fun k3 => ?_)
  · skip
    refine z_iconst 17 C0 (v := (nI 0)) dX6_isCombination_16 rfl rfl ?_
    exact z_zret C0 rfl rfl dX6_isCombination_17 ⟨(zb_fN (by omega)), rfl⟩ (by decide) (by decide)
  · skip
    refine z_iload_n 7 C0 0 dX6_isCombination_6 rfl rfl rfl ?_
    refine z_bipush 9 C0 (v := (nI 13)) dX6_isCombination_7 rfl rfl ?_
    refine z_icmp_gtN 12 16 C0 (by omega) (by decide) dX6_isCombination_9 rfl (by decide) (fun k9 => ?_) (fun k9 => ?_)
    · skip
      refine z_iconst 17 C0 (v := (nI 0)) dX6_isCombination_16 rfl rfl ?_
      exact z_zret C0 rfl rfl dX6_isCombination_17 ⟨(zb_fN (by omega)), rfl⟩ (by decide) (by decide)
    · skip
      refine z_iconst 13 C0 (v := (nI 1)) dX6_isCombination_12 rfl rfl ?_
      refine z_goto 17 C0 dX6_isCombination_13 (by decide) ?_
      exact z_zret C0 rfl rfl dX6_isCombination_17 ⟨(zb_tN (by omega)), rfl⟩ (by decide) (by decide)

set_option maxHeartbeats 4000000 in
set_option maxRecDepth 100000 in
theorem rappend (l_ : Launch) (E : zE) (r : Nat) (rk : Nat) (rv : Nat) (f : Nat → Int32) (g : Nat → Int32) (n : Nat) (cap : Nat) (x : Int32) (y : Int32) (hn : n ≤ cap) (hcap : cap ≤ 600) : zMi l_ E yX4_append (zTs yX4_append cX4_append 3 (some .boolean)) ({ frames := 0, cells := 0, slots := 0, locals := 0 } : Room) [.ref r, .int x, .int y] [(r, zo 4 [.ref rk, .ref rv, .int (nI n)]), (rk, zi E cap f), (rv, zi E cap g)] (fun r_ w_ => (r_ = (zb (n < cap)) ∧ w_ = [(r, zo 4 [.ref rk, .ref rv, .int (nI (capN cap n))]), (rk, zi E cap (capU cap n f x)), (rv, zi E cap (capU cap n g y))])) 0 0 := by
  refine zMi.of (cc := cX4_append) (nL := 3) (ret := (some .boolean)) (by decide) rfl (Nat.le_of_ble_eq_true rfl) ?_
  intro p_ e_ s_ m_ args_ below_ meth_ c_ A_ C0 hin0
  have C0 : zC E p_ s_ m_ args_ meth_ c_ cX4_append 3 (some .boolean) RX4 (zTs yX4_append cX4_append 3 (some .boolean)) A_ := C0
  refine z_eqL (L1 := [(0, .ref r), (1, .int x), (2, .int y)]) rfl ?_
  refine z_aload_n 1 C0 0 dX4_append_0 rfl rfl rfl ?_
  refine z_get 4 C0 0 2 wz_4 rfl (by decide) (zTs_in wk_48) dX4_append_1 rfl rfl rfl ?_
  refine z_aload_n 5 C0 0 dX4_append_4 rfl rfl rfl ?_
  refine z_get 8 C0 0 0 wz_4 rfl (by decide) (zTs_in wk_44) dX4_append_5 rfl rfl rfl ?_
  refine z_alen 9 C0 1 dX4_append_8 rfl rfl ?_
  refine z_icmp_ltN 12 14 C0 (by omega) (by omega) dX4_append_9 rfl (by decide) (fun k9 => ?_) (fun k9 => ?_)
  · skip
    refine z_aload_n 15 C0 0 dX4_append_14 rfl rfl rfl ?_
    refine z_get 18 C0 0 0 wz_4 rfl (by decide) (zTs_in wk_44) dX4_append_15 rfl rfl rfl ?_
    refine z_aload_n 19 C0 0 dX4_append_18 rfl rfl rfl ?_
    refine z_get 22 C0 0 2 wz_4 rfl (by decide) (zTs_in wk_48) dX4_append_19 rfl rfl rfl ?_
    refine z_iload_n 23 C0 1 dX4_append_22 rfl rfl rfl ?_
    refine z_iastN 24 C0 1 [(r, zo 4 [.ref rk, .ref rv, .int (nI n)]), (rk, zi E cap (upd f n x)), (rv, zi E cap g)] dX4_append_23 rfl rfl (by omega) (by omega) rfl ?_
    refine z_aload_n 25 C0 0 dX4_append_24 rfl rfl rfl ?_
    refine z_get 28 C0 0 1 wz_4 rfl (by decide) (zTs_in wk_46) dX4_append_25 rfl rfl rfl ?_
    refine z_aload_n 29 C0 0 dX4_append_28 rfl rfl rfl ?_
    refine z_get 32 C0 0 2 wz_4 rfl (by decide) (zTs_in wk_48) dX4_append_29 rfl rfl rfl ?_
    refine z_iload_n 33 C0 2 dX4_append_32 rfl rfl rfl ?_
    refine z_iastN 34 C0 2 [(r, zo 4 [.ref rk, .ref rv, .int (nI n)]), (rk, zi E cap (upd f n x)), (rv, zi E cap (upd g n y))] dX4_append_33 rfl rfl (by omega) (by omega) rfl ?_
    refine z_aload_n 35 C0 0 dX4_append_34 rfl rfl rfl ?_
    refine z_dup 36 C0 dX4_append_35 rfl rfl ?_
    refine z_get 39 C0 0 2 wz_4 rfl (by decide) (zTs_in wk_48) dX4_append_36 rfl rfl rfl ?_
    refine z_iconst 40 C0 (v := (nI 1)) dX4_append_39 rfl rfl ?_
    refine z_iadd 41 C0 (v := (nI (n + 1))) dX4_append_40 rfl (nI_add _ _) ?_
    refine z_put 44 C0 0 2 [(r, zo 4 [.ref rk, .ref rv, .int (nI (n + 1))]), (rk, zi E cap (upd f n x)), (rv, zi E cap (upd g n y))] wz_4 rfl (by decide) (zTs_in wk_48) tyX4 tyX4_ok nmX4 rfl rfl rfl rfl dX4_append_41 rfl rfl (Nat.le_of_ble_eq_true rfl) rfl ?_
    refine z_iconst 45 C0 (v := (nI 1)) dX4_append_44 rfl rfl ?_
    exact z_zret C0 rfl rfl dX4_append_45 ⟨(zb_tN (by omega)), (by rw [capU_t k9, capU_t k9, capN_t k9])⟩ (by decide) (by decide)
  · skip
    refine z_iconst 13 C0 (v := (nI 0)) dX4_append_12 rfl rfl ?_
    exact z_zret C0 rfl rfl dX4_append_13 ⟨(zb_fN (by omega)), (by rw [capU_f k9, capU_f k9, capN_f k9])⟩ (by decide) (by decide)
