def capR (cap n : Nat) : Int32 := if n < cap then nI n else -3
theorem capR_t {cap n : Nat} (h : n < cap) : capR cap n = nI n := if_pos h
theorem capR_f {cap n : Nat} (h : cap ≤ n) : capR cap n = -3 := if_neg (Nat.not_lt.mpr h)
/-- what check tells -/
def chkR (kd : Nat) (op nn : Nat → Int32) (len : Nat) (r : Int32) : Prop := (len = 0 ∧ r = nI 64) ∨ (0 < len ∧ fwR kd op nn len r)
theorem chk_good {kd : Nat} {op nn : Nat → Int32} {len : Nat} {r : Int32} (h : chkR kd op nn len r) (hlen : len ≤ 64) : r = -2 ↔ Good kd op nn len := by
  rcases h with ⟨h0, h1⟩ | ⟨h0, ⟨i, h1, h2, h3, h4⟩ | ⟨h1, h2⟩⟩
  · refine ⟨fun q => ?_, fun q => ?_⟩
    · rw [h1] at q; exact absurd q (by decide)
    · have := q.1; omega
  · refine ⟨fun q => ?_, fun q => absurd h2 (q.2 i h1)⟩
    rw [h4] at q
    have e := nI_toInt (n := i) (by omega)
    rw [q] at e
    have e2 : (-2 : Int32).toInt = -2 := by decide
    omega
  · exact ⟨fun _ => ⟨h0, h1⟩, fun _ => h2⟩
theorem chk_empty {kd : Nat} {op nn : Nat → Int32} {len : Nat} {r : Int32} (h : chkR kd op nn len r) (hlen : len ≤ 64) : r = nI 64 ↔ len = 0 := by
  rcases h with ⟨h0, h1⟩ | ⟨h0, ⟨i, h1, h2, h3, h4⟩ | ⟨h1, h2⟩⟩
  · exact ⟨fun _ => h0, fun _ => h1⟩
  · refine ⟨fun q => ?_, fun q => by omega⟩
    rw [h4] at q
    have := (nI_eq (by omega) (by decide)).mp q
    omega
  · refine ⟨fun q => ?_, fun q => by omega⟩
    rw [h2] at q; exact absurd q (by decide)
/-- a contract with a weaker end -/
theorem Met.postI {l : Launch} {y : MethodName} {ws : List Cond} {rm : Room} {Pc : Array Value → State → Prop} {B B2 : Int32 → va_W → Prop} {T : va_W → State → Prop} {A : Nat → Prop} {mc ms : Nat} {free : Addr → Prop} (h : Met l y ws rm Pc (va_Qi B T A) mc ms free) (hB : ∀ r w, B r w → B2 r w) : Met l y ws rm Pc (va_Qi B2 T A) mc ms free := by
  intro p e ha hc hk s m args below hf happ hp hk2
  obtain ⟨k, o, h1, h2, h3, ⟨⟨r, w, ho, hb, ht⟩, hF⟩, hL⟩ := h p e ha hc hk s m args below hf happ hp hk2
  exact ⟨k, o, h1, h2, h3, ⟨⟨r, w, ho, hB r w hb, ht⟩, hF⟩, hL⟩
set_option maxHeartbeats 4000000 in
set_option maxRecDepth 100000 in
theorem isProg_n (l_ : Launch) (E : zE) (j : Nat) (hj : j < 2147483648) : zMi l_ E yX6_isProgram (zTs yX6_isProgram cX6_isProgram 1 (some .boolean)) ({ frames := 0, cells := 0, slots := 0, locals := 0 } : Room) [.int (nI j)] [] (fun r_ w_ => (r_ = (zb (j < 4)) ∧ w_ = [])) 0 0 := by
  refine zMi.of (cc := cX6_isProgram) (nL := 1) (ret := (some .boolean)) (by decide) rfl (Nat.le_of_ble_eq_true rfl) ?_
  intro p_ e_ s_ m_ args_ below_ meth_ c_ A_ C0 hin0
  have C0 : zC E p_ s_ m_ args_ meth_ c_ cX6_isProgram 1 (some .boolean) RX6 (zTs yX6_isProgram cX6_isProgram 1 (some .boolean)) A_ := C0
  refine z_eqL (L1 := [(0, .int (nI j))]) rfl ?_
  refine z_iload_n 1 C0 0 dX6_isProgram_0 rfl rfl rfl ?_
  refine z_if_ltN 4 C0 13 (by omega) dX6_isProgram_1 rfl (by decide) ?_
  refine z_iload_n 5 C0 0 dX6_isProgram_4 rfl rfl rfl ?_
  refine z_iconst 6 C0 (v := (nI 4)) dX6_isProgram_5 rfl rfl ?_
  refine z_icmp_geN 9 13 C0 (by omega) (by decide) dX6_isProgram_6 rfl (by decide) (fun k6 => ?_) (fun k6 => ?_)
  · skip
    refine z_iconst 14 C0 (v := (nI 0)) dX6_isProgram_13 rfl rfl ?_
    exact z_zret C0 rfl rfl dX6_isProgram_14 ⟨(zb_fN (by omega)), rfl⟩ (by decide) (by decide)
  · skip
    refine z_iconst 10 C0 (v := (nI 1)) dX6_isProgram_9 rfl rfl ?_
    refine z_goto 14 C0 dX6_isProgram_10 (by decide) ?_
    exact z_zret C0 rfl rfl dX6_isProgram_14 ⟨(zb_tN (by omega)), rfl⟩ (by decide) (by decide)

set_option maxHeartbeats 4000000 in
set_option maxRecDepth 100000 in
theorem isProg_i (l_ : Launch) (E : zE) (z : Int32)  : zMi l_ E yX6_isProgram (zTs yX6_isProgram cX6_isProgram 1 (some .boolean)) ({ frames := 0, cells := 0, slots := 0, locals := 0 } : Room) [.int z] [] (fun r_ w_ => (r_ = (zb (∃ k, k < 4 ∧ z = nI k)) ∧ w_ = [])) 0 0 := by
  refine zMi.of (cc := cX6_isProgram) (nL := 1) (ret := (some .boolean)) (by decide) rfl (Nat.le_of_ble_eq_true rfl) ?_
  intro p_ e_ s_ m_ args_ below_ meth_ c_ A_ C0 hin0
  have C0 : zC E p_ s_ m_ args_ meth_ c_ cX6_isProgram 1 (some .boolean) RX6 (zTs yX6_isProgram cX6_isProgram 1 (some .boolean)) A_ := C0
  refine z_eqL (L1 := [(0, .int z)]) rfl ?_
  refine z_iload_n 1 C0 0 dX6_isProgram_0 rfl rfl rfl ?_
  refine z_if_lt 4 13 C0 dX6_isProgram_1 rfl (by decide) (fun k1 => ?_) (fun k1 => ?_)
  · skip
    refine z_iconst 14 C0 (v := (nI 0)) dX6_isProgram_13 rfl rfl ?_
    exact z_zret C0 rfl rfl dX6_isProgram_14 ⟨(zb_fN (fun ⟨k, h1, h2⟩ => by first | (rw [h2] at k1; exact nI_pos (by omega) k1) | (rw [h2] at k6; exact nI_ge h1 (by decide) k6))), rfl⟩ (by decide) (by decide)
  · skip
    refine z_iload_n 5 C0 0 dX6_isProgram_4 rfl rfl rfl ?_
    refine z_iconst 6 C0 (v := (nI 4)) dX6_isProgram_5 rfl rfl ?_
    refine z_icmp_ge 9 13 C0 dX6_isProgram_6 rfl (by decide) (fun k6 => ?_) (fun k6 => ?_)
    · skip
      refine z_iconst 14 C0 (v := (nI 0)) dX6_isProgram_13 rfl rfl ?_
      exact z_zret C0 rfl rfl dX6_isProgram_14 ⟨(zb_fN (fun ⟨k, h1, h2⟩ => by first | (rw [h2] at k1; exact nI_pos (by omega) k1) | (rw [h2] at k6; exact nI_ge h1 (by decide) k6))), rfl⟩ (by decide) (by decide)
    · skip
      refine z_iconst 10 C0 (v := (nI 1)) dX6_isProgram_9 rfl rfl ?_
      refine z_goto 14 C0 dX6_isProgram_10 (by decide) ?_
      exact z_zret C0 rfl rfl dX6_isProgram_14 ⟨(zb_tN (nI_ltx (by decide) k1 (i32_lt_of_nle k6))), rfl⟩ (by decide) (by decide)

set_option maxHeartbeats 4000000 in
set_option maxRecDepth 100000 in
theorem pappend (l_ : Launch) (E : zE) (p : Nat) (po : Nat) (pn : Nat) (kd : Nat) (op : Nat → Int32) (nn : Nat → Int32) (len : Nat) (o : Int32) (n : Int32) (hlen : len ≤ 64) : zMi l_ E yX5_append (zTs yX5_append cX5_append 3 (some .int)) ({ frames := 0, cells := 0, slots := 0, locals := 0 } : Room) [.ref p, .int o, .int n] [(p, zo 5 [.int (nI kd), .ref po, .ref pn, .int (nI len)]), (po, zi E 64 op), (pn, zi E 64 nn)] (fun r_ w_ => (r_ = (capR 64 len) ∧ w_ = [(p, zo 5 [.int (nI kd), .ref po, .ref pn, .int (nI (capN 64 len))]), (po, zi E 64 (capU 64 len op o)), (pn, zi E 64 (capU 64 len nn n))])) 0 0 := by
  refine zMi.of (cc := cX5_append) (nL := 3) (ret := (some .int)) (by decide) rfl (Nat.le_of_ble_eq_true rfl) ?_
  intro p_ e_ s_ m_ args_ below_ meth_ c_ A_ C0 hin0
  have C0 : zC E p_ s_ m_ args_ meth_ c_ cX5_append 3 (some .int) RX5 (zTs yX5_append cX5_append 3 (some .int)) A_ := C0
  refine z_eqL (L1 := [(0, .ref p), (1, .int o), (2, .int n)]) rfl ?_
  refine z_aload_n 1 C0 0 dX5_append_0 rfl rfl rfl ?_
  refine z_get 4 C0 0 3 wz_5 rfl (by decide) (zTs_in wk_76) dX5_append_1 rfl rfl rfl ?_
  refine z_bipush 6 C0 (v := (nI 64)) dX5_append_4 rfl rfl ?_
  refine z_icmp_ltN 9 12 C0 (by omega) (by decide) dX5_append_6 rfl (by decide) (fun k6 => ?_) (fun k6 => ?_)
  · skip
    refine z_aload_n 13 C0 0 dX5_append_12 rfl rfl rfl ?_
    refine z_get 16 C0 0 1 wz_5 rfl (by decide) (zTs_in wk_70) dX5_append_13 rfl rfl rfl ?_
    refine z_aload_n 17 C0 0 dX5_append_16 rfl rfl rfl ?_
    refine z_get 20 C0 0 3 wz_5 rfl (by decide) (zTs_in wk_76) dX5_append_17 rfl rfl rfl ?_
    refine z_iload_n 21 C0 1 dX5_append_20 rfl rfl rfl ?_
    refine z_iastN 22 C0 1 [(p, zo 5 [.int (nI kd), .ref po, .ref pn, .int (nI len)]), (po, zi E 64 (upd op len o)), (pn, zi E 64 nn)] dX5_append_21 rfl rfl (by omega) (by decide) rfl ?_
    refine z_aload_n 23 C0 0 dX5_append_22 rfl rfl rfl ?_
    refine z_get 26 C0 0 2 wz_5 rfl (by decide) (zTs_in wk_73) dX5_append_23 rfl rfl rfl ?_
    refine z_aload_n 27 C0 0 dX5_append_26 rfl rfl rfl ?_
    refine z_get 30 C0 0 3 wz_5 rfl (by decide) (zTs_in wk_76) dX5_append_27 rfl rfl rfl ?_
    refine z_iload_n 31 C0 2 dX5_append_30 rfl rfl rfl ?_
    refine z_iastN 32 C0 2 [(p, zo 5 [.int (nI kd), .ref po, .ref pn, .int (nI len)]), (po, zi E 64 (upd op len o)), (pn, zi E 64 (upd nn len n))] dX5_append_31 rfl rfl (by omega) (by decide) rfl ?_
    refine z_aload_n 33 C0 0 dX5_append_32 rfl rfl rfl ?_
    refine z_dup 34 C0 dX5_append_33 rfl rfl ?_
    refine z_get 37 C0 0 3 wz_5 rfl (by decide) (zTs_in wk_76) dX5_append_34 rfl rfl rfl ?_
    refine z_iconst 38 C0 (v := (nI 1)) dX5_append_37 rfl rfl ?_
    refine z_iadd 39 C0 (v := (nI (len + 1))) dX5_append_38 rfl (nI_add _ _) ?_
    refine z_put 42 C0 0 3 [(p, zo 5 [.int (nI kd), .ref po, .ref pn, .int (nI (len + 1))]), (po, zi E 64 (upd op len o)), (pn, zi E 64 (upd nn len n))] wz_5 rfl (by decide) (zTs_in wk_76) tyX5 tyX5_ok nmX5 rfl rfl rfl rfl dX5_append_39 rfl rfl (Nat.le_of_ble_eq_true rfl) rfl ?_
    refine z_aload_n 43 C0 0 dX5_append_42 rfl rfl rfl ?_
    refine z_get 46 C0 0 3 wz_5 rfl (by decide) (zTs_in wk_76) dX5_append_43 rfl rfl rfl ?_
    refine z_iconst 47 C0 (v := (nI 1)) dX5_append_46 rfl rfl ?_
    refine z_isub 48 C0 (v := (nI len)) dX5_append_47 rfl (z_subN (by omega)) ?_
    exact z_iret C0 rfl dX5_append_48 ⟨(capR_t k6).symm, (by rw [capU_t k6, capU_t k6, capN_t k6])⟩ (by decide) (by decide)
  · skip
    refine z_bipush 11 C0 (v := (-3)) dX5_append_9 rfl (by decide) ?_
    exact z_iret C0 rfl dX5_append_11 ⟨(capR_f k6).symm, (by rw [capU_f k6, capU_f k6, capN_f k6])⟩ (by decide) (by decide)

set_option maxHeartbeats 4000000 in
set_option maxRecDepth 100000 in
theorem record (l_ : Launch) (E : zE) (x : Nat) (rr : Nat) (pa : Nat) (ck : Nat) (jb : Nat) (sz : Nat) (rr : Nat) (rrk : Nat) (rrv : Nat) (rf : Nat → Int32) (rg : Nat → Int32) (rn : Nat) (a : Int32) (b : Int32) (hrn : rn ≤ 120) : zMi l_ E yX6_record (zTs yX6_record cX6_record 3 (some .int)) ({ frames := 1, cells := 0, slots := 0, locals := 22 } : Room) [.ref x, .int a, .int b] [(x, zo 6 [.int (nI sz), .ref rr, .ref pa, .ref ck, .ref jb]), (rr, zo 4 [.ref rrk, .ref rrv, .int (nI rn)]), (rrk, zi E 120 rf), (rrv, zi E 120 rg)] (fun r_ w_ => (r_ = (capR 120 rn) ∧ w_ = [(x, zo 6 [.int (nI sz), .ref rr, .ref pa, .ref ck, .ref jb]), (rr, zo 4 [.ref rrk, .ref rrv, .int (nI (capN 120 rn))]), (rrk, zi E 120 (capU 120 rn rf a)), (rrv, zi E 120 (capU 120 rn rg b))])) 0 0 := by
  refine zMi.of (cc := cX6_record) (nL := 3) (ret := (some .int)) (by decide) rfl (Nat.le_of_ble_eq_true rfl) ?_
  intro p_ e_ s_ m_ args_ below_ meth_ c_ A_ C0 hin0
  have C0 : zC E p_ s_ m_ args_ meth_ c_ cX6_record 3 (some .int) RX6 (zTs yX6_record cX6_record 3 (some .int)) A_ := C0
  refine z_eqL (L1 := [(0, .ref x), (1, .int a), (2, .int b)]) rfl ?_
  refine z_aload_n 1 C0 0 dX6_record_0 rfl rfl rfl ?_
  refine z_get 4 C0 0 1 wz_6 rfl (by decide) (zTs_in wk_197) dX6_record_1 rfl rfl rfl ?_
  refine z_iload_n 5 C0 1 dX6_record_4 rfl rfl rfl ?_
  refine z_iload_n 6 C0 2 dX6_record_5 rfl rfl rfl ?_
  refine z_callVi 9 C0 [1, 2, 3] [0] [(x, zo 6 [.int (nI sz), .ref rr, .ref pa, .ref ck, .ref jb])] 0 0 (As := [.int a, .int b]) (T := TX4) (N := 3) (C := RX4) (ci := 4) (n := 2) 0 (rappend l_ E rr rrk rrv rf rg rn 120 a b (by omega) (by decide)) (zGIV (fun _ => zTs_in) wk_219 wk_216 wk_217 wk_218 wk_14) rfl ⟨rfl, by decide, by decide, by decide +kernel⟩ rfl rfl rfl rfl (by decide) rfl rfl (Nat.le_of_ble_eq_true rfl) ⟨by decide, by decide⟩ rfl rfl ⟨by decide, by decide⟩ ⟨by decide, by decide⟩ dX6_record_6 rfl (fun r6 w6 hB6 => ?_)
  obtain ⟨rfl, rfl⟩ := hB6
  refine z_perm [0, 1, 2, 3] [(x, zo 6 [.int (nI sz), .ref rr, .ref pa, .ref ck, .ref jb]), (rr, zo 4 [.ref rrk, .ref rrv, .int (nI (capN 120 rn))]), (rrk, zi E 120 (capU 120 rn rf a)), (rrv, zi E 120 (capU 120 rn rg b))] (by decide) rfl ?_
  refine z_if_eqP 12 24 C0 dX6_record_9 rfl (by decide) (fun k9 => ?_) (fun k9 => ?_)
  · skip
    refine z_bipush 26 C0 (v := (-3)) dX6_record_24 rfl (by decide) ?_
    exact z_iret C0 rfl dX6_record_26 ⟨(capR_f (by omega)).symm, rfl⟩ (by decide) (by decide)
  · skip
    refine z_aload_n 13 C0 0 dX6_record_12 rfl rfl rfl ?_
    refine z_get 16 C0 0 1 wz_6 rfl (by decide) (zTs_in wk_197) dX6_record_13 rfl rfl rfl ?_
    refine z_get 19 C0 1 2 wz_4 rfl (by decide) (zTs_in wk_51) dX6_record_16 rfl rfl rfl ?_
    refine z_iconst 20 C0 (v := (nI 1)) dX6_record_19 rfl rfl ?_
    refine z_isub 21 C0 (v := (nI (capN 120 rn - 1))) dX6_record_20 rfl (z_subN (by rw [capN_t k9]; omega)) ?_
    refine z_goto 26 C0 dX6_record_21 (by decide) ?_
    exact z_iret C0 rfl dX6_record_26 ⟨(by rw [capR_t k9, capN_t k9]; rfl), rfl⟩ (by decide) (by decide)

set_option maxHeartbeats 4000000 in
set_option maxRecDepth 100000 in
theorem wipe (l_ : Launch) (E : zE) (x : Nat) (rr : Nat) (pa : Nat) (ck : Nat) (jb : Nat) (sz : Nat) (rr : Nat) (rrk : Nat) (rrv : Nat) (rn : Nat)  : zMi l_ E yX6_wipe (zTs yX6_wipe cX6_wipe 2 (some .int)) ({ frames := 0, cells := 0, slots := 0, locals := 0 } : Room) [.ref x] [(x, zo 6 [.int (nI sz), .ref rr, .ref pa, .ref ck, .ref jb]), (rr, zo 4 [.ref rrk, .ref rrv, .int (nI rn)])] (fun r_ w_ => (r_ = (nI rn) ∧ w_ = [(x, zo 6 [.int (nI sz), .ref rr, .ref pa, .ref ck, .ref jb]), (rr, zo 4 [.ref rrk, .ref rrv, .int (nI 0)])])) 0 0 := by
  refine zMi.of (cc := cX6_wipe) (nL := 2) (ret := (some .int)) (by decide) rfl (Nat.le_of_ble_eq_true rfl) ?_
  intro p_ e_ s_ m_ args_ below_ meth_ c_ A_ C0 hin0
  have C0 : zC E p_ s_ m_ args_ meth_ c_ cX6_wipe 2 (some .int) RX6 (zTs yX6_wipe cX6_wipe 2 (some .int)) A_ := C0
  refine z_eqL (L1 := [(0, .ref x)]) rfl ?_
  refine z_aload_n 1 C0 0 dX6_wipe_0 rfl rfl rfl ?_
  refine z_get 4 C0 0 1 wz_6 rfl (by decide) (zTs_in wk_197) dX6_wipe_1 rfl rfl rfl ?_
  refine z_get 7 C0 1 2 wz_4 rfl (by decide) (zTs_in wk_51) dX6_wipe_4 rfl rfl rfl ?_
  refine z_istore_n 8 C0 [1, 0] [(0, .ref x), (1, .int (nI rn))] dX6_wipe_7 rfl rfl (by decide) rfl ?_
  refine z_aload_n 9 C0 0 dX6_wipe_8 rfl rfl rfl ?_
  refine z_get 12 C0 0 1 wz_6 rfl (by decide) (zTs_in wk_197) dX6_wipe_9 rfl rfl rfl ?_
  refine z_iconst 13 C0 (v := (nI 0)) dX6_wipe_12 rfl rfl ?_
  refine z_put 16 C0 1 2 [(x, zo 6 [.int (nI sz), .ref rr, .ref pa, .ref ck, .ref jb]), (rr, zo 4 [.ref rrk, .ref rrv, .int (nI 0)])] wz_4 rfl (by decide) (zTs_in wk_51) tyX4 tyX4_ok nmX4 rfl rfl rfl rfl dX6_wipe_13 rfl rfl (Nat.le_of_ble_eq_true rfl) rfl ?_
  refine z_iload_n 17 C0 1 dX6_wipe_16 rfl rfl rfl ?_
  exact z_iret C0 rfl dX6_wipe_17 ⟨rfl, rfl⟩ (by decide) (by decide)

set_option maxHeartbeats 4000000 in
set_option maxRecDepth 100000 in
theorem code_bad (l_ : Launch) (E : zE) (x : Nat) (rr : Nat) (pa : Nat) (ck : Nat) (jb : Nat) (sz : Nat) (z : Int32) (o : Int32) (n : Int32) (hz : ¬ ∃ k, k < 4 ∧ z = nI k) : zMi l_ E yX6_code (zTs yX6_code cX6_code 4 (some .int)) ({ frames := 1, cells := 0, slots := 0, locals := 22 } : Room) [.ref x, .int z, .int o, .int n] [(x, zo 6 [.int (nI sz), .ref rr, .ref pa, .ref ck, .ref jb])] (fun r_ w_ => (r_ = (-1) ∧ w_ = [(x, zo 6 [.int (nI sz), .ref rr, .ref pa, .ref ck, .ref jb])])) 0 0 := by
  refine zMi.of (cc := cX6_code) (nL := 4) (ret := (some .int)) (by decide) rfl (Nat.le_of_ble_eq_true rfl) ?_
  intro p_ e_ s_ m_ args_ below_ meth_ c_ A_ C0 hin0
  have C0 : zC E p_ s_ m_ args_ meth_ c_ cX6_code 4 (some .int) RX6 (zTs yX6_code cX6_code 4 (some .int)) A_ := C0
  refine z_eqL (L1 := [(0, .ref x), (1, .int z), (2, .int o), (3, .int n)]) rfl ?_
  refine z_iload_n 1 C0 1 dX6_code_0 rfl rfl rfl ?_
  refine z_callSi 4 C0 [] [0] [(x, zo 6 [.int (nI sz), .ref rr, .ref pa, .ref ck, .ref jb])] 0 0 (As := [.int z]) (n := 1) (isProg_i l_ E z ) (zGIS (fun _ => zTs_in) wk_230 wk_228 wk_229 wk_12) rfl ⟨by decide, by decide, by decide +kernel⟩ rfl rfl (by decide) rfl rfl (Nat.le_of_ble_eq_true rfl) ⟨by decide, by decide⟩ rfl rfl ⟨by decide, by decide⟩ ⟨by decide, by decide⟩ dX6_code_1 rfl (fun r1 w1 hB1 => ?_)
  obtain ⟨rfl, rfl⟩ := hB1
  refine z_perm [0] [(x, zo 6 [.int (nI sz), .ref rr, .ref pa, .ref ck, .ref jb])] (by decide) rfl ?_
  refine z_if_eqP 7 21 C0 dX6_code_4 rfl (by decide) (fun k4 => ?_) (fun k4 => absurd k4 hz)
  refine z_iconst 22 C0 (v := (-1)) dX6_code_21 rfl (by decide) ?_
  exact z_iret C0 rfl dX6_code_22 ⟨rfl, rfl⟩ (by decide) (by decide)

set_option maxHeartbeats 4000000 in
set_option maxRecDepth 100000 in
theorem code_0 (l_ : Launch) (E : zE) (x : Nat) (rr : Nat) (pa : Nat) (ck : Nat) (jb : Nat) (sz : Nat) (p0 : Nat) (p1 : Nat) (p2 : Nat) (p3 : Nat) (po0 : Nat) (pn0 : Nat) (op0 : Nat → Int32) (nn0 : Nat → Int32) (len0 : Nat) (o : Int32) (n : Int32) (hlen : len0 ≤ 64) : zMi l_ E yX6_code (zTs yX6_code cX6_code 4 (some .int)) ({ frames := 1, cells := 0, slots := 0, locals := 22 } : Room) [.ref x, .int (nI 0), .int o, .int n] [(x, zo 6 [.int (nI sz), .ref rr, .ref pa, .ref ck, .ref jb]), (pa, zp E 4 (pf4 p0 p1 p2 p3)), (p0, zo 5 [.int (nI 0), .ref po0, .ref pn0, .int (nI len0)]), (po0, zi E 64 op0), (pn0, zi E 64 nn0)] (fun r_ w_ => (r_ = (capR 64 len0) ∧ w_ = [(x, zo 6 [.int (nI sz), .ref rr, .ref pa, .ref ck, .ref jb]), (pa, zp E 4 (pf4 p0 p1 p2 p3)), (p0, zo 5 [.int (nI 0), .ref po0, .ref pn0, .int (nI (capN 64 len0))]), (po0, zi E 64 (capU 64 len0 op0 o)), (pn0, zi E 64 (capU 64 len0 nn0 n))])) 0 0 := by
  refine zMi.of (cc := cX6_code) (nL := 4) (ret := (some .int)) (by decide) rfl (Nat.le_of_ble_eq_true rfl) ?_
  intro p_ e_ s_ m_ args_ below_ meth_ c_ A_ C0 hin0
  have C0 : zC E p_ s_ m_ args_ meth_ c_ cX6_code 4 (some .int) RX6 (zTs yX6_code cX6_code 4 (some .int)) A_ := C0
  refine z_eqL (L1 := [(0, .ref x), (1, .int (nI 0)), (2, .int o), (3, .int n)]) rfl ?_
  refine z_iload_n 1 C0 1 dX6_code_0 rfl rfl rfl ?_
  refine z_callSi 4 C0 [] [0, 1, 2, 3, 4] [(x, zo 6 [.int (nI sz), .ref rr, .ref pa, .ref ck, .ref jb]), (pa, zp E 4 (pf4 p0 p1 p2 p3)), (p0, zo 5 [.int (nI 0), .ref po0, .ref pn0, .int (nI len0)]), (po0, zi E 64 op0), (pn0, zi E 64 nn0)] 0 0 (As := [.int (nI 0)]) (n := 1) (isProg_n l_ E 0 (by decide)) (zGIS (fun _ => zTs_in) wk_230 wk_228 wk_229 wk_12) rfl ⟨by decide, by decide, by decide +kernel⟩ rfl rfl (by decide) rfl rfl (Nat.le_of_ble_eq_true rfl) ⟨by decide, by decide⟩ rfl rfl ⟨by decide, by decide⟩ ⟨by decide, by decide⟩ dX6_code_1 rfl (fun r1 w1 hB1 => ?_)
  obtain ⟨rfl, rfl⟩ := hB1
  refine z_perm [0, 1, 2, 3, 4] [(x, zo 6 [.int (nI sz), .ref rr, .ref pa, .ref ck, .ref jb]), (pa, zp E 4 (pf4 p0 p1 p2 p3)), (p0, zo 5 [.int (nI 0), .ref po0, .ref pn0, .int (nI len0)]), (po0, zi E 64 op0), (pn0, zi E 64 nn0)] (by decide) rfl ?_
  refine z_if_eqP 7 21 C0 dX6_code_4 rfl (by decide) (fun k4 => absurd k4 (by omega)) (fun k4 => ?_)
  refine z_aload_n 8 C0 0 dX6_code_7 rfl rfl rfl ?_
  refine z_get 11 C0 0 2 wz_6 rfl (by decide) (zTs_in wk_198) dX6_code_8 rfl rfl rfl ?_
  refine z_iload_n 12 C0 1 dX6_code_11 rfl rfl rfl ?_
  refine z_aald 13 C0 1 1 dX6_code_12 rfl rfl rfl rfl (by omega) (by decide) (v := .ref p0) rfl ?_
  refine z_iload_n 14 C0 2 dX6_code_13 rfl rfl rfl ?_
  refine z_iload_n 15 C0 3 dX6_code_14 rfl rfl rfl ?_
  refine z_callVi 18 C0 [2, 3, 4] [0, 1] [(x, zo 6 [.int (nI sz), .ref rr, .ref pa, .ref ck, .ref jb]), (pa, zp E 4 (pf4 p0 p1 p2 p3))] 0 0 (As := [.int o, .int n]) (T := TX5) (N := 4) (C := RX5) (ci := 5) (n := 2) 0 (pappend l_ E p0 po0 pn0 0 op0 nn0 len0 o n (hlen)) (zGIV (fun _ => zTs_in) wk_234 wk_231 wk_232 wk_233 wk_15) rfl ⟨rfl, by decide, by decide, by decide +kernel⟩ rfl rfl rfl rfl (by decide) rfl rfl (Nat.le_of_ble_eq_true rfl) ⟨by decide, by decide⟩ rfl rfl ⟨by decide, by decide⟩ ⟨by decide, by decide⟩ dX6_code_15 rfl (fun r15 w15 hB15 => ?_)
  obtain ⟨rfl, rfl⟩ := hB15
  refine z_perm [0, 1, 2, 3, 4] [(x, zo 6 [.int (nI sz), .ref rr, .ref pa, .ref ck, .ref jb]), (pa, zp E 4 (pf4 p0 p1 p2 p3)), (p0, zo 5 [.int (nI 0), .ref po0, .ref pn0, .int (nI (capN 64 len0))]), (po0, zi E 64 (capU 64 len0 op0 o)), (pn0, zi E 64 (capU 64 len0 nn0 n))] (by decide) rfl ?_
  refine z_goto 22 C0 dX6_code_18 (by decide) ?_
  exact z_iret C0 rfl dX6_code_22 ⟨rfl, rfl⟩ (by decide) (by decide)

set_option maxHeartbeats 4000000 in
set_option maxRecDepth 100000 in
theorem code_1 (l_ : Launch) (E : zE) (x : Nat) (rr : Nat) (pa : Nat) (ck : Nat) (jb : Nat) (sz : Nat) (p0 : Nat) (p1 : Nat) (p2 : Nat) (p3 : Nat) (po1 : Nat) (pn1 : Nat) (op1 : Nat → Int32) (nn1 : Nat → Int32) (len1 : Nat) (o : Int32) (n : Int32) (hlen : len1 ≤ 64) : zMi l_ E yX6_code (zTs yX6_code cX6_code 4 (some .int)) ({ frames := 1, cells := 0, slots := 0, locals := 22 } : Room) [.ref x, .int (nI 1), .int o, .int n] [(x, zo 6 [.int (nI sz), .ref rr, .ref pa, .ref ck, .ref jb]), (pa, zp E 4 (pf4 p0 p1 p2 p3)), (p1, zo 5 [.int (nI 1), .ref po1, .ref pn1, .int (nI len1)]), (po1, zi E 64 op1), (pn1, zi E 64 nn1)] (fun r_ w_ => (r_ = (capR 64 len1) ∧ w_ = [(x, zo 6 [.int (nI sz), .ref rr, .ref pa, .ref ck, .ref jb]), (pa, zp E 4 (pf4 p0 p1 p2 p3)), (p1, zo 5 [.int (nI 1), .ref po1, .ref pn1, .int (nI (capN 64 len1))]), (po1, zi E 64 (capU 64 len1 op1 o)), (pn1, zi E 64 (capU 64 len1 nn1 n))])) 0 0 := by
  refine zMi.of (cc := cX6_code) (nL := 4) (ret := (some .int)) (by decide) rfl (Nat.le_of_ble_eq_true rfl) ?_
  intro p_ e_ s_ m_ args_ below_ meth_ c_ A_ C0 hin0
  have C0 : zC E p_ s_ m_ args_ meth_ c_ cX6_code 4 (some .int) RX6 (zTs yX6_code cX6_code 4 (some .int)) A_ := C0
  refine z_eqL (L1 := [(0, .ref x), (1, .int (nI 1)), (2, .int o), (3, .int n)]) rfl ?_
  refine z_iload_n 1 C0 1 dX6_code_0 rfl rfl rfl ?_
  refine z_callSi 4 C0 [] [0, 1, 2, 3, 4] [(x, zo 6 [.int (nI sz), .ref rr, .ref pa, .ref ck, .ref jb]), (pa, zp E 4 (pf4 p0 p1 p2 p3)), (p1, zo 5 [.int (nI 1), .ref po1, .ref pn1, .int (nI len1)]), (po1, zi E 64 op1), (pn1, zi E 64 nn1)] 0 0 (As := [.int (nI 1)]) (n := 1) (isProg_n l_ E 1 (by decide)) (zGIS (fun _ => zTs_in) wk_230 wk_228 wk_229 wk_12) rfl ⟨by decide, by decide, by decide +kernel⟩ rfl rfl (by decide) rfl rfl (Nat.le_of_ble_eq_true rfl) ⟨by decide, by decide⟩ rfl rfl ⟨by decide, by decide⟩ ⟨by decide, by decide⟩ dX6_code_1 rfl (fun r1 w1 hB1 => ?_)
  obtain ⟨rfl, rfl⟩ := hB1
  refine z_perm [0, 1, 2, 3, 4] [(x, zo 6 [.int (nI sz), .ref rr, .ref pa, .ref ck, .ref jb]), (pa, zp E 4 (pf4 p0 p1 p2 p3)), (p1, zo 5 [.int (nI 1), .ref po1, .ref pn1, .int (nI len1)]), (po1, zi E 64 op1), (pn1, zi E 64 nn1)] (by decide) rfl ?_
  refine z_if_eqP 7 21 C0 dX6_code_4 rfl (by decide) (fun k4 => absurd k4 (by omega)) (fun k4 => ?_)
  refine z_aload_n 8 C0 0 dX6_code_7 rfl rfl rfl ?_
  refine z_get 11 C0 0 2 wz_6 rfl (by decide) (zTs_in wk_198) dX6_code_8 rfl rfl rfl ?_
  refine z_iload_n 12 C0 1 dX6_code_11 rfl rfl rfl ?_
  refine z_aald 13 C0 1 1 dX6_code_12 rfl rfl rfl rfl (by omega) (by decide) (v := .ref p1) rfl ?_
  refine z_iload_n 14 C0 2 dX6_code_13 rfl rfl rfl ?_
  refine z_iload_n 15 C0 3 dX6_code_14 rfl rfl rfl ?_
  refine z_callVi 18 C0 [2, 3, 4] [0, 1] [(x, zo 6 [.int (nI sz), .ref rr, .ref pa, .ref ck, .ref jb]), (pa, zp E 4 (pf4 p0 p1 p2 p3))] 0 0 (As := [.int o, .int n]) (T := TX5) (N := 4) (C := RX5) (ci := 5) (n := 2) 0 (pappend l_ E p1 po1 pn1 1 op1 nn1 len1 o n (hlen)) (zGIV (fun _ => zTs_in) wk_234 wk_231 wk_232 wk_233 wk_15) rfl ⟨rfl, by decide, by decide, by decide +kernel⟩ rfl rfl rfl rfl (by decide) rfl rfl (Nat.le_of_ble_eq_true rfl) ⟨by decide, by decide⟩ rfl rfl ⟨by decide, by decide⟩ ⟨by decide, by decide⟩ dX6_code_15 rfl (fun r15 w15 hB15 => ?_)
  obtain ⟨rfl, rfl⟩ := hB15
  refine z_perm [0, 1, 2, 3, 4] [(x, zo 6 [.int (nI sz), .ref rr, .ref pa, .ref ck, .ref jb]), (pa, zp E 4 (pf4 p0 p1 p2 p3)), (p1, zo 5 [.int (nI 1), .ref po1, .ref pn1, .int (nI (capN 64 len1))]), (po1, zi E 64 (capU 64 len1 op1 o)), (pn1, zi E 64 (capU 64 len1 nn1 n))] (by decide) rfl ?_
  refine z_goto 22 C0 dX6_code_18 (by decide) ?_
  exact z_iret C0 rfl dX6_code_22 ⟨rfl, rfl⟩ (by decide) (by decide)

set_option maxHeartbeats 4000000 in
set_option maxRecDepth 100000 in
theorem code_2 (l_ : Launch) (E : zE) (x : Nat) (rr : Nat) (pa : Nat) (ck : Nat) (jb : Nat) (sz : Nat) (p0 : Nat) (p1 : Nat) (p2 : Nat) (p3 : Nat) (po2 : Nat) (pn2 : Nat) (op2 : Nat → Int32) (nn2 : Nat → Int32) (len2 : Nat) (o : Int32) (n : Int32) (hlen : len2 ≤ 64) : zMi l_ E yX6_code (zTs yX6_code cX6_code 4 (some .int)) ({ frames := 1, cells := 0, slots := 0, locals := 22 } : Room) [.ref x, .int (nI 2), .int o, .int n] [(x, zo 6 [.int (nI sz), .ref rr, .ref pa, .ref ck, .ref jb]), (pa, zp E 4 (pf4 p0 p1 p2 p3)), (p2, zo 5 [.int (nI 2), .ref po2, .ref pn2, .int (nI len2)]), (po2, zi E 64 op2), (pn2, zi E 64 nn2)] (fun r_ w_ => (r_ = (capR 64 len2) ∧ w_ = [(x, zo 6 [.int (nI sz), .ref rr, .ref pa, .ref ck, .ref jb]), (pa, zp E 4 (pf4 p0 p1 p2 p3)), (p2, zo 5 [.int (nI 2), .ref po2, .ref pn2, .int (nI (capN 64 len2))]), (po2, zi E 64 (capU 64 len2 op2 o)), (pn2, zi E 64 (capU 64 len2 nn2 n))])) 0 0 := by
  refine zMi.of (cc := cX6_code) (nL := 4) (ret := (some .int)) (by decide) rfl (Nat.le_of_ble_eq_true rfl) ?_
  intro p_ e_ s_ m_ args_ below_ meth_ c_ A_ C0 hin0
  have C0 : zC E p_ s_ m_ args_ meth_ c_ cX6_code 4 (some .int) RX6 (zTs yX6_code cX6_code 4 (some .int)) A_ := C0
  refine z_eqL (L1 := [(0, .ref x), (1, .int (nI 2)), (2, .int o), (3, .int n)]) rfl ?_
  refine z_iload_n 1 C0 1 dX6_code_0 rfl rfl rfl ?_
  refine z_callSi 4 C0 [] [0, 1, 2, 3, 4] [(x, zo 6 [.int (nI sz), .ref rr, .ref pa, .ref ck, .ref jb]), (pa, zp E 4 (pf4 p0 p1 p2 p3)), (p2, zo 5 [.int (nI 2), .ref po2, .ref pn2, .int (nI len2)]), (po2, zi E 64 op2), (pn2, zi E 64 nn2)] 0 0 (As := [.int (nI 2)]) (n := 1) (isProg_n l_ E 2 (by decide)) (zGIS (fun _ => zTs_in) wk_230 wk_228 wk_229 wk_12) rfl ⟨by decide, by decide, by decide +kernel⟩ rfl rfl (by decide) rfl rfl (Nat.le_of_ble_eq_true rfl) ⟨by decide, by decide⟩ rfl rfl ⟨by decide, by decide⟩ ⟨by decide, by decide⟩ dX6_code_1 rfl (fun r1 w1 hB1 => ?_)
  obtain ⟨rfl, rfl⟩ := hB1
  refine z_perm [0, 1, 2, 3, 4] [(x, zo 6 [.int (nI sz), .ref rr, .ref pa, .ref ck, .ref jb]), (pa, zp E 4 (pf4 p0 p1 p2 p3)), (p2, zo 5 [.int (nI 2), .ref po2, .ref pn2, .int (nI len2)]), (po2, zi E 64 op2), (pn2, zi E 64 nn2)] (by decide) rfl ?_
  refine z_if_eqP 7 21 C0 dX6_code_4 rfl (by decide) (fun k4 => absurd k4 (by omega)) (fun k4 => ?_)
  refine z_aload_n 8 C0 0 dX6_code_7 rfl rfl rfl ?_
  refine z_get 11 C0 0 2 wz_6 rfl (by decide) (zTs_in wk_198) dX6_code_8 rfl rfl rfl ?_
  refine z_iload_n 12 C0 1 dX6_code_11 rfl rfl rfl ?_
  refine z_aald 13 C0 1 1 dX6_code_12 rfl rfl rfl rfl (by omega) (by decide) (v := .ref p2) rfl ?_
  refine z_iload_n 14 C0 2 dX6_code_13 rfl rfl rfl ?_
  refine z_iload_n 15 C0 3 dX6_code_14 rfl rfl rfl ?_
  refine z_callVi 18 C0 [2, 3, 4] [0, 1] [(x, zo 6 [.int (nI sz), .ref rr, .ref pa, .ref ck, .ref jb]), (pa, zp E 4 (pf4 p0 p1 p2 p3))] 0 0 (As := [.int o, .int n]) (T := TX5) (N := 4) (C := RX5) (ci := 5) (n := 2) 0 (pappend l_ E p2 po2 pn2 2 op2 nn2 len2 o n (hlen)) (zGIV (fun _ => zTs_in) wk_234 wk_231 wk_232 wk_233 wk_15) rfl ⟨rfl, by decide, by decide, by decide +kernel⟩ rfl rfl rfl rfl (by decide) rfl rfl (Nat.le_of_ble_eq_true rfl) ⟨by decide, by decide⟩ rfl rfl ⟨by decide, by decide⟩ ⟨by decide, by decide⟩ dX6_code_15 rfl (fun r15 w15 hB15 => ?_)
  obtain ⟨rfl, rfl⟩ := hB15
  refine z_perm [0, 1, 2, 3, 4] [(x, zo 6 [.int (nI sz), .ref rr, .ref pa, .ref ck, .ref jb]), (pa, zp E 4 (pf4 p0 p1 p2 p3)), (p2, zo 5 [.int (nI 2), .ref po2, .ref pn2, .int (nI (capN 64 len2))]), (po2, zi E 64 (capU 64 len2 op2 o)), (pn2, zi E 64 (capU 64 len2 nn2 n))] (by decide) rfl ?_
  refine z_goto 22 C0 dX6_code_18 (by decide) ?_
  exact z_iret C0 rfl dX6_code_22 ⟨rfl, rfl⟩ (by decide) (by decide)

set_option maxHeartbeats 4000000 in
set_option maxRecDepth 100000 in
theorem code_3 (l_ : Launch) (E : zE) (x : Nat) (rr : Nat) (pa : Nat) (ck : Nat) (jb : Nat) (sz : Nat) (p0 : Nat) (p1 : Nat) (p2 : Nat) (p3 : Nat) (po3 : Nat) (pn3 : Nat) (op3 : Nat → Int32) (nn3 : Nat → Int32) (len3 : Nat) (o : Int32) (n : Int32) (hlen : len3 ≤ 64) : zMi l_ E yX6_code (zTs yX6_code cX6_code 4 (some .int)) ({ frames := 1, cells := 0, slots := 0, locals := 22 } : Room) [.ref x, .int (nI 3), .int o, .int n] [(x, zo 6 [.int (nI sz), .ref rr, .ref pa, .ref ck, .ref jb]), (pa, zp E 4 (pf4 p0 p1 p2 p3)), (p3, zo 5 [.int (nI 3), .ref po3, .ref pn3, .int (nI len3)]), (po3, zi E 64 op3), (pn3, zi E 64 nn3)] (fun r_ w_ => (r_ = (capR 64 len3) ∧ w_ = [(x, zo 6 [.int (nI sz), .ref rr, .ref pa, .ref ck, .ref jb]), (pa, zp E 4 (pf4 p0 p1 p2 p3)), (p3, zo 5 [.int (nI 3), .ref po3, .ref pn3, .int (nI (capN 64 len3))]), (po3, zi E 64 (capU 64 len3 op3 o)), (pn3, zi E 64 (capU 64 len3 nn3 n))])) 0 0 := by
  refine zMi.of (cc := cX6_code) (nL := 4) (ret := (some .int)) (by decide) rfl (Nat.le_of_ble_eq_true rfl) ?_
  intro p_ e_ s_ m_ args_ below_ meth_ c_ A_ C0 hin0
  have C0 : zC E p_ s_ m_ args_ meth_ c_ cX6_code 4 (some .int) RX6 (zTs yX6_code cX6_code 4 (some .int)) A_ := C0
  refine z_eqL (L1 := [(0, .ref x), (1, .int (nI 3)), (2, .int o), (3, .int n)]) rfl ?_
  refine z_iload_n 1 C0 1 dX6_code_0 rfl rfl rfl ?_
  refine z_callSi 4 C0 [] [0, 1, 2, 3, 4] [(x, zo 6 [.int (nI sz), .ref rr, .ref pa, .ref ck, .ref jb]), (pa, zp E 4 (pf4 p0 p1 p2 p3)), (p3, zo 5 [.int (nI 3), .ref po3, .ref pn3, .int (nI len3)]), (po3, zi E 64 op3), (pn3, zi E 64 nn3)] 0 0 (As := [.int (nI 3)]) (n := 1) (isProg_n l_ E 3 (by decide)) (zGIS (fun _ => zTs_in) wk_230 wk_228 wk_229 wk_12) rfl ⟨by decide, by decide, by decide +kernel⟩ rfl rfl (by decide) rfl rfl (Nat.le_of_ble_eq_true rfl) ⟨by decide, by decide⟩ rfl rfl ⟨by decide, by decide⟩ ⟨by decide, by decide⟩ dX6_code_1 rfl (fun r1 w1 hB1 => ?_)
  obtain ⟨rfl, rfl⟩ := hB1
  refine z_perm [0, 1, 2, 3, 4] [(x, zo 6 [.int (nI sz), .ref rr, .ref pa, .ref ck, .ref jb]), (pa, zp E 4 (pf4 p0 p1 p2 p3)), (p3, zo 5 [.int (nI 3), .ref po3, .ref pn3, .int (nI len3)]), (po3, zi E 64 op3), (pn3, zi E 64 nn3)] (by decide) rfl ?_
  refine z_if_eqP 7 21 C0 dX6_code_4 rfl (by decide) (fun k4 => absurd k4 (by omega)) (fun k4 => ?_)
  refine z_aload_n 8 C0 0 dX6_code_7 rfl rfl rfl ?_
  refine z_get 11 C0 0 2 wz_6 rfl (by decide) (zTs_in wk_198) dX6_code_8 rfl rfl rfl ?_
  refine z_iload_n 12 C0 1 dX6_code_11 rfl rfl rfl ?_
  refine z_aald 13 C0 1 1 dX6_code_12 rfl rfl rfl rfl (by omega) (by decide) (v := .ref p3) rfl ?_
  refine z_iload_n 14 C0 2 dX6_code_13 rfl rfl rfl ?_
  refine z_iload_n 15 C0 3 dX6_code_14 rfl rfl rfl ?_
  refine z_callVi 18 C0 [2, 3, 4] [0, 1] [(x, zo 6 [.int (nI sz), .ref rr, .ref pa, .ref ck, .ref jb]), (pa, zp E 4 (pf4 p0 p1 p2 p3))] 0 0 (As := [.int o, .int n]) (T := TX5) (N := 4) (C := RX5) (ci := 5) (n := 2) 0 (pappend l_ E p3 po3 pn3 3 op3 nn3 len3 o n (hlen)) (zGIV (fun _ => zTs_in) wk_234 wk_231 wk_232 wk_233 wk_15) rfl ⟨rfl, by decide, by decide, by decide +kernel⟩ rfl rfl rfl rfl (by decide) rfl rfl (Nat.le_of_ble_eq_true rfl) ⟨by decide, by decide⟩ rfl rfl ⟨by decide, by decide⟩ ⟨by decide, by decide⟩ dX6_code_15 rfl (fun r15 w15 hB15 => ?_)
  obtain ⟨rfl, rfl⟩ := hB15
  refine z_perm [0, 1, 2, 3, 4] [(x, zo 6 [.int (nI sz), .ref rr, .ref pa, .ref ck, .ref jb]), (pa, zp E 4 (pf4 p0 p1 p2 p3)), (p3, zo 5 [.int (nI 3), .ref po3, .ref pn3, .int (nI (capN 64 len3))]), (po3, zi E 64 (capU 64 len3 op3 o)), (pn3, zi E 64 (capU 64 len3 nn3 n))] (by decide) rfl ?_
  refine z_goto 22 C0 dX6_code_18 (by decide) ?_
  exact z_iret C0 rfl dX6_code_22 ⟨rfl, rfl⟩ (by decide) (by decide)

set_option maxHeartbeats 4000000 in
set_option maxRecDepth 100000 in
theorem clear_bad (l_ : Launch) (E : zE) (x : Nat) (rr : Nat) (pa : Nat) (ck : Nat) (jb : Nat) (sz : Nat) (z : Int32) (hz : ¬ ∃ k, k < 4 ∧ z = nI k) : zMi l_ E yX6_clear (zTs yX6_clear cX6_clear 3 (some .int)) ({ frames := 1, cells := 0, slots := 0, locals := 20 } : Room) [.ref x, .int z] [(x, zo 6 [.int (nI sz), .ref rr, .ref pa, .ref ck, .ref jb])] (fun r_ w_ => (r_ = (-1) ∧ w_ = [(x, zo 6 [.int (nI sz), .ref rr, .ref pa, .ref ck, .ref jb])])) 0 0 := by
  refine zMi.of (cc := cX6_clear) (nL := 3) (ret := (some .int)) (by decide) rfl (Nat.le_of_ble_eq_true rfl) ?_
  intro p_ e_ s_ m_ args_ below_ meth_ c_ A_ C0 hin0
  have C0 : zC E p_ s_ m_ args_ meth_ c_ cX6_clear 3 (some .int) RX6 (zTs yX6_clear cX6_clear 3 (some .int)) A_ := C0
  refine z_eqL (L1 := [(0, .ref x), (1, .int z)]) rfl ?_
  refine z_iload_n 1 C0 1 dX6_clear_0 rfl rfl rfl ?_
  refine z_callSi 4 C0 [] [0] [(x, zo 6 [.int (nI sz), .ref rr, .ref pa, .ref ck, .ref jb])] 0 0 (As := [.int z]) (n := 1) (isProg_i l_ E z ) (zGIS (fun _ => zTs_in) wk_230 wk_228 wk_229 wk_12) rfl ⟨by decide, by decide, by decide +kernel⟩ rfl rfl (by decide) rfl rfl (Nat.le_of_ble_eq_true rfl) ⟨by decide, by decide⟩ rfl rfl ⟨by decide, by decide⟩ ⟨by decide, by decide⟩ dX6_clear_1 rfl (fun r1 w1 hB1 => ?_)
  obtain ⟨rfl, rfl⟩ := hB1
  refine z_perm [0] [(x, zo 6 [.int (nI sz), .ref rr, .ref pa, .ref ck, .ref jb])] (by decide) rfl ?_
  refine z_if_neP 7 9 C0 dX6_clear_4 rfl (by decide) (fun k4 => absurd k4 hz) (fun k4 => ?_)
  refine z_iconst 8 C0 (v := (-1)) dX6_clear_7 rfl (by decide) ?_
  exact z_iret C0 rfl dX6_clear_8 ⟨rfl, rfl⟩ (by decide) (by decide)

set_option maxHeartbeats 4000000 in
set_option maxRecDepth 100000 in
theorem clear_0 (l_ : Launch) (E : zE) (x : Nat) (rr : Nat) (pa : Nat) (ck : Nat) (jb : Nat) (sz : Nat) (p0 : Nat) (p1 : Nat) (p2 : Nat) (p3 : Nat) (po0 : Nat) (pn0 : Nat) (len0 : Nat)  : zMi l_ E yX6_clear (zTs yX6_clear cX6_clear 3 (some .int)) ({ frames := 1, cells := 0, slots := 0, locals := 20 } : Room) [.ref x, .int (nI 0)] [(x, zo 6 [.int (nI sz), .ref rr, .ref pa, .ref ck, .ref jb]), (pa, zp E 4 (pf4 p0 p1 p2 p3)), (p0, zo 5 [.int (nI 0), .ref po0, .ref pn0, .int (nI len0)])] (fun r_ w_ => (r_ = (nI len0) ∧ w_ = [(x, zo 6 [.int (nI sz), .ref rr, .ref pa, .ref ck, .ref jb]), (pa, zp E 4 (pf4 p0 p1 p2 p3)), (p0, zo 5 [.int (nI 0), .ref po0, .ref pn0, .int (nI 0)])])) 0 0 := by
  refine zMi.of (cc := cX6_clear) (nL := 3) (ret := (some .int)) (by decide) rfl (Nat.le_of_ble_eq_true rfl) ?_
  intro p_ e_ s_ m_ args_ below_ meth_ c_ A_ C0 hin0
  have C0 : zC E p_ s_ m_ args_ meth_ c_ cX6_clear 3 (some .int) RX6 (zTs yX6_clear cX6_clear 3 (some .int)) A_ := C0
  refine z_eqL (L1 := [(0, .ref x), (1, .int (nI 0))]) rfl ?_
  refine z_iload_n 1 C0 1 dX6_clear_0 rfl rfl rfl ?_
  refine z_callSi 4 C0 [] [0, 1, 2] [(x, zo 6 [.int (nI sz), .ref rr, .ref pa, .ref ck, .ref jb]), (pa, zp E 4 (pf4 p0 p1 p2 p3)), (p0, zo 5 [.int (nI 0), .ref po0, .ref pn0, .int (nI len0)])] 0 0 (As := [.int (nI 0)]) (n := 1) (isProg_n l_ E 0 (by decide)) (zGIS (fun _ => zTs_in) wk_230 wk_228 wk_229 wk_12) rfl ⟨by decide, by decide, by decide +kernel⟩ rfl rfl (by decide) rfl rfl (Nat.le_of_ble_eq_true rfl) ⟨by decide, by decide⟩ rfl rfl ⟨by decide, by decide⟩ ⟨by decide, by decide⟩ dX6_clear_1 rfl (fun r1 w1 hB1 => ?_)
  obtain ⟨rfl, rfl⟩ := hB1
  refine z_perm [0, 1, 2] [(x, zo 6 [.int (nI sz), .ref rr, .ref pa, .ref ck, .ref jb]), (pa, zp E 4 (pf4 p0 p1 p2 p3)), (p0, zo 5 [.int (nI 0), .ref po0, .ref pn0, .int (nI len0)])] (by decide) rfl ?_
  refine z_if_neP 7 9 C0 dX6_clear_4 rfl (by decide) (fun k4 => ?_) (fun k4 => absurd k4 (by omega))
  refine z_aload_n 10 C0 0 dX6_clear_9 rfl rfl rfl ?_
  refine z_get 13 C0 0 2 wz_6 rfl (by decide) (zTs_in wk_198) dX6_clear_10 rfl rfl rfl ?_
  refine z_iload_n 14 C0 1 dX6_clear_13 rfl rfl rfl ?_
  refine z_aald 15 C0 1 1 dX6_clear_14 rfl rfl rfl rfl (by omega) (by decide) (v := .ref p0) rfl ?_
  refine z_get 18 C0 2 3 wz_5 rfl (by decide) (zTs_in wk_79) dX6_clear_15 rfl rfl rfl ?_
  refine z_istore_n 19 C0 [1, 2, 0] [(0, .ref x), (1, .int (nI 0)), (2, .int (nI len0))] dX6_clear_18 rfl rfl (by decide) rfl ?_
  refine z_aload_n 20 C0 0 dX6_clear_19 rfl rfl rfl ?_
  refine z_get 23 C0 0 2 wz_6 rfl (by decide) (zTs_in wk_198) dX6_clear_20 rfl rfl rfl ?_
  refine z_iload_n 24 C0 1 dX6_clear_23 rfl rfl rfl ?_
  refine z_aald 25 C0 1 1 dX6_clear_24 rfl rfl rfl rfl (by omega) (by decide) (v := .ref p0) rfl ?_
  refine z_iconst 26 C0 (v := (nI 0)) dX6_clear_25 rfl rfl ?_
  refine z_put 29 C0 2 3 [(x, zo 6 [.int (nI sz), .ref rr, .ref pa, .ref ck, .ref jb]), (pa, zp E 4 (pf4 p0 p1 p2 p3)), (p0, zo 5 [.int (nI 0), .ref po0, .ref pn0, .int (nI 0)])] wz_5 rfl (by decide) (zTs_in wk_79) tyX5 tyX5_ok nmX5 rfl rfl rfl rfl dX6_clear_26 rfl rfl (Nat.le_of_ble_eq_true rfl) rfl ?_
  refine z_iload_n 30 C0 2 dX6_clear_29 rfl rfl rfl ?_
  exact z_iret C0 rfl dX6_clear_30 ⟨rfl, rfl⟩ (by decide) (by decide)

set_option maxHeartbeats 4000000 in
set_option maxRecDepth 100000 in
theorem clear_1 (l_ : Launch) (E : zE) (x : Nat) (rr : Nat) (pa : Nat) (ck : Nat) (jb : Nat) (sz : Nat) (p0 : Nat) (p1 : Nat) (p2 : Nat) (p3 : Nat) (po1 : Nat) (pn1 : Nat) (len1 : Nat)  : zMi l_ E yX6_clear (zTs yX6_clear cX6_clear 3 (some .int)) ({ frames := 1, cells := 0, slots := 0, locals := 20 } : Room) [.ref x, .int (nI 1)] [(x, zo 6 [.int (nI sz), .ref rr, .ref pa, .ref ck, .ref jb]), (pa, zp E 4 (pf4 p0 p1 p2 p3)), (p1, zo 5 [.int (nI 1), .ref po1, .ref pn1, .int (nI len1)])] (fun r_ w_ => (r_ = (nI len1) ∧ w_ = [(x, zo 6 [.int (nI sz), .ref rr, .ref pa, .ref ck, .ref jb]), (pa, zp E 4 (pf4 p0 p1 p2 p3)), (p1, zo 5 [.int (nI 1), .ref po1, .ref pn1, .int (nI 0)])])) 0 0 := by
  refine zMi.of (cc := cX6_clear) (nL := 3) (ret := (some .int)) (by decide) rfl (Nat.le_of_ble_eq_true rfl) ?_
  intro p_ e_ s_ m_ args_ below_ meth_ c_ A_ C0 hin0
  have C0 : zC E p_ s_ m_ args_ meth_ c_ cX6_clear 3 (some .int) RX6 (zTs yX6_clear cX6_clear 3 (some .int)) A_ := C0
  refine z_eqL (L1 := [(0, .ref x), (1, .int (nI 1))]) rfl ?_
  refine z_iload_n 1 C0 1 dX6_clear_0 rfl rfl rfl ?_
  refine z_callSi 4 C0 [] [0, 1, 2] [(x, zo 6 [.int (nI sz), .ref rr, .ref pa, .ref ck, .ref jb]), (pa, zp E 4 (pf4 p0 p1 p2 p3)), (p1, zo 5 [.int (nI 1), .ref po1, .ref pn1, .int (nI len1)])] 0 0 (As := [.int (nI 1)]) (n := 1) (isProg_n l_ E 1 (by decide)) (zGIS (fun _ => zTs_in) wk_230 wk_228 wk_229 wk_12) rfl ⟨by decide, by decide, by decide +kernel⟩ rfl rfl (by decide) rfl rfl (Nat.le_of_ble_eq_true rfl) ⟨by decide, by decide⟩ rfl rfl ⟨by decide, by decide⟩ ⟨by decide, by decide⟩ dX6_clear_1 rfl (fun r1 w1 hB1 => ?_)
  obtain ⟨rfl, rfl⟩ := hB1
  refine z_perm [0, 1, 2] [(x, zo 6 [.int (nI sz), .ref rr, .ref pa, .ref ck, .ref jb]), (pa, zp E 4 (pf4 p0 p1 p2 p3)), (p1, zo 5 [.int (nI 1), .ref po1, .ref pn1, .int (nI len1)])] (by decide) rfl ?_
  refine z_if_neP 7 9 C0 dX6_clear_4 rfl (by decide) (fun k4 => ?_) (fun k4 => absurd k4 (by omega))
  refine z_aload_n 10 C0 0 dX6_clear_9 rfl rfl rfl ?_
  refine z_get 13 C0 0 2 wz_6 rfl (by decide) (zTs_in wk_198) dX6_clear_10 rfl rfl rfl ?_
  refine z_iload_n 14 C0 1 dX6_clear_13 rfl rfl rfl ?_
  refine z_aald 15 C0 1 1 dX6_clear_14 rfl rfl rfl rfl (by omega) (by decide) (v := .ref p1) rfl ?_
  refine z_get 18 C0 2 3 wz_5 rfl (by decide) (zTs_in wk_79) dX6_clear_15 rfl rfl rfl ?_
  refine z_istore_n 19 C0 [1, 2, 0] [(0, .ref x), (1, .int (nI 1)), (2, .int (nI len1))] dX6_clear_18 rfl rfl (by decide) rfl ?_
  refine z_aload_n 20 C0 0 dX6_clear_19 rfl rfl rfl ?_
  refine z_get 23 C0 0 2 wz_6 rfl (by decide) (zTs_in wk_198) dX6_clear_20 rfl rfl rfl ?_
  refine z_iload_n 24 C0 1 dX6_clear_23 rfl rfl rfl ?_
  refine z_aald 25 C0 1 1 dX6_clear_24 rfl rfl rfl rfl (by omega) (by decide) (v := .ref p1) rfl ?_
  refine z_iconst 26 C0 (v := (nI 0)) dX6_clear_25 rfl rfl ?_
  refine z_put 29 C0 2 3 [(x, zo 6 [.int (nI sz), .ref rr, .ref pa, .ref ck, .ref jb]), (pa, zp E 4 (pf4 p0 p1 p2 p3)), (p1, zo 5 [.int (nI 1), .ref po1, .ref pn1, .int (nI 0)])] wz_5 rfl (by decide) (zTs_in wk_79) tyX5 tyX5_ok nmX5 rfl rfl rfl rfl dX6_clear_26 rfl rfl (Nat.le_of_ble_eq_true rfl) rfl ?_
  refine z_iload_n 30 C0 2 dX6_clear_29 rfl rfl rfl ?_
  exact z_iret C0 rfl dX6_clear_30 ⟨rfl, rfl⟩ (by decide) (by decide)

set_option maxHeartbeats 4000000 in
set_option maxRecDepth 100000 in
theorem clear_2 (l_ : Launch) (E : zE) (x : Nat) (rr : Nat) (pa : Nat) (ck : Nat) (jb : Nat) (sz : Nat) (p0 : Nat) (p1 : Nat) (p2 : Nat) (p3 : Nat) (po2 : Nat) (pn2 : Nat) (len2 : Nat)  : zMi l_ E yX6_clear (zTs yX6_clear cX6_clear 3 (some .int)) ({ frames := 1, cells := 0, slots := 0, locals := 20 } : Room) [.ref x, .int (nI 2)] [(x, zo 6 [.int (nI sz), .ref rr, .ref pa, .ref ck, .ref jb]), (pa, zp E 4 (pf4 p0 p1 p2 p3)), (p2, zo 5 [.int (nI 2), .ref po2, .ref pn2, .int (nI len2)])] (fun r_ w_ => (r_ = (nI len2) ∧ w_ = [(x, zo 6 [.int (nI sz), .ref rr, .ref pa, .ref ck, .ref jb]), (pa, zp E 4 (pf4 p0 p1 p2 p3)), (p2, zo 5 [.int (nI 2), .ref po2, .ref pn2, .int (nI 0)])])) 0 0 := by
  refine zMi.of (cc := cX6_clear) (nL := 3) (ret := (some .int)) (by decide) rfl (Nat.le_of_ble_eq_true rfl) ?_
  intro p_ e_ s_ m_ args_ below_ meth_ c_ A_ C0 hin0
  have C0 : zC E p_ s_ m_ args_ meth_ c_ cX6_clear 3 (some .int) RX6 (zTs yX6_clear cX6_clear 3 (some .int)) A_ := C0
  refine z_eqL (L1 := [(0, .ref x), (1, .int (nI 2))]) rfl ?_
  refine z_iload_n 1 C0 1 dX6_clear_0 rfl rfl rfl ?_
  refine z_callSi 4 C0 [] [0, 1, 2] [(x, zo 6 [.int (nI sz), .ref rr, .ref pa, .ref ck, .ref jb]), (pa, zp E 4 (pf4 p0 p1 p2 p3)), (p2, zo 5 [.int (nI 2), .ref po2, .ref pn2, .int (nI len2)])] 0 0 (As := [.int (nI 2)]) (n := 1) (isProg_n l_ E 2 (by decide)) (zGIS (fun _ => zTs_in) wk_230 wk_228 wk_229 wk_12) rfl ⟨by decide, by decide, by decide +kernel⟩ rfl rfl (by decide) rfl rfl (Nat.le_of_ble_eq_true rfl) ⟨by decide, by decide⟩ rfl rfl ⟨by decide, by decide⟩ ⟨by decide, by decide⟩ dX6_clear_1 rfl (fun r1 w1 hB1 => ?_)
  obtain ⟨rfl, rfl⟩ := hB1
  refine z_perm [0, 1, 2] [(x, zo 6 [.int (nI sz), .ref rr, .ref pa, .ref ck, .ref jb]), (pa, zp E 4 (pf4 p0 p1 p2 p3)), (p2, zo 5 [.int (nI 2), .ref po2, .ref pn2, .int (nI len2)])] (by decide) rfl ?_
  refine z_if_neP 7 9 C0 dX6_clear_4 rfl (by decide) (fun k4 => ?_) (fun k4 => absurd k4 (by omega))
  refine z_aload_n 10 C0 0 dX6_clear_9 rfl rfl rfl ?_
  refine z_get 13 C0 0 2 wz_6 rfl (by decide) (zTs_in wk_198) dX6_clear_10 rfl rfl rfl ?_
  refine z_iload_n 14 C0 1 dX6_clear_13 rfl rfl rfl ?_
  refine z_aald 15 C0 1 1 dX6_clear_14 rfl rfl rfl rfl (by omega) (by decide) (v := .ref p2) rfl ?_
  refine z_get 18 C0 2 3 wz_5 rfl (by decide) (zTs_in wk_79) dX6_clear_15 rfl rfl rfl ?_
  refine z_istore_n 19 C0 [1, 2, 0] [(0, .ref x), (1, .int (nI 2)), (2, .int (nI len2))] dX6_clear_18 rfl rfl (by decide) rfl ?_
  refine z_aload_n 20 C0 0 dX6_clear_19 rfl rfl rfl ?_
  refine z_get 23 C0 0 2 wz_6 rfl (by decide) (zTs_in wk_198) dX6_clear_20 rfl rfl rfl ?_
  refine z_iload_n 24 C0 1 dX6_clear_23 rfl rfl rfl ?_
  refine z_aald 25 C0 1 1 dX6_clear_24 rfl rfl rfl rfl (by omega) (by decide) (v := .ref p2) rfl ?_
  refine z_iconst 26 C0 (v := (nI 0)) dX6_clear_25 rfl rfl ?_
  refine z_put 29 C0 2 3 [(x, zo 6 [.int (nI sz), .ref rr, .ref pa, .ref ck, .ref jb]), (pa, zp E 4 (pf4 p0 p1 p2 p3)), (p2, zo 5 [.int (nI 2), .ref po2, .ref pn2, .int (nI 0)])] wz_5 rfl (by decide) (zTs_in wk_79) tyX5 tyX5_ok nmX5 rfl rfl rfl rfl dX6_clear_26 rfl rfl (Nat.le_of_ble_eq_true rfl) rfl ?_
  refine z_iload_n 30 C0 2 dX6_clear_29 rfl rfl rfl ?_
  exact z_iret C0 rfl dX6_clear_30 ⟨rfl, rfl⟩ (by decide) (by decide)

set_option maxHeartbeats 4000000 in
set_option maxRecDepth 100000 in
theorem clear_3 (l_ : Launch) (E : zE) (x : Nat) (rr : Nat) (pa : Nat) (ck : Nat) (jb : Nat) (sz : Nat) (p0 : Nat) (p1 : Nat) (p2 : Nat) (p3 : Nat) (po3 : Nat) (pn3 : Nat) (len3 : Nat)  : zMi l_ E yX6_clear (zTs yX6_clear cX6_clear 3 (some .int)) ({ frames := 1, cells := 0, slots := 0, locals := 20 } : Room) [.ref x, .int (nI 3)] [(x, zo 6 [.int (nI sz), .ref rr, .ref pa, .ref ck, .ref jb]), (pa, zp E 4 (pf4 p0 p1 p2 p3)), (p3, zo 5 [.int (nI 3), .ref po3, .ref pn3, .int (nI len3)])] (fun r_ w_ => (r_ = (nI len3) ∧ w_ = [(x, zo 6 [.int (nI sz), .ref rr, .ref pa, .ref ck, .ref jb]), (pa, zp E 4 (pf4 p0 p1 p2 p3)), (p3, zo 5 [.int (nI 3), .ref po3, .ref pn3, .int (nI 0)])])) 0 0 := by
  refine zMi.of (cc := cX6_clear) (nL := 3) (ret := (some .int)) (by decide) rfl (Nat.le_of_ble_eq_true rfl) ?_
  intro p_ e_ s_ m_ args_ below_ meth_ c_ A_ C0 hin0
  have C0 : zC E p_ s_ m_ args_ meth_ c_ cX6_clear 3 (some .int) RX6 (zTs yX6_clear cX6_clear 3 (some .int)) A_ := C0
  refine z_eqL (L1 := [(0, .ref x), (1, .int (nI 3))]) rfl ?_
  refine z_iload_n 1 C0 1 dX6_clear_0 rfl rfl rfl ?_
  refine z_callSi 4 C0 [] [0, 1, 2] [(x, zo 6 [.int (nI sz), .ref rr, .ref pa, .ref ck, .ref jb]), (pa, zp E 4 (pf4 p0 p1 p2 p3)), (p3, zo 5 [.int (nI 3), .ref po3, .ref pn3, .int (nI len3)])] 0 0 (As := [.int (nI 3)]) (n := 1) (isProg_n l_ E 3 (by decide)) (zGIS (fun _ => zTs_in) wk_230 wk_228 wk_229 wk_12) rfl ⟨by decide, by decide, by decide +kernel⟩ rfl rfl (by decide) rfl rfl (Nat.le_of_ble_eq_true rfl) ⟨by decide, by decide⟩ rfl rfl ⟨by decide, by decide⟩ ⟨by decide, by decide⟩ dX6_clear_1 rfl (fun r1 w1 hB1 => ?_)
  obtain ⟨rfl, rfl⟩ := hB1
  refine z_perm [0, 1, 2] [(x, zo 6 [.int (nI sz), .ref rr, .ref pa, .ref ck, .ref jb]), (pa, zp E 4 (pf4 p0 p1 p2 p3)), (p3, zo 5 [.int (nI 3), .ref po3, .ref pn3, .int (nI len3)])] (by decide) rfl ?_
  refine z_if_neP 7 9 C0 dX6_clear_4 rfl (by decide) (fun k4 => ?_) (fun k4 => absurd k4 (by omega))
  refine z_aload_n 10 C0 0 dX6_clear_9 rfl rfl rfl ?_
  refine z_get 13 C0 0 2 wz_6 rfl (by decide) (zTs_in wk_198) dX6_clear_10 rfl rfl rfl ?_
  refine z_iload_n 14 C0 1 dX6_clear_13 rfl rfl rfl ?_
  refine z_aald 15 C0 1 1 dX6_clear_14 rfl rfl rfl rfl (by omega) (by decide) (v := .ref p3) rfl ?_
  refine z_get 18 C0 2 3 wz_5 rfl (by decide) (zTs_in wk_79) dX6_clear_15 rfl rfl rfl ?_
  refine z_istore_n 19 C0 [1, 2, 0] [(0, .ref x), (1, .int (nI 3)), (2, .int (nI len3))] dX6_clear_18 rfl rfl (by decide) rfl ?_
  refine z_aload_n 20 C0 0 dX6_clear_19 rfl rfl rfl ?_
  refine z_get 23 C0 0 2 wz_6 rfl (by decide) (zTs_in wk_198) dX6_clear_20 rfl rfl rfl ?_
  refine z_iload_n 24 C0 1 dX6_clear_23 rfl rfl rfl ?_
  refine z_aald 25 C0 1 1 dX6_clear_24 rfl rfl rfl rfl (by omega) (by decide) (v := .ref p3) rfl ?_
  refine z_iconst 26 C0 (v := (nI 0)) dX6_clear_25 rfl rfl ?_
  refine z_put 29 C0 2 3 [(x, zo 6 [.int (nI sz), .ref rr, .ref pa, .ref ck, .ref jb]), (pa, zp E 4 (pf4 p0 p1 p2 p3)), (p3, zo 5 [.int (nI 3), .ref po3, .ref pn3, .int (nI 0)])] wz_5 rfl (by decide) (zTs_in wk_79) tyX5 tyX5_ok nmX5 rfl rfl rfl rfl dX6_clear_26 rfl rfl (Nat.le_of_ble_eq_true rfl) rfl ?_
  refine z_iload_n 30 C0 2 dX6_clear_29 rfl rfl rfl ?_
  exact z_iret C0 rfl dX6_clear_30 ⟨rfl, rfl⟩ (by decide) (by decide)

set_option maxHeartbeats 4000000 in
set_option maxRecDepth 100000 in
theorem check_bad (l_ : Launch) (E : zE) (x : Nat) (rr : Nat) (pa : Nat) (ck : Nat) (jb : Nat) (sz : Nat) (z : Int32) (hz : ¬ ∃ k, k < 4 ∧ z = nI k) : zMi l_ E yX6_check (zTs yX6_check cX6_check 2 (some .int)) ({ frames := 5, cells := 0, slots := 0, locals := 114 } : Room) [.ref x, .int z] [(x, zo 6 [.int (nI sz), .ref rr, .ref pa, .ref ck, .ref jb])] (fun r_ w_ => (r_ = (-1) ∧ w_ = [(x, zo 6 [.int (nI sz), .ref rr, .ref pa, .ref ck, .ref jb])])) 0 0 := by
  refine zMi.of (cc := cX6_check) (nL := 2) (ret := (some .int)) (by decide) rfl (Nat.le_of_ble_eq_true rfl) ?_
  intro p_ e_ s_ m_ args_ below_ meth_ c_ A_ C0 hin0
  have C0 : zC E p_ s_ m_ args_ meth_ c_ cX6_check 2 (some .int) RX6 (zTs yX6_check cX6_check 2 (some .int)) A_ := C0
  refine z_eqL (L1 := [(0, .ref x), (1, .int z)]) rfl ?_
  refine z_iload_n 1 C0 1 dX6_check_0 rfl rfl rfl ?_
  refine z_callSi 4 C0 [] [0] [(x, zo 6 [.int (nI sz), .ref rr, .ref pa, .ref ck, .ref jb])] 0 0 (As := [.int z]) (n := 1) (isProg_i l_ E z ) (zGIS (fun _ => zTs_in) wk_230 wk_228 wk_229 wk_12) rfl ⟨by decide, by decide, by decide +kernel⟩ rfl rfl (by decide) rfl rfl (Nat.le_of_ble_eq_true rfl) ⟨by decide, by decide⟩ rfl rfl ⟨by decide, by decide⟩ ⟨by decide, by decide⟩ dX6_check_1 rfl (fun r1 w1 hB1 => ?_)
  obtain ⟨rfl, rfl⟩ := hB1
  refine z_perm [0] [(x, zo 6 [.int (nI sz), .ref rr, .ref pa, .ref ck, .ref jb])] (by decide) rfl ?_
  refine z_if_eqP 7 23 C0 dX6_check_4 rfl (by decide) (fun k4 => ?_) (fun k4 => absurd k4 hz)
  refine z_iconst 24 C0 (v := (-1)) dX6_check_23 rfl (by decide) ?_
  exact z_iret C0 rfl dX6_check_24 ⟨rfl, rfl⟩ (by decide) (by decide)

theorem fw (l_ : Launch) (E : zE) (ck : Nat) (ch : Nat) (cr : Nat) (hm : Nat → Nat) (rr_ : Nat → Nat) (rc : Nat) (p : Nat) (po : Nat) (pn : Nat) (kd : Nat) (op : Nat → Int32) (nn : Nat → Int32) (len : Nat) (hkd : kd < 4) (hlen : len ≤ 64) : zMi l_ E yX0_firstWrong (zTs yX0_firstWrong cX0_firstWrong 3 (some .int)) ({ frames := 4, cells := 0, slots := 0, locals := 92 } : Room) [.ref ck, .ref p] [(ck, zo 0 [.ref ch, .ref cr, .int (nI rc)]), (ch, zi E 64 (zn hm)), (cr, zi E 576 (zn rr_)), (p, zo 5 [.int (nI kd), .ref po, .ref pn, .int (nI len)]), (po, zi E 64 op), (pn, zi E 64 nn)] (fun r_ w_ => ∃ hm2 : Nat → Nat, ∃ rr2 : Nat → Nat, ∃ rc2 : Nat, ∃ r2 : Int32, (r_ = r2 ∧ w_ = [(ck, zo 0 [.ref ch, .ref cr, .int (nI rc2)]), (ch, zi E 64 (zn hm2)), (cr, zi E 576 (zn rr2)), (p, zo 5 [.int (nI kd), .ref po, .ref pn, .int (nI len)]), (po, zi E 64 op), (pn, zi E 64 nn)]) ∧ (chkR kd op nn len r2)) 0 0 := by
  intro sz
  rcases Nat.eq_zero_or_pos len with h0 | h0
  · refine Met.postI (fw_0 l_ E ck ch cr hm rr_ rc p po pn kd op nn len h0 sz) ?_
    rintro r w ⟨rfl, rfl⟩
    exact ⟨hm, rr_, rc, nI 64, ⟨rfl, rfl⟩, Or.inl ⟨h0, rfl⟩⟩
  · refine Met.postI (fw_1 l_ E ck ch cr hm rr_ rc p po pn kd op nn len hkd hlen h0 sz) ?_
    rintro r w ⟨hm2, rr2, rc2, r2, ⟨rfl, rfl⟩, hF⟩
    exact ⟨hm2, rr2, rc2, _, ⟨rfl, rfl⟩, Or.inr ⟨h0, hF⟩⟩

set_option maxHeartbeats 4000000 in
set_option maxRecDepth 100000 in
theorem check_0 (l_ : Launch) (E : zE) (x : Nat) (rr : Nat) (pa : Nat) (ck : Nat) (jb : Nat) (sz : Nat) (ch : Nat) (cr : Nat) (hm : Nat → Nat) (rr_ : Nat → Nat) (rc : Nat) (p0 : Nat) (p1 : Nat) (p2 : Nat) (p3 : Nat) (po0 : Nat) (pn0 : Nat) (op0 : Nat → Int32) (nn0 : Nat → Int32) (len0 : Nat) (hlen : len0 ≤ 64) : zMi l_ E yX6_check (zTs yX6_check cX6_check 2 (some .int)) ({ frames := 5, cells := 0, slots := 0, locals := 114 } : Room) [.ref x, .int (nI 0)] [(x, zo 6 [.int (nI sz), .ref rr, .ref pa, .ref ck, .ref jb]), (ck, zo 0 [.ref ch, .ref cr, .int (nI rc)]), (ch, zi E 64 (zn hm)), (cr, zi E 576 (zn rr_)), (pa, zp E 4 (pf4 p0 p1 p2 p3)), (p0, zo 5 [.int (nI 0), .ref po0, .ref pn0, .int (nI len0)]), (po0, zi E 64 op0), (pn0, zi E 64 nn0)] (fun r_ w_ => ∃ hm2 : Nat → Nat, ∃ rr2 : Nat → Nat, ∃ rc2 : Nat, ∃ r2 : Int32, (r_ = r2 ∧ w_ = [(x, zo 6 [.int (nI sz), .ref rr, .ref pa, .ref ck, .ref jb]), (ck, zo 0 [.ref ch, .ref cr, .int (nI rc2)]), (ch, zi E 64 (zn hm2)), (cr, zi E 576 (zn rr2)), (pa, zp E 4 (pf4 p0 p1 p2 p3)), (p0, zo 5 [.int (nI 0), .ref po0, .ref pn0, .int (nI len0)]), (po0, zi E 64 op0), (pn0, zi E 64 nn0)]) ∧ (chkR 0 op0 nn0 len0 r2)) 0 0 := by
  refine zMi.of (cc := cX6_check) (nL := 2) (ret := (some .int)) (by decide) rfl (Nat.le_of_ble_eq_true rfl) ?_
  intro p_ e_ s_ m_ args_ below_ meth_ c_ A_ C0 hin0
  have C0 : zC E p_ s_ m_ args_ meth_ c_ cX6_check 2 (some .int) RX6 (zTs yX6_check cX6_check 2 (some .int)) A_ := C0
  refine z_eqL (L1 := [(0, .ref x), (1, .int (nI 0))]) rfl ?_
  refine z_iload_n 1 C0 1 dX6_check_0 rfl rfl rfl ?_
  refine z_callSi 4 C0 [] [0, 1, 2, 3, 4, 5, 6, 7] [(x, zo 6 [.int (nI sz), .ref rr, .ref pa, .ref ck, .ref jb]), (ck, zo 0 [.ref ch, .ref cr, .int (nI rc)]), (ch, zi E 64 (zn hm)), (cr, zi E 576 (zn rr_)), (pa, zp E 4 (pf4 p0 p1 p2 p3)), (p0, zo 5 [.int (nI 0), .ref po0, .ref pn0, .int (nI len0)]), (po0, zi E 64 op0), (pn0, zi E 64 nn0)] 0 0 (As := [.int (nI 0)]) (n := 1) (isProg_n l_ E 0 (by decide)) (zGIS (fun _ => zTs_in) wk_230 wk_228 wk_229 wk_12) rfl ⟨by decide, by decide, by decide +kernel⟩ rfl rfl (by decide) rfl rfl (Nat.le_of_ble_eq_true rfl) ⟨by decide, by decide⟩ rfl rfl ⟨by decide, by decide⟩ ⟨by decide, by decide⟩ dX6_check_1 rfl (fun r1 w1 hB1 => ?_)
  obtain ⟨rfl, rfl⟩ := hB1
  refine z_perm [0, 1, 2, 3, 4, 5, 6, 7] [(x, zo 6 [.int (nI sz), .ref rr, .ref pa, .ref ck, .ref jb]), (ck, zo 0 [.ref ch, .ref cr, .int (nI rc)]), (ch, zi E 64 (zn hm)), (cr, zi E 576 (zn rr_)), (pa, zp E 4 (pf4 p0 p1 p2 p3)), (p0, zo 5 [.int (nI 0), .ref po0, .ref pn0, .int (nI len0)]), (po0, zi E 64 op0), (pn0, zi E 64 nn0)] (by decide) rfl ?_
  refine z_if_eqP 7 23 C0 dX6_check_4 rfl (by decide) (fun k4 => absurd k4 (by omega)) (fun k4 => ?_)
  refine z_aload_n 8 C0 0 dX6_check_7 rfl rfl rfl ?_
  refine z_get 11 C0 0 3 wz_6 rfl (by decide) (zTs_in wk_199) dX6_check_8 rfl rfl rfl ?_
  refine z_aload_n 12 C0 0 dX6_check_11 rfl rfl rfl ?_
  refine z_get 15 C0 0 2 wz_6 rfl (by decide) (zTs_in wk_198) dX6_check_12 rfl rfl rfl ?_
  refine z_iload_n 16 C0 1 dX6_check_15 rfl rfl rfl ?_
  refine z_aald 17 C0 4 1 dX6_check_16 rfl rfl rfl rfl (by omega) (by decide) (v := .ref p0) rfl ?_
  refine z_callVi 20 C0 [1, 2, 3, 5, 6, 7] [0, 4] [(x, zo 6 [.int (nI sz), .ref rr, .ref pa, .ref ck, .ref jb]), (pa, zp E 4 (pf4 p0 p1 p2 p3))] 0 0 (As := [.ref p0]) (T := TX0) (N := 3) (C := RX0) (ci := 0) (n := 1) 0 (fw l_ E ck ch cr hm rr_ rc p0 po0 pn0 0 op0 nn0 len0 (by decide) (hlen)) (zGIV (fun _ => zTs_in) wk_246 wk_243 wk_244 wk_245 wk_16) rfl ⟨rfl, by decide, by decide, by decide +kernel⟩ rfl rfl rfl rfl (by decide) rfl rfl (Nat.le_of_ble_eq_true rfl) ⟨by decide, by decide⟩ rfl rfl ⟨by decide, by decide⟩ ⟨by decide, by decide⟩ dX6_check_17 rfl (fun r17 w17 hB17 => ?_)
  obtain ⟨hm2_17, rr2_17, rc2_17, r2_17, ⟨hr17, rfl⟩, fF_17⟩ := hB17
  replace hr17 := hr17.symm
  subst hr17
  refine z_perm [0, 2, 3, 4, 1, 5, 6, 7] [(x, zo 6 [.int (nI sz), .ref rr, .ref pa, .ref ck, .ref jb]), (ck, zo 0 [.ref ch, .ref cr, .int (nI rc2_17)]), (ch, zi E 64 (zn hm2_17)), (cr, zi E 576 (zn rr2_17)), (pa, zp E 4 (pf4 p0 p1 p2 p3)), (p0, zo 5 [.int (nI 0), .ref po0, .ref pn0, .int (nI len0)]), (po0, zi E 64 op0), (pn0, zi E 64 nn0)] (by decide) rfl ?_
  refine z_goto 24 C0 dX6_check_20 (by decide) ?_
  exact z_iret C0 rfl dX6_check_24 ⟨hm2_17, rr2_17, rc2_17, r2_17, ⟨rfl, rfl⟩, (fF_17)⟩ (by decide) (by decide)

set_option maxHeartbeats 4000000 in
set_option maxRecDepth 100000 in
theorem check_1 (l_ : Launch) (E : zE) (x : Nat) (rr : Nat) (pa : Nat) (ck : Nat) (jb : Nat) (sz : Nat) (ch : Nat) (cr : Nat) (hm : Nat → Nat) (rr_ : Nat → Nat) (rc : Nat) (p0 : Nat) (p1 : Nat) (p2 : Nat) (p3 : Nat) (po1 : Nat) (pn1 : Nat) (op1 : Nat → Int32) (nn1 : Nat → Int32) (len1 : Nat) (hlen : len1 ≤ 64) : zMi l_ E yX6_check (zTs yX6_check cX6_check 2 (some .int)) ({ frames := 5, cells := 0, slots := 0, locals := 114 } : Room) [.ref x, .int (nI 1)] [(x, zo 6 [.int (nI sz), .ref rr, .ref pa, .ref ck, .ref jb]), (ck, zo 0 [.ref ch, .ref cr, .int (nI rc)]), (ch, zi E 64 (zn hm)), (cr, zi E 576 (zn rr_)), (pa, zp E 4 (pf4 p0 p1 p2 p3)), (p1, zo 5 [.int (nI 1), .ref po1, .ref pn1, .int (nI len1)]), (po1, zi E 64 op1), (pn1, zi E 64 nn1)] (fun r_ w_ => ∃ hm2 : Nat → Nat, ∃ rr2 : Nat → Nat, ∃ rc2 : Nat, ∃ r2 : Int32, (r_ = r2 ∧ w_ = [(x, zo 6 [.int (nI sz), .ref rr, .ref pa, .ref ck, .ref jb]), (ck, zo 0 [.ref ch, .ref cr, .int (nI rc2)]), (ch, zi E 64 (zn hm2)), (cr, zi E 576 (zn rr2)), (pa, zp E 4 (pf4 p0 p1 p2 p3)), (p1, zo 5 [.int (nI 1), .ref po1, .ref pn1, .int (nI len1)]), (po1, zi E 64 op1), (pn1, zi E 64 nn1)]) ∧ (chkR 1 op1 nn1 len1 r2)) 0 0 := by
  refine zMi.of (cc := cX6_check) (nL := 2) (ret := (some .int)) (by decide) rfl (Nat.le_of_ble_eq_true rfl) ?_
  intro p_ e_ s_ m_ args_ below_ meth_ c_ A_ C0 hin0
  have C0 : zC E p_ s_ m_ args_ meth_ c_ cX6_check 2 (some .int) RX6 (zTs yX6_check cX6_check 2 (some .int)) A_ := C0
  refine z_eqL (L1 := [(0, .ref x), (1, .int (nI 1))]) rfl ?_
  refine z_iload_n 1 C0 1 dX6_check_0 rfl rfl rfl ?_
  refine z_callSi 4 C0 [] [0, 1, 2, 3, 4, 5, 6, 7] [(x, zo 6 [.int (nI sz), .ref rr, .ref pa, .ref ck, .ref jb]), (ck, zo 0 [.ref ch, .ref cr, .int (nI rc)]), (ch, zi E 64 (zn hm)), (cr, zi E 576 (zn rr_)), (pa, zp E 4 (pf4 p0 p1 p2 p3)), (p1, zo 5 [.int (nI 1), .ref po1, .ref pn1, .int (nI len1)]), (po1, zi E 64 op1), (pn1, zi E 64 nn1)] 0 0 (As := [.int (nI 1)]) (n := 1) (isProg_n l_ E 1 (by decide)) (zGIS (fun _ => zTs_in) wk_230 wk_228 wk_229 wk_12) rfl ⟨by decide, by decide, by decide +kernel⟩ rfl rfl (by decide) rfl rfl (Nat.le_of_ble_eq_true rfl) ⟨by decide, by decide⟩ rfl rfl ⟨by decide, by decide⟩ ⟨by decide, by decide⟩ dX6_check_1 rfl (fun r1 w1 hB1 => ?_)
  obtain ⟨rfl, rfl⟩ := hB1
  refine z_perm [0, 1, 2, 3, 4, 5, 6, 7] [(x, zo 6 [.int (nI sz), .ref rr, .ref pa, .ref ck, .ref jb]), (ck, zo 0 [.ref ch, .ref cr, .int (nI rc)]), (ch, zi E 64 (zn hm)), (cr, zi E 576 (zn rr_)), (pa, zp E 4 (pf4 p0 p1 p2 p3)), (p1, zo 5 [.int (nI 1), .ref po1, .ref pn1, .int (nI len1)]), (po1, zi E 64 op1), (pn1, zi E 64 nn1)] (by decide) rfl ?_
  refine z_if_eqP 7 23 C0 dX6_check_4 rfl (by decide) (fun k4 => absurd k4 (by omega)) (fun k4 => ?_)
  refine z_aload_n 8 C0 0 dX6_check_7 rfl rfl rfl ?_
  refine z_get 11 C0 0 3 wz_6 rfl (by decide) (zTs_in wk_199) dX6_check_8 rfl rfl rfl ?_
  refine z_aload_n 12 C0 0 dX6_check_11 rfl rfl rfl ?_
  refine z_get 15 C0 0 2 wz_6 rfl (by decide) (zTs_in wk_198) dX6_check_12 rfl rfl rfl ?_
  refine z_iload_n 16 C0 1 dX6_check_15 rfl rfl rfl ?_
  refine z_aald 17 C0 4 1 dX6_check_16 rfl rfl rfl rfl (by omega) (by decide) (v := .ref p1) rfl ?_
  refine z_callVi 20 C0 [1, 2, 3, 5, 6, 7] [0, 4] [(x, zo 6 [.int (nI sz), .ref rr, .ref pa, .ref ck, .ref jb]), (pa, zp E 4 (pf4 p0 p1 p2 p3))] 0 0 (As := [.ref p1]) (T := TX0) (N := 3) (C := RX0) (ci := 0) (n := 1) 0 (fw l_ E ck ch cr hm rr_ rc p1 po1 pn1 1 op1 nn1 len1 (by decide) (hlen)) (zGIV (fun _ => zTs_in) wk_246 wk_243 wk_244 wk_245 wk_16) rfl ⟨rfl, by decide, by decide, by decide +kernel⟩ rfl rfl rfl rfl (by decide) rfl rfl (Nat.le_of_ble_eq_true rfl) ⟨by decide, by decide⟩ rfl rfl ⟨by decide, by decide⟩ ⟨by decide, by decide⟩ dX6_check_17 rfl (fun r17 w17 hB17 => ?_)
  obtain ⟨hm2_17, rr2_17, rc2_17, r2_17, ⟨hr17, rfl⟩, fF_17⟩ := hB17
  replace hr17 := hr17.symm
  subst hr17
  refine z_perm [0, 2, 3, 4, 1, 5, 6, 7] [(x, zo 6 [.int (nI sz), .ref rr, .ref pa, .ref ck, .ref jb]), (ck, zo 0 [.ref ch, .ref cr, .int (nI rc2_17)]), (ch, zi E 64 (zn hm2_17)), (cr, zi E 576 (zn rr2_17)), (pa, zp E 4 (pf4 p0 p1 p2 p3)), (p1, zo 5 [.int (nI 1), .ref po1, .ref pn1, .int (nI len1)]), (po1, zi E 64 op1), (pn1, zi E 64 nn1)] (by decide) rfl ?_
  refine z_goto 24 C0 dX6_check_20 (by decide) ?_
  exact z_iret C0 rfl dX6_check_24 ⟨hm2_17, rr2_17, rc2_17, r2_17, ⟨rfl, rfl⟩, (fF_17)⟩ (by decide) (by decide)

set_option maxHeartbeats 4000000 in
set_option maxRecDepth 100000 in
theorem check_2 (l_ : Launch) (E : zE) (x : Nat) (rr : Nat) (pa : Nat) (ck : Nat) (jb : Nat) (sz : Nat) (ch : Nat) (cr : Nat) (hm : Nat → Nat) (rr_ : Nat → Nat) (rc : Nat) (p0 : Nat) (p1 : Nat) (p2 : Nat) (p3 : Nat) (po2 : Nat) (pn2 : Nat) (op2 : Nat → Int32) (nn2 : Nat → Int32) (len2 : Nat) (hlen : len2 ≤ 64) : zMi l_ E yX6_check (zTs yX6_check cX6_check 2 (some .int)) ({ frames := 5, cells := 0, slots := 0, locals := 114 } : Room) [.ref x, .int (nI 2)] [(x, zo 6 [.int (nI sz), .ref rr, .ref pa, .ref ck, .ref jb]), (ck, zo 0 [.ref ch, .ref cr, .int (nI rc)]), (ch, zi E 64 (zn hm)), (cr, zi E 576 (zn rr_)), (pa, zp E 4 (pf4 p0 p1 p2 p3)), (p2, zo 5 [.int (nI 2), .ref po2, .ref pn2, .int (nI len2)]), (po2, zi E 64 op2), (pn2, zi E 64 nn2)] (fun r_ w_ => ∃ hm2 : Nat → Nat, ∃ rr2 : Nat → Nat, ∃ rc2 : Nat, ∃ r2 : Int32, (r_ = r2 ∧ w_ = [(x, zo 6 [.int (nI sz), .ref rr, .ref pa, .ref ck, .ref jb]), (ck, zo 0 [.ref ch, .ref cr, .int (nI rc2)]), (ch, zi E 64 (zn hm2)), (cr, zi E 576 (zn rr2)), (pa, zp E 4 (pf4 p0 p1 p2 p3)), (p2, zo 5 [.int (nI 2), .ref po2, .ref pn2, .int (nI len2)]), (po2, zi E 64 op2), (pn2, zi E 64 nn2)]) ∧ (chkR 2 op2 nn2 len2 r2)) 0 0 := by
  refine zMi.of (cc := cX6_check) (nL := 2) (ret := (some .int)) (by decide) rfl (Nat.le_of_ble_eq_true rfl) ?_
  intro p_ e_ s_ m_ args_ below_ meth_ c_ A_ C0 hin0
  have C0 : zC E p_ s_ m_ args_ meth_ c_ cX6_check 2 (some .int) RX6 (zTs yX6_check cX6_check 2 (some .int)) A_ := C0
  refine z_eqL (L1 := [(0, .ref x), (1, .int (nI 2))]) rfl ?_
  refine z_iload_n 1 C0 1 dX6_check_0 rfl rfl rfl ?_
  refine z_callSi 4 C0 [] [0, 1, 2, 3, 4, 5, 6, 7] [(x, zo 6 [.int (nI sz), .ref rr, .ref pa, .ref ck, .ref jb]), (ck, zo 0 [.ref ch, .ref cr, .int (nI rc)]), (ch, zi E 64 (zn hm)), (cr, zi E 576 (zn rr_)), (pa, zp E 4 (pf4 p0 p1 p2 p3)), (p2, zo 5 [.int (nI 2), .ref po2, .ref pn2, .int (nI len2)]), (po2, zi E 64 op2), (pn2, zi E 64 nn2)] 0 0 (As := [.int (nI 2)]) (n := 1) (isProg_n l_ E 2 (by decide)) (zGIS (fun _ => zTs_in) wk_230 wk_228 wk_229 wk_12) rfl ⟨by decide, by decide, by decide +kernel⟩ rfl rfl (by decide) rfl rfl (Nat.le_of_ble_eq_true rfl) ⟨by decide, by decide⟩ rfl rfl ⟨by decide, by decide⟩ ⟨by decide, by decide⟩ dX6_check_1 rfl (fun r1 w1 hB1 => ?_)
  obtain ⟨rfl, rfl⟩ := hB1
  refine z_perm [0, 1, 2, 3, 4, 5, 6, 7] [(x, zo 6 [.int (nI sz), .ref rr, .ref pa, .ref ck, .ref jb]), (ck, zo 0 [.ref ch, .ref cr, .int (nI rc)]), (ch, zi E 64 (zn hm)), (cr, zi E 576 (zn rr_)), (pa, zp E 4 (pf4 p0 p1 p2 p3)), (p2, zo 5 [.int (nI 2), .ref po2, .ref pn2, .int (nI len2)]), (po2, zi E 64 op2), (pn2, zi E 64 nn2)] (by decide) rfl ?_
  refine z_if_eqP 7 23 C0 dX6_check_4 rfl (by decide) (fun k4 => absurd k4 (by omega)) (fun k4 => ?_)
  refine z_aload_n 8 C0 0 dX6_check_7 rfl rfl rfl ?_
  refine z_get 11 C0 0 3 wz_6 rfl (by decide) (zTs_in wk_199) dX6_check_8 rfl rfl rfl ?_
  refine z_aload_n 12 C0 0 dX6_check_11 rfl rfl rfl ?_
  refine z_get 15 C0 0 2 wz_6 rfl (by decide) (zTs_in wk_198) dX6_check_12 rfl rfl rfl ?_
  refine z_iload_n 16 C0 1 dX6_check_15 rfl rfl rfl ?_
  refine z_aald 17 C0 4 1 dX6_check_16 rfl rfl rfl rfl (by omega) (by decide) (v := .ref p2) rfl ?_
  refine z_callVi 20 C0 [1, 2, 3, 5, 6, 7] [0, 4] [(x, zo 6 [.int (nI sz), .ref rr, .ref pa, .ref ck, .ref jb]), (pa, zp E 4 (pf4 p0 p1 p2 p3))] 0 0 (As := [.ref p2]) (T := TX0) (N := 3) (C := RX0) (ci := 0) (n := 1) 0 (fw l_ E ck ch cr hm rr_ rc p2 po2 pn2 2 op2 nn2 len2 (by decide) (hlen)) (zGIV (fun _ => zTs_in) wk_246 wk_243 wk_244 wk_245 wk_16) rfl ⟨rfl, by decide, by decide, by decide +kernel⟩ rfl rfl rfl rfl (by decide) rfl rfl (Nat.le_of_ble_eq_true rfl) ⟨by decide, by decide⟩ rfl rfl ⟨by decide, by decide⟩ ⟨by decide, by decide⟩ dX6_check_17 rfl (fun r17 w17 hB17 => ?_)
  obtain ⟨hm2_17, rr2_17, rc2_17, r2_17, ⟨hr17, rfl⟩, fF_17⟩ := hB17
  replace hr17 := hr17.symm
  subst hr17
  refine z_perm [0, 2, 3, 4, 1, 5, 6, 7] [(x, zo 6 [.int (nI sz), .ref rr, .ref pa, .ref ck, .ref jb]), (ck, zo 0 [.ref ch, .ref cr, .int (nI rc2_17)]), (ch, zi E 64 (zn hm2_17)), (cr, zi E 576 (zn rr2_17)), (pa, zp E 4 (pf4 p0 p1 p2 p3)), (p2, zo 5 [.int (nI 2), .ref po2, .ref pn2, .int (nI len2)]), (po2, zi E 64 op2), (pn2, zi E 64 nn2)] (by decide) rfl ?_
  refine z_goto 24 C0 dX6_check_20 (by decide) ?_
  exact z_iret C0 rfl dX6_check_24 ⟨hm2_17, rr2_17, rc2_17, r2_17, ⟨rfl, rfl⟩, (fF_17)⟩ (by decide) (by decide)

set_option maxHeartbeats 4000000 in
set_option maxRecDepth 100000 in
theorem check_3 (l_ : Launch) (E : zE) (x : Nat) (rr : Nat) (pa : Nat) (ck : Nat) (jb : Nat) (sz : Nat) (ch : Nat) (cr : Nat) (hm : Nat → Nat) (rr_ : Nat → Nat) (rc : Nat) (p0 : Nat) (p1 : Nat) (p2 : Nat) (p3 : Nat) (po3 : Nat) (pn3 : Nat) (op3 : Nat → Int32) (nn3 : Nat → Int32) (len3 : Nat) (hlen : len3 ≤ 64) : zMi l_ E yX6_check (zTs yX6_check cX6_check 2 (some .int)) ({ frames := 5, cells := 0, slots := 0, locals := 114 } : Room) [.ref x, .int (nI 3)] [(x, zo 6 [.int (nI sz), .ref rr, .ref pa, .ref ck, .ref jb]), (ck, zo 0 [.ref ch, .ref cr, .int (nI rc)]), (ch, zi E 64 (zn hm)), (cr, zi E 576 (zn rr_)), (pa, zp E 4 (pf4 p0 p1 p2 p3)), (p3, zo 5 [.int (nI 3), .ref po3, .ref pn3, .int (nI len3)]), (po3, zi E 64 op3), (pn3, zi E 64 nn3)] (fun r_ w_ => ∃ hm2 : Nat → Nat, ∃ rr2 : Nat → Nat, ∃ rc2 : Nat, ∃ r2 : Int32, (r_ = r2 ∧ w_ = [(x, zo 6 [.int (nI sz), .ref rr, .ref pa, .ref ck, .ref jb]), (ck, zo 0 [.ref ch, .ref cr, .int (nI rc2)]), (ch, zi E 64 (zn hm2)), (cr, zi E 576 (zn rr2)), (pa, zp E 4 (pf4 p0 p1 p2 p3)), (p3, zo 5 [.int (nI 3), .ref po3, .ref pn3, .int (nI len3)]), (po3, zi E 64 op3), (pn3, zi E 64 nn3)]) ∧ (chkR 3 op3 nn3 len3 r2)) 0 0 := by
  refine zMi.of (cc := cX6_check) (nL := 2) (ret := (some .int)) (by decide) rfl (Nat.le_of_ble_eq_true rfl) ?_
  intro p_ e_ s_ m_ args_ below_ meth_ c_ A_ C0 hin0
  have C0 : zC E p_ s_ m_ args_ meth_ c_ cX6_check 2 (some .int) RX6 (zTs yX6_check cX6_check 2 (some .int)) A_ := C0
  refine z_eqL (L1 := [(0, .ref x), (1, .int (nI 3))]) rfl ?_
  refine z_iload_n 1 C0 1 dX6_check_0 rfl rfl rfl ?_
  refine z_callSi 4 C0 [] [0, 1, 2, 3, 4, 5, 6, 7] [(x, zo 6 [.int (nI sz), .ref rr, .ref pa, .ref ck, .ref jb]), (ck, zo 0 [.ref ch, .ref cr, .int (nI rc)]), (ch, zi E 64 (zn hm)), (cr, zi E 576 (zn rr_)), (pa, zp E 4 (pf4 p0 p1 p2 p3)), (p3, zo 5 [.int (nI 3), .ref po3, .ref pn3, .int (nI len3)]), (po3, zi E 64 op3), (pn3, zi E 64 nn3)] 0 0 (As := [.int (nI 3)]) (n := 1) (isProg_n l_ E 3 (by decide)) (zGIS (fun _ => zTs_in) wk_230 wk_228 wk_229 wk_12) rfl ⟨by decide, by decide, by decide +kernel⟩ rfl rfl (by decide) rfl rfl (Nat.le_of_ble_eq_true rfl) ⟨by decide, by decide⟩ rfl rfl ⟨by decide, by decide⟩ ⟨by decide, by decide⟩ dX6_check_1 rfl (fun r1 w1 hB1 => ?_)
  obtain ⟨rfl, rfl⟩ := hB1
  refine z_perm [0, 1, 2, 3, 4, 5, 6, 7] [(x, zo 6 [.int (nI sz), .ref rr, .ref pa, .ref ck, .ref jb]), (ck, zo 0 [.ref ch, .ref cr, .int (nI rc)]), (ch, zi E 64 (zn hm)), (cr, zi E 576 (zn rr_)), (pa, zp E 4 (pf4 p0 p1 p2 p3)), (p3, zo 5 [.int (nI 3), .ref po3, .ref pn3, .int (nI len3)]), (po3, zi E 64 op3), (pn3, zi E 64 nn3)] (by decide) rfl ?_
  refine z_if_eqP 7 23 C0 dX6_check_4 rfl (by decide) (fun k4 => absurd k4 (by omega)) (fun k4 => ?_)
  refine z_aload_n 8 C0 0 dX6_check_7 rfl rfl rfl ?_
  refine z_get 11 C0 0 3 wz_6 rfl (by decide) (zTs_in wk_199) dX6_check_8 rfl rfl rfl ?_
  refine z_aload_n 12 C0 0 dX6_check_11 rfl rfl rfl ?_
  refine z_get 15 C0 0 2 wz_6 rfl (by decide) (zTs_in wk_198) dX6_check_12 rfl rfl rfl ?_
  refine z_iload_n 16 C0 1 dX6_check_15 rfl rfl rfl ?_
  refine z_aald 17 C0 4 1 dX6_check_16 rfl rfl rfl rfl (by omega) (by decide) (v := .ref p3) rfl ?_
  refine z_callVi 20 C0 [1, 2, 3, 5, 6, 7] [0, 4] [(x, zo 6 [.int (nI sz), .ref rr, .ref pa, .ref ck, .ref jb]), (pa, zp E 4 (pf4 p0 p1 p2 p3))] 0 0 (As := [.ref p3]) (T := TX0) (N := 3) (C := RX0) (ci := 0) (n := 1) 0 (fw l_ E ck ch cr hm rr_ rc p3 po3 pn3 3 op3 nn3 len3 (by decide) (hlen)) (zGIV (fun _ => zTs_in) wk_246 wk_243 wk_244 wk_245 wk_16) rfl ⟨rfl, by decide, by decide, by decide +kernel⟩ rfl rfl rfl rfl (by decide) rfl rfl (Nat.le_of_ble_eq_true rfl) ⟨by decide, by decide⟩ rfl rfl ⟨by decide, by decide⟩ ⟨by decide, by decide⟩ dX6_check_17 rfl (fun r17 w17 hB17 => ?_)
  obtain ⟨hm2_17, rr2_17, rc2_17, r2_17, ⟨hr17, rfl⟩, fF_17⟩ := hB17
  replace hr17 := hr17.symm
  subst hr17
  refine z_perm [0, 2, 3, 4, 1, 5, 6, 7] [(x, zo 6 [.int (nI sz), .ref rr, .ref pa, .ref ck, .ref jb]), (ck, zo 0 [.ref ch, .ref cr, .int (nI rc2_17)]), (ch, zi E 64 (zn hm2_17)), (cr, zi E 576 (zn rr2_17)), (pa, zp E 4 (pf4 p0 p1 p2 p3)), (p3, zo 5 [.int (nI 3), .ref po3, .ref pn3, .int (nI len3)]), (po3, zi E 64 op3), (pn3, zi E 64 nn3)] (by decide) rfl ?_
  refine z_goto 24 C0 dX6_check_20 (by decide) ?_
  exact z_iret C0 rfl dX6_check_24 ⟨hm2_17, rr2_17, rc2_17, r2_17, ⟨rfl, rfl⟩, (fF_17)⟩ (by decide) (by decide)

set_option maxHeartbeats 4000000 in
set_option maxRecDepth 100000 in
theorem isGood_0 (l_ : Launch) (E : zE) (x : Nat) (rr : Nat) (pa : Nat) (ck : Nat) (jb : Nat) (sz : Nat) (ch : Nat) (cr : Nat) (hm : Nat → Nat) (rr_ : Nat → Nat) (rc : Nat) (p0 : Nat) (p1 : Nat) (p2 : Nat) (p3 : Nat) (po0 : Nat) (pn0 : Nat) (op0 : Nat → Int32) (nn0 : Nat → Int32) (len0 : Nat) (hlen : len0 ≤ 64) : zMi l_ E yX6_isGood (zTs yX6_isGood cX6_isGood 2 (some .boolean)) ({ frames := 5, cells := 0, slots := 0, locals := 114 } : Room) [.ref x, .int (nI 0)] [(x, zo 6 [.int (nI sz), .ref rr, .ref pa, .ref ck, .ref jb]), (ck, zo 0 [.ref ch, .ref cr, .int (nI rc)]), (ch, zi E 64 (zn hm)), (cr, zi E 576 (zn rr_)), (pa, zp E 4 (pf4 p0 p1 p2 p3)), (p0, zo 5 [.int (nI 0), .ref po0, .ref pn0, .int (nI len0)]), (po0, zi E 64 op0), (pn0, zi E 64 nn0)] (fun r_ w_ => ∃ hm2 : Nat → Nat, ∃ rr2 : Nat → Nat, ∃ rc2 : Nat, (r_ = (zb (Good 0 op0 nn0 len0)) ∧ w_ = [(x, zo 6 [.int (nI sz), .ref rr, .ref pa, .ref ck, .ref jb]), (ck, zo 0 [.ref ch, .ref cr, .int (nI rc2)]), (ch, zi E 64 (zn hm2)), (cr, zi E 576 (zn rr2)), (pa, zp E 4 (pf4 p0 p1 p2 p3)), (p0, zo 5 [.int (nI 0), .ref po0, .ref pn0, .int (nI len0)]), (po0, zi E 64 op0), (pn0, zi E 64 nn0)])) 0 0 := by
  refine zMi.of (cc := cX6_isGood) (nL := 2) (ret := (some .boolean)) (by decide) rfl (Nat.le_of_ble_eq_true rfl) ?_
  intro p_ e_ s_ m_ args_ below_ meth_ c_ A_ C0 hin0
  have C0 : zC E p_ s_ m_ args_ meth_ c_ cX6_isGood 2 (some .boolean) RX6 (zTs yX6_isGood cX6_isGood 2 (some .boolean)) A_ := C0
  refine z_eqL (L1 := [(0, .ref x), (1, .int (nI 0))]) rfl ?_
  refine z_aload_n 1 C0 0 dX6_isGood_0 rfl rfl rfl ?_
  refine z_get 4 C0 0 3 wz_6 rfl (by decide) (zTs_in wk_199) dX6_isGood_1 rfl rfl rfl ?_
  refine z_aload_n 5 C0 0 dX6_isGood_4 rfl rfl rfl ?_
  refine z_get 8 C0 0 2 wz_6 rfl (by decide) (zTs_in wk_198) dX6_isGood_5 rfl rfl rfl ?_
  refine z_iload_n 9 C0 1 dX6_isGood_8 rfl rfl rfl ?_
  refine z_aald 10 C0 4 1 dX6_isGood_9 rfl rfl rfl rfl (by omega) (by decide) (v := .ref p0) rfl ?_
  refine z_callVi 13 C0 [1, 2, 3, 5, 6, 7] [0, 4] [(x, zo 6 [.int (nI sz), .ref rr, .ref pa, .ref ck, .ref jb]), (pa, zp E 4 (pf4 p0 p1 p2 p3))] 0 0 (As := [.ref p0]) (T := TX0) (N := 3) (C := RX0) (ci := 0) (n := 1) 0 (fw l_ E ck ch cr hm rr_ rc p0 po0 pn0 0 op0 nn0 len0 (by decide) (hlen)) (zGIV (fun _ => zTs_in) wk_246 wk_243 wk_244 wk_245 wk_16) rfl ⟨rfl, by decide, by decide, by decide +kernel⟩ rfl rfl rfl rfl (by decide) rfl rfl (Nat.le_of_ble_eq_true rfl) ⟨by decide, by decide⟩ rfl rfl ⟨by decide, by decide⟩ ⟨by decide, by decide⟩ dX6_isGood_10 rfl (fun r10 w10 hB10 => ?_)
  obtain ⟨hm2_10, rr2_10, rc2_10, r2_10, ⟨hr10, rfl⟩, fF_10⟩ := hB10
  replace hr10 := hr10.symm
  subst hr10
  refine z_perm [0, 2, 3, 4, 1, 5, 6, 7] [(x, zo 6 [.int (nI sz), .ref rr, .ref pa, .ref ck, .ref jb]), (ck, zo 0 [.ref ch, .ref cr, .int (nI rc2_10)]), (ch, zi E 64 (zn hm2_10)), (cr, zi E 576 (zn rr2_10)), (pa, zp E 4 (pf4 p0 p1 p2 p3)), (p0, zo 5 [.int (nI 0), .ref po0, .ref pn0, .int (nI len0)]), (po0, zi E 64 op0), (pn0, zi E 64 nn0)] (by decide) rfl ?_
  refine z_bipush 15 C0 (v := (-2)) dX6_isGood_13 rfl (by decide) ?_
  refine z_icmp_ne 18 22 C0 dX6_isGood_15 rfl (by decide) (fun k15 => ?_) (fun k15 => ?_)
  · skip
    refine z_iconst 23 C0 (v := (nI 0)) dX6_isGood_22 rfl rfl ?_
    exact z_zret C0 rfl rfl dX6_isGood_23 ⟨hm2_10, rr2_10, rc2_10, ⟨(zb_fN (fun q => k15 ((chk_good fF_10 hlen).mpr q))), rfl⟩⟩ (by decide) (by decide)
  · skip
    refine z_iconst 19 C0 (v := (nI 1)) dX6_isGood_18 rfl rfl ?_
    refine z_goto 23 C0 dX6_isGood_19 (by decide) ?_
    exact z_zret C0 rfl rfl dX6_isGood_23 ⟨hm2_10, rr2_10, rc2_10, ⟨(zb_tN ((chk_good fF_10 hlen).mp k15)), rfl⟩⟩ (by decide) (by decide)

set_option maxHeartbeats 4000000 in
set_option maxRecDepth 100000 in
theorem isGood_2 (l_ : Launch) (E : zE) (x : Nat) (rr : Nat) (pa : Nat) (ck : Nat) (jb : Nat) (sz : Nat) (ch : Nat) (cr : Nat) (hm : Nat → Nat) (rr_ : Nat → Nat) (rc : Nat) (p0 : Nat) (p1 : Nat) (p2 : Nat) (p3 : Nat) (po2 : Nat) (pn2 : Nat) (op2 : Nat → Int32) (nn2 : Nat → Int32) (len2 : Nat) (hlen : len2 ≤ 64) : zMi l_ E yX6_isGood (zTs yX6_isGood cX6_isGood 2 (some .boolean)) ({ frames := 5, cells := 0, slots := 0, locals := 114 } : Room) [.ref x, .int (nI 2)] [(x, zo 6 [.int (nI sz), .ref rr, .ref pa, .ref ck, .ref jb]), (ck, zo 0 [.ref ch, .ref cr, .int (nI rc)]), (ch, zi E 64 (zn hm)), (cr, zi E 576 (zn rr_)), (pa, zp E 4 (pf4 p0 p1 p2 p3)), (p2, zo 5 [.int (nI 2), .ref po2, .ref pn2, .int (nI len2)]), (po2, zi E 64 op2), (pn2, zi E 64 nn2)] (fun r_ w_ => ∃ hm2 : Nat → Nat, ∃ rr2 : Nat → Nat, ∃ rc2 : Nat, (r_ = (zb (Good 2 op2 nn2 len2)) ∧ w_ = [(x, zo 6 [.int (nI sz), .ref rr, .ref pa, .ref ck, .ref jb]), (ck, zo 0 [.ref ch, .ref cr, .int (nI rc2)]), (ch, zi E 64 (zn hm2)), (cr, zi E 576 (zn rr2)), (pa, zp E 4 (pf4 p0 p1 p2 p3)), (p2, zo 5 [.int (nI 2), .ref po2, .ref pn2, .int (nI len2)]), (po2, zi E 64 op2), (pn2, zi E 64 nn2)])) 0 0 := by
  refine zMi.of (cc := cX6_isGood) (nL := 2) (ret := (some .boolean)) (by decide) rfl (Nat.le_of_ble_eq_true rfl) ?_
  intro p_ e_ s_ m_ args_ below_ meth_ c_ A_ C0 hin0
  have C0 : zC E p_ s_ m_ args_ meth_ c_ cX6_isGood 2 (some .boolean) RX6 (zTs yX6_isGood cX6_isGood 2 (some .boolean)) A_ := C0
  refine z_eqL (L1 := [(0, .ref x), (1, .int (nI 2))]) rfl ?_
  refine z_aload_n 1 C0 0 dX6_isGood_0 rfl rfl rfl ?_
  refine z_get 4 C0 0 3 wz_6 rfl (by decide) (zTs_in wk_199) dX6_isGood_1 rfl rfl rfl ?_
  refine z_aload_n 5 C0 0 dX6_isGood_4 rfl rfl rfl ?_
  refine z_get 8 C0 0 2 wz_6 rfl (by decide) (zTs_in wk_198) dX6_isGood_5 rfl rfl rfl ?_
  refine z_iload_n 9 C0 1 dX6_isGood_8 rfl rfl rfl ?_
  refine z_aald 10 C0 4 1 dX6_isGood_9 rfl rfl rfl rfl (by omega) (by decide) (v := .ref p2) rfl ?_
  refine z_callVi 13 C0 [1, 2, 3, 5, 6, 7] [0, 4] [(x, zo 6 [.int (nI sz), .ref rr, .ref pa, .ref ck, .ref jb]), (pa, zp E 4 (pf4 p0 p1 p2 p3))] 0 0 (As := [.ref p2]) (T := TX0) (N := 3) (C := RX0) (ci := 0) (n := 1) 0 (fw l_ E ck ch cr hm rr_ rc p2 po2 pn2 2 op2 nn2 len2 (by decide) (hlen)) (zGIV (fun _ => zTs_in) wk_246 wk_243 wk_244 wk_245 wk_16) rfl ⟨rfl, by decide, by decide, by decide +kernel⟩ rfl rfl rfl rfl (by decide) rfl rfl (Nat.le_of_ble_eq_true rfl) ⟨by decide, by decide⟩ rfl rfl ⟨by decide, by decide⟩ ⟨by decide, by decide⟩ dX6_isGood_10 rfl (fun r10 w10 hB10 => ?_)
  obtain ⟨hm2_10, rr2_10, rc2_10, r2_10, ⟨hr10, rfl⟩, fF_10⟩ := hB10
  replace hr10 := hr10.symm
  subst hr10
  refine z_perm [0, 2, 3, 4, 1, 5, 6, 7] [(x, zo 6 [.int (nI sz), .ref rr, .ref pa, .ref ck, .ref jb]), (ck, zo 0 [.ref ch, .ref cr, .int (nI rc2_10)]), (ch, zi E 64 (zn hm2_10)), (cr, zi E 576 (zn rr2_10)), (pa, zp E 4 (pf4 p0 p1 p2 p3)), (p2, zo 5 [.int (nI 2), .ref po2, .ref pn2, .int (nI len2)]), (po2, zi E 64 op2), (pn2, zi E 64 nn2)] (by decide) rfl ?_
  refine z_bipush 15 C0 (v := (-2)) dX6_isGood_13 rfl (by decide) ?_
  refine z_icmp_ne 18 22 C0 dX6_isGood_15 rfl (by decide) (fun k15 => ?_) (fun k15 => ?_)
  · skip
    refine z_iconst 23 C0 (v := (nI 0)) dX6_isGood_22 rfl rfl ?_
    exact z_zret C0 rfl rfl dX6_isGood_23 ⟨hm2_10, rr2_10, rc2_10, ⟨(zb_fN (fun q => k15 ((chk_good fF_10 hlen).mpr q))), rfl⟩⟩ (by decide) (by decide)
  · skip
    refine z_iconst 19 C0 (v := (nI 1)) dX6_isGood_18 rfl rfl ?_
    refine z_goto 23 C0 dX6_isGood_19 (by decide) ?_
    exact z_zret C0 rfl rfl dX6_isGood_23 ⟨hm2_10, rr2_10, rc2_10, ⟨(zb_tN ((chk_good fF_10 hlen).mp k15)), rfl⟩⟩ (by decide) (by decide)

set_option maxHeartbeats 4000000 in
set_option maxRecDepth 100000 in
theorem isGoodE_1 (l_ : Launch) (E : zE) (x : Nat) (rr : Nat) (pa : Nat) (ck : Nat) (jb : Nat) (sz : Nat) (ch : Nat) (cr : Nat) (hm : Nat → Nat) (rr_ : Nat → Nat) (rc : Nat) (p0 : Nat) (p1 : Nat) (p2 : Nat) (p3 : Nat) (po1 : Nat) (pn1 : Nat) (op1 : Nat → Int32) (nn1 : Nat → Int32) (len1 : Nat) (hlen : len1 ≤ 64) : zMi l_ E yX6_isGoodOrEmpty (zTs yX6_isGoodOrEmpty cX6_isGoodOrEmpty 3 (some .boolean)) ({ frames := 5, cells := 0, slots := 0, locals := 114 } : Room) [.ref x, .int (nI 1)] [(x, zo 6 [.int (nI sz), .ref rr, .ref pa, .ref ck, .ref jb]), (ck, zo 0 [.ref ch, .ref cr, .int (nI rc)]), (ch, zi E 64 (zn hm)), (cr, zi E 576 (zn rr_)), (pa, zp E 4 (pf4 p0 p1 p2 p3)), (p1, zo 5 [.int (nI 1), .ref po1, .ref pn1, .int (nI len1)]), (po1, zi E 64 op1), (pn1, zi E 64 nn1)] (fun r_ w_ => ∃ hm2 : Nat → Nat, ∃ rr2 : Nat → Nat, ∃ rc2 : Nat, (r_ = (zb (len1 = 0 ∨ Good 1 op1 nn1 len1)) ∧ w_ = [(x, zo 6 [.int (nI sz), .ref rr, .ref pa, .ref ck, .ref jb]), (ck, zo 0 [.ref ch, .ref cr, .int (nI rc2)]), (ch, zi E 64 (zn hm2)), (cr, zi E 576 (zn rr2)), (pa, zp E 4 (pf4 p0 p1 p2 p3)), (p1, zo 5 [.int (nI 1), .ref po1, .ref pn1, .int (nI len1)]), (po1, zi E 64 op1), (pn1, zi E 64 nn1)])) 0 0 := by
  refine zMi.of (cc := cX6_isGoodOrEmpty) (nL := 3) (ret := (some .boolean)) (by decide) rfl (Nat.le_of_ble_eq_true rfl) ?_
  intro p_ e_ s_ m_ args_ below_ meth_ c_ A_ C0 hin0
  have C0 : zC E p_ s_ m_ args_ meth_ c_ cX6_isGoodOrEmpty 3 (some .boolean) RX6 (zTs yX6_isGoodOrEmpty cX6_isGoodOrEmpty 3 (some .boolean)) A_ := C0
  refine z_eqL (L1 := [(0, .ref x), (1, .int (nI 1))]) rfl ?_
  refine z_aload_n 1 C0 0 dX6_isGoodOrEmpty_0 rfl rfl rfl ?_
  refine z_get 4 C0 0 3 wz_6 rfl (by decide) (zTs_in wk_199) dX6_isGoodOrEmpty_1 rfl rfl rfl ?_
  refine z_aload_n 5 C0 0 dX6_isGoodOrEmpty_4 rfl rfl rfl ?_
  refine z_get 8 C0 0 2 wz_6 rfl (by decide) (zTs_in wk_198) dX6_isGoodOrEmpty_5 rfl rfl rfl ?_
  refine z_iload_n 9 C0 1 dX6_isGoodOrEmpty_8 rfl rfl rfl ?_
  refine z_aald 10 C0 4 1 dX6_isGoodOrEmpty_9 rfl rfl rfl rfl (by omega) (by decide) (v := .ref p1) rfl ?_
  refine z_callVi 13 C0 [1, 2, 3, 5, 6, 7] [0, 4] [(x, zo 6 [.int (nI sz), .ref rr, .ref pa, .ref ck, .ref jb]), (pa, zp E 4 (pf4 p0 p1 p2 p3))] 0 0 (As := [.ref p1]) (T := TX0) (N := 3) (C := RX0) (ci := 0) (n := 1) 0 (fw l_ E ck ch cr hm rr_ rc p1 po1 pn1 1 op1 nn1 len1 (by decide) (hlen)) (zGIV (fun _ => zTs_in) wk_246 wk_243 wk_244 wk_245 wk_16) rfl ⟨rfl, by decide, by decide, by decide +kernel⟩ rfl rfl rfl rfl (by decide) rfl rfl (Nat.le_of_ble_eq_true rfl) ⟨by decide, by decide⟩ rfl rfl ⟨by decide, by decide⟩ ⟨by decide, by decide⟩ dX6_isGoodOrEmpty_10 rfl (fun r10 w10 hB10 => ?_)
  obtain ⟨hm2_10, rr2_10, rc2_10, r2_10, ⟨hr10, rfl⟩, fF_10⟩ := hB10
  replace hr10 := hr10.symm
  subst hr10
  refine z_perm [0, 2, 3, 4, 1, 5, 6, 7] [(x, zo 6 [.int (nI sz), .ref rr, .ref pa, .ref ck, .ref jb]), (ck, zo 0 [.ref ch, .ref cr, .int (nI rc2_10)]), (ch, zi E 64 (zn hm2_10)), (cr, zi E 576 (zn rr2_10)), (pa, zp E 4 (pf4 p0 p1 p2 p3)), (p1, zo 5 [.int (nI 1), .ref po1, .ref pn1, .int (nI len1)]), (po1, zi E 64 op1), (pn1, zi E 64 nn1)] (by decide) rfl ?_
  refine z_istore_n 14 C0 [1, 2, 0] [(0, .ref x), (1, .int (nI 1)), (2, .int r2_10)] dX6_isGoodOrEmpty_13 rfl rfl (by decide) rfl ?_
  refine z_iload_n 15 C0 2 dX6_isGoodOrEmpty_14 rfl rfl rfl ?_
  refine z_bipush 17 C0 (v := (-2)) dX6_isGoodOrEmpty_15 rfl (by decide) ?_
  refine z_icmp_eq 20 26 C0 dX6_isGoodOrEmpty_17 rfl (by decide) (fun k17 => ?_) (fun k17 => ?_)
  · skip
    refine z_iconst 27 C0 (v := (nI 1)) dX6_isGoodOrEmpty_26 rfl rfl ?_
    refine z_goto 31 C0 dX6_isGoodOrEmpty_27 (by decide) ?_
    exact z_zret C0 rfl rfl dX6_isGoodOrEmpty_31 ⟨hm2_10, rr2_10, rc2_10, ⟨(zb_tN (by first | exact Or.inr ((chk_good fF_10 hlen).mp k17) | exact Or.inl ((chk_empty fF_10 hlen).mp k23))), rfl⟩⟩ (by decide) (by decide)
  · skip
    refine z_iload_n 21 C0 2 dX6_isGoodOrEmpty_20 rfl rfl rfl ?_
    refine z_bipush 23 C0 (v := (nI 64)) dX6_isGoodOrEmpty_21 rfl rfl ?_
    refine z_icmp_ne 26 30 C0 dX6_isGoodOrEmpty_23 rfl (by decide) (fun k23 => ?_) (fun k23 => ?_)
    · skip
      refine z_iconst 31 C0 (v := (nI 0)) dX6_isGoodOrEmpty_30 rfl rfl ?_
      exact z_zret C0 rfl rfl dX6_isGoodOrEmpty_31 ⟨hm2_10, rr2_10, rc2_10, ⟨(zb_fN (fun q => q.elim (fun z => k23 ((chk_empty fF_10 hlen).mpr z)) (fun z => k17 ((chk_good fF_10 hlen).mpr z)))), rfl⟩⟩ (by decide) (by decide)
    · skip
      refine z_iconst 27 C0 (v := (nI 1)) dX6_isGoodOrEmpty_26 rfl rfl ?_
      refine z_goto 31 C0 dX6_isGoodOrEmpty_27 (by decide) ?_
      exact z_zret C0 rfl rfl dX6_isGoodOrEmpty_31 ⟨hm2_10, rr2_10, rc2_10, ⟨(zb_tN (by first | exact Or.inr ((chk_good fF_10 hlen).mp k17) | exact Or.inl ((chk_empty fF_10 hlen).mp k23))), rfl⟩⟩ (by decide) (by decide)

set_option maxHeartbeats 4000000 in
set_option maxRecDepth 100000 in
theorem isGoodE_3 (l_ : Launch) (E : zE) (x : Nat) (rr : Nat) (pa : Nat) (ck : Nat) (jb : Nat) (sz : Nat) (ch : Nat) (cr : Nat) (hm : Nat → Nat) (rr_ : Nat → Nat) (rc : Nat) (p0 : Nat) (p1 : Nat) (p2 : Nat) (p3 : Nat) (po3 : Nat) (pn3 : Nat) (op3 : Nat → Int32) (nn3 : Nat → Int32) (len3 : Nat) (hlen : len3 ≤ 64) : zMi l_ E yX6_isGoodOrEmpty (zTs yX6_isGoodOrEmpty cX6_isGoodOrEmpty 3 (some .boolean)) ({ frames := 5, cells := 0, slots := 0, locals := 114 } : Room) [.ref x, .int (nI 3)] [(x, zo 6 [.int (nI sz), .ref rr, .ref pa, .ref ck, .ref jb]), (ck, zo 0 [.ref ch, .ref cr, .int (nI rc)]), (ch, zi E 64 (zn hm)), (cr, zi E 576 (zn rr_)), (pa, zp E 4 (pf4 p0 p1 p2 p3)), (p3, zo 5 [.int (nI 3), .ref po3, .ref pn3, .int (nI len3)]), (po3, zi E 64 op3), (pn3, zi E 64 nn3)] (fun r_ w_ => ∃ hm2 : Nat → Nat, ∃ rr2 : Nat → Nat, ∃ rc2 : Nat, (r_ = (zb (len3 = 0 ∨ Good 3 op3 nn3 len3)) ∧ w_ = [(x, zo 6 [.int (nI sz), .ref rr, .ref pa, .ref ck, .ref jb]), (ck, zo 0 [.ref ch, .ref cr, .int (nI rc2)]), (ch, zi E 64 (zn hm2)), (cr, zi E 576 (zn rr2)), (pa, zp E 4 (pf4 p0 p1 p2 p3)), (p3, zo 5 [.int (nI 3), .ref po3, .ref pn3, .int (nI len3)]), (po3, zi E 64 op3), (pn3, zi E 64 nn3)])) 0 0 := by
  refine zMi.of (cc := cX6_isGoodOrEmpty) (nL := 3) (ret := (some .boolean)) (by decide) rfl (Nat.le_of_ble_eq_true rfl) ?_
  intro p_ e_ s_ m_ args_ below_ meth_ c_ A_ C0 hin0
  have C0 : zC E p_ s_ m_ args_ meth_ c_ cX6_isGoodOrEmpty 3 (some .boolean) RX6 (zTs yX6_isGoodOrEmpty cX6_isGoodOrEmpty 3 (some .boolean)) A_ := C0
  refine z_eqL (L1 := [(0, .ref x), (1, .int (nI 3))]) rfl ?_
  refine z_aload_n 1 C0 0 dX6_isGoodOrEmpty_0 rfl rfl rfl ?_
  refine z_get 4 C0 0 3 wz_6 rfl (by decide) (zTs_in wk_199) dX6_isGoodOrEmpty_1 rfl rfl rfl ?_
  refine z_aload_n 5 C0 0 dX6_isGoodOrEmpty_4 rfl rfl rfl ?_
  refine z_get 8 C0 0 2 wz_6 rfl (by decide) (zTs_in wk_198) dX6_isGoodOrEmpty_5 rfl rfl rfl ?_
  refine z_iload_n 9 C0 1 dX6_isGoodOrEmpty_8 rfl rfl rfl ?_
  refine z_aald 10 C0 4 1 dX6_isGoodOrEmpty_9 rfl rfl rfl rfl (by omega) (by decide) (v := .ref p3) rfl ?_
  refine z_callVi 13 C0 [1, 2, 3, 5, 6, 7] [0, 4] [(x, zo 6 [.int (nI sz), .ref rr, .ref pa, .ref ck, .ref jb]), (pa, zp E 4 (pf4 p0 p1 p2 p3))] 0 0 (As := [.ref p3]) (T := TX0) (N := 3) (C := RX0) (ci := 0) (n := 1) 0 (fw l_ E ck ch cr hm rr_ rc p3 po3 pn3 3 op3 nn3 len3 (by decide) (hlen)) (zGIV (fun _ => zTs_in) wk_246 wk_243 wk_244 wk_245 wk_16) rfl ⟨rfl, by decide, by decide, by decide +kernel⟩ rfl rfl rfl rfl (by decide) rfl rfl (Nat.le_of_ble_eq_true rfl) ⟨by decide, by decide⟩ rfl rfl ⟨by decide, by decide⟩ ⟨by decide, by decide⟩ dX6_isGoodOrEmpty_10 rfl (fun r10 w10 hB10 => ?_)
  obtain ⟨hm2_10, rr2_10, rc2_10, r2_10, ⟨hr10, rfl⟩, fF_10⟩ := hB10
  replace hr10 := hr10.symm
  subst hr10
  refine z_perm [0, 2, 3, 4, 1, 5, 6, 7] [(x, zo 6 [.int (nI sz), .ref rr, .ref pa, .ref ck, .ref jb]), (ck, zo 0 [.ref ch, .ref cr, .int (nI rc2_10)]), (ch, zi E 64 (zn hm2_10)), (cr, zi E 576 (zn rr2_10)), (pa, zp E 4 (pf4 p0 p1 p2 p3)), (p3, zo 5 [.int (nI 3), .ref po3, .ref pn3, .int (nI len3)]), (po3, zi E 64 op3), (pn3, zi E 64 nn3)] (by decide) rfl ?_
  refine z_istore_n 14 C0 [1, 2, 0] [(0, .ref x), (1, .int (nI 3)), (2, .int r2_10)] dX6_isGoodOrEmpty_13 rfl rfl (by decide) rfl ?_
  refine z_iload_n 15 C0 2 dX6_isGoodOrEmpty_14 rfl rfl rfl ?_
  refine z_bipush 17 C0 (v := (-2)) dX6_isGoodOrEmpty_15 rfl (by decide) ?_
  refine z_icmp_eq 20 26 C0 dX6_isGoodOrEmpty_17 rfl (by decide) (fun k17 => ?_) (fun k17 => ?_)
  · skip
    refine z_iconst 27 C0 (v := (nI 1)) dX6_isGoodOrEmpty_26 rfl rfl ?_
    refine z_goto 31 C0 dX6_isGoodOrEmpty_27 (by decide) ?_
    exact z_zret C0 rfl rfl dX6_isGoodOrEmpty_31 ⟨hm2_10, rr2_10, rc2_10, ⟨(zb_tN (by first | exact Or.inr ((chk_good fF_10 hlen).mp k17) | exact Or.inl ((chk_empty fF_10 hlen).mp k23))), rfl⟩⟩ (by decide) (by decide)
  · skip
    refine z_iload_n 21 C0 2 dX6_isGoodOrEmpty_20 rfl rfl rfl ?_
    refine z_bipush 23 C0 (v := (nI 64)) dX6_isGoodOrEmpty_21 rfl rfl ?_
    refine z_icmp_ne 26 30 C0 dX6_isGoodOrEmpty_23 rfl (by decide) (fun k23 => ?_) (fun k23 => ?_)
    · skip
      refine z_iconst 31 C0 (v := (nI 0)) dX6_isGoodOrEmpty_30 rfl rfl ?_
      exact z_zret C0 rfl rfl dX6_isGoodOrEmpty_31 ⟨hm2_10, rr2_10, rc2_10, ⟨(zb_fN (fun q => q.elim (fun z => k23 ((chk_empty fF_10 hlen).mpr z)) (fun z => k17 ((chk_good fF_10 hlen).mpr z)))), rfl⟩⟩ (by decide) (by decide)
    · skip
      refine z_iconst 27 C0 (v := (nI 1)) dX6_isGoodOrEmpty_26 rfl rfl ?_
      refine z_goto 31 C0 dX6_isGoodOrEmpty_27 (by decide) ?_
      exact z_zret C0 rfl rfl dX6_isGoodOrEmpty_31 ⟨hm2_10, rr2_10, rc2_10, ⟨(zb_tN (by first | exact Or.inr ((chk_good fF_10 hlen).mp k17) | exact Or.inl ((chk_empty fF_10 hlen).mp k23))), rfl⟩⟩ (by decide) (by decide)
