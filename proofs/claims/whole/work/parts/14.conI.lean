theorem isW_f {kd : Nat} {op nn : Nat → Int32} {len i o m : Nat} (ho : pOK kd op nn len i o) (hm5 : m < 512) (hS : ∀ h, hasB m h ↔ Rch kd op nn len i h) (h1 : bitc m ≤ 1) (h2 : ¬ (hasNx o ∧ ¬ i + 1 < len)) (h3 : ∀ h, h < 9 → hasB m h → pNeed kd o ≤ h ∧ h + gU o - gD o ≤ 8) (hw : Wr kd op nn len i) : False := by
  rcases (wr_iff ho).mp hw with ⟨h, hR, hn⟩ | ⟨h, k, hne, hR, hK⟩
  · have hb := (hS h).mpr hR
    have h9 := hb_lt hm5 hb
    exact hn ⟨ho, fun q => Classical.byContradiction fun z => h2 ⟨q, z⟩, h3 h h9 hb⟩
  · have hb := (hS h).mpr hR
    have kb := (hS k).mpr hK
    exact hne (hb_one m hm5 h (hb_lt hm5 hb) k (hb_lt hm5 kb) (by omega) hb kb)
theorem isW_two {kd : Nat} {op nn : Nat → Int32} {len i m : Nat} (hm5 : m < 512) (hS : ∀ h, hasB m h ↔ Rch kd op nn len i h) (h1 : 1 < bitc m) : Wr kd op nn len i := by
  obtain ⟨h, _, k, _, hne, a, b⟩ := hb_two m hm5 h1
  exact Or.inr (Or.inr ⟨h, k, hne, (hS h).mp a, (hS k).mp b⟩)
theorem isW_nx {kd : Nat} {op nn : Nat → Int32} {len i o m : Nat} (ho : pOK kd op nn len i o) (hm5 : m < 512) (hS : ∀ h, hasB m h ↔ Rch kd op nn len i h) (h0 : m ≠ 0) (h2 : hasNx o ∧ ¬ i + 1 < len) : Wr kd op nn len i := by
  obtain ⟨h, _, a⟩ := hb_ne m hm5 h0
  exact Or.inr (Or.inl ⟨h, o, (hS h).mp a, ho, fun q => h2.2 (q.2.1 h2.1)⟩)
theorem isW_fit {kd : Nat} {op nn : Nat → Int32} {len i o m : Nat} (ho : pOK kd op nn len i o) (hS : ∀ h, hasB m h ↔ Rch kd op nn len i h) (h3 : ¬ ∀ h, h < 9 → hasB m h → pNeed kd o ≤ h ∧ h + gU o - gD o ≤ 8) : Wr kd op nn len i := by
  apply Classical.byContradiction
  intro hw
  refine h3 (fun h h9 hb => ?_)
  have hok : okS kd op nn len i h o := Classical.byContradiction fun q => hw (Or.inr (Or.inl ⟨h, o, (hS h).mp hb, ho, q⟩))
  exact hok.2.2
theorem QS_0 {kd : Nat} {op nn : Nat → Int32} {len : Nat} {rr : Nat → Nat} : QS kd op nn len (fun _ => 0) rr 0 :=
  ⟨fun j hj => absurd hj (Nat.not_lt_zero j), fun i h _ q => absurd q (hb_0 h), rfl, fun _ => (by decide : 0 < 512)⟩
theorem walk_all {kd : Nat} {op nn : Nat → Int32} {len : Nat} {hx rx : Nat → Nat} {cx : Nat} (h0 : 0 < len) (hlen : len ≤ 64) (hQ : QS kd op nn len hx rx cx) (hB : hasB (hx 0) 0)
    (hP : ∀ j, j < cx → ∀ i2 h2, Suc kd op nn len (rx j / 9) (rx j % 9) i2 h2 → hasB (hx i2) h2) {i h : Nat} (hR : Rch kd op nn len i h) : hasB (hx i) h := by
  have key : hasB (hx i) h ∧ i < len := by
    refine hR (fun i h => hasB (hx i) h ∧ i < len) ⟨hB, h0⟩ ?_
    rintro i h i2 h2 ⟨hb, hi⟩ hs
    obtain ⟨j, hj, e⟩ := hQ.2.1 i h (by omega) hb
    have h9 := hb_lt (hQ.2.2.2 i) hb
    have e1 : rx j / 9 = i := by omega
    have e2 : rx j % 9 = h := by omega
    refine ⟨hP j hj i2 h2 (by rw [e1, e2]; exact hs), ?_⟩
    obtain ⟨o, ho, -, hx | hx⟩ := hs
    · rw [hx.2]; exact ho.2.1 hx.1
    · exact hx.2.1
  exact key.1
set_option maxHeartbeats 4000000 in
set_option maxRecDepth 100000 in
theorem hasNext (l_ : Launch) (E : zE) (o : Nat) (ho : o ≤ 18) : zMi l_ E yX0_hasNext (zTs yX0_hasNext cX0_hasNext 1 (some .boolean)) ({ frames := 0, cells := 0, slots := 0, locals := 0 } : Room) [.int (nI o)] [] (fun r_ w_ => (r_ = (zb (hasNx o)) ∧ w_ = [])) 0 0 := by
  refine zMi.of (cc := cX0_hasNext) (nL := 1) (ret := (some .boolean)) (by decide) rfl (Nat.le_of_ble_eq_true rfl) ?_
  intro p_ e_ s_ m_ args_ below_ meth_ c_ A_ C0 hin0
  have C0 : zC E p_ s_ m_ args_ meth_ c_ cX0_hasNext 1 (some .boolean) RX0 (zTs yX0_hasNext cX0_hasNext 1 (some .boolean)) A_ := C0
  refine z_eqL (L1 := [(0, .int (nI o))]) rfl ?_
  refine z_iload_n 1 C0 0 dX0_hasNext_0 rfl rfl rfl ?_
  refine z_bipush 3 C0 (v := (nI 14)) dX0_hasNext_1 rfl rfl ?_
  refine z_icmp_eqN 6 22 C0 (by omega) (by decide) dX0_hasNext_3 rfl (by decide) (fun k3 => ?_) (fun k3 => ?_)
  · skip
    refine z_iconst 23 C0 (v := (nI 0)) dX0_hasNext_22 rfl rfl ?_
    exact z_zret C0 rfl rfl dX0_hasNext_23 ⟨(zb_fN (fun q => by have h1 := q.1; have h2 := q.2.1; have h3 := q.2.2; omega)), rfl⟩ (by decide) (by decide)
  · skip
    refine z_iload_n 7 C0 0 dX0_hasNext_6 rfl rfl rfl ?_
    refine z_bipush 9 C0 (v := (nI 17)) dX0_hasNext_7 rfl rfl ?_
    refine z_icmp_eqN 12 22 C0 (by omega) (by decide) dX0_hasNext_9 rfl (by decide) (fun k9 => ?_) (fun k9 => ?_)
    · skip
      refine z_iconst 23 C0 (v := (nI 0)) dX0_hasNext_22 rfl rfl ?_
      exact z_zret C0 rfl rfl dX0_hasNext_23 ⟨(zb_fN (fun q => by have h1 := q.1; have h2 := q.2.1; have h3 := q.2.2; omega)), rfl⟩ (by decide) (by decide)
    · skip
      refine z_iload_n 13 C0 0 dX0_hasNext_12 rfl rfl rfl ?_
      refine z_bipush 15 C0 (v := (nI 18)) dX0_hasNext_13 rfl rfl ?_
      refine z_icmp_eqN 18 22 C0 (by omega) (by decide) dX0_hasNext_15 rfl (by decide) (fun k15 => ?_) (fun k15 => ?_)
      · skip
        refine z_iconst 23 C0 (v := (nI 0)) dX0_hasNext_22 rfl rfl ?_
        exact z_zret C0 rfl rfl dX0_hasNext_23 ⟨(zb_fN (fun q => by have h1 := q.1; have h2 := q.2.1; have h3 := q.2.2; omega)), rfl⟩ (by decide) (by decide)
      · skip
        refine z_iconst 19 C0 (v := (nI 1)) dX0_hasNext_18 rfl rfl ?_
        refine z_goto 23 C0 dX0_hasNext_19 (by decide) ?_
        exact z_zret C0 rfl rfl dX0_hasNext_23 ⟨(zb_tN ⟨by omega, by omega, by omega⟩), rfl⟩ (by decide) (by decide)

set_option maxHeartbeats 4000000 in
set_option maxRecDepth 100000 in
theorem bitCount (l_ : Launch) (E : zE) (x : Int32)  : zMi l_ E yJ6_bitCount_0f7a4 (zTs yJ6_bitCount_0f7a4 cJ6_bitCount_0f7a4 1 (some .int)) ({ frames := 0, cells := 0, slots := 0, locals := 0 } : Room) [.int x] [] (fun r_ w_ => (r_ = (bcE x) ∧ w_ = [])) 0 0 := by
  refine zMi.of (cc := cJ6_bitCount_0f7a4) (nL := 1) (ret := (some .int)) (by decide) rfl (Nat.le_of_ble_eq_true rfl) ?_
  intro p_ e_ s_ m_ args_ below_ meth_ c_ A_ C0 hin0
  have C0 : zC E p_ s_ m_ args_ meth_ c_ cJ6_bitCount_0f7a4 1 (some .int) RJ6 (zTs yJ6_bitCount_0f7a4 cJ6_bitCount_0f7a4 1 (some .int)) A_ := C0
  refine z_eqL (L1 := [(0, .int x)]) rfl ?_
  refine z_iload_n 1 C0 0 dJ6_bitCount_0f7a4_0 rfl rfl rfl ?_
  refine z_iload_n 2 C0 0 dJ6_bitCount_0f7a4_1 rfl rfl rfl ?_
  refine z_iconst 3 C0 (v := (nI 1)) dJ6_bitCount_0f7a4_2 rfl rfl ?_
  refine z_iushr 4 C0 (v := ((x.toUInt32 >>> ((nI 1).toUInt32 &&& Int32.toUInt32 31)).toInt32)) dJ6_bitCount_0f7a4_3 rfl rfl ?_
  refine z_ldcw 7 C0 (v := 1431655765) (zTs_in wk_303) dJ6_bitCount_0f7a4_4 rfl ?_
  refine z_iand 8 C0 (v := (((x.toUInt32 >>> ((nI 1).toUInt32 &&& Int32.toUInt32 31)).toInt32) &&& (nI 1431655765))) dJ6_bitCount_0f7a4_7 rfl rfl ?_
  refine z_isub 9 C0 (v := (x - (((x.toUInt32 >>> ((nI 1).toUInt32 &&& Int32.toUInt32 31)).toInt32) &&& (nI 1431655765)))) dJ6_bitCount_0f7a4_8 rfl rfl ?_
  refine z_istore_n 10 C0 [0] [(0, .int (x - (((x.toUInt32 >>> ((nI 1).toUInt32 &&& Int32.toUInt32 31)).toInt32) &&& (nI 1431655765))))] dJ6_bitCount_0f7a4_9 rfl rfl (by decide) rfl ?_
  refine z_iload_n 11 C0 0 dJ6_bitCount_0f7a4_10 rfl rfl rfl ?_
  refine z_ldcw 14 C0 (v := 858993459) (zTs_in wk_304) dJ6_bitCount_0f7a4_11 rfl ?_
  refine z_iand 15 C0 (v := ((x - (((x.toUInt32 >>> ((nI 1).toUInt32 &&& Int32.toUInt32 31)).toInt32) &&& (nI 1431655765))) &&& (nI 858993459))) dJ6_bitCount_0f7a4_14 rfl rfl ?_
  refine z_iload_n 16 C0 0 dJ6_bitCount_0f7a4_15 rfl rfl rfl ?_
  refine z_iconst 17 C0 (v := (nI 2)) dJ6_bitCount_0f7a4_16 rfl rfl ?_
  refine z_iushr 18 C0 (v := (((x - (((x.toUInt32 >>> ((nI 1).toUInt32 &&& Int32.toUInt32 31)).toInt32) &&& (nI 1431655765))).toUInt32 >>> ((nI 2).toUInt32 &&& Int32.toUInt32 31)).toInt32)) dJ6_bitCount_0f7a4_17 rfl rfl ?_
  refine z_ldcw 21 C0 (v := 858993459) (zTs_in wk_304) dJ6_bitCount_0f7a4_18 rfl ?_
  refine z_iand 22 C0 (v := ((((x - (((x.toUInt32 >>> ((nI 1).toUInt32 &&& Int32.toUInt32 31)).toInt32) &&& (nI 1431655765))).toUInt32 >>> ((nI 2).toUInt32 &&& Int32.toUInt32 31)).toInt32) &&& (nI 858993459))) dJ6_bitCount_0f7a4_21 rfl rfl ?_
  refine z_iadd 23 C0 (v := (((x - (((x.toUInt32 >>> ((nI 1).toUInt32 &&& Int32.toUInt32 31)).toInt32) &&& (nI 1431655765))) &&& (nI 858993459)) + ((((x - (((x.toUInt32 >>> ((nI 1).toUInt32 &&& Int32.toUInt32 31)).toInt32) &&& (nI 1431655765))).toUInt32 >>> ((nI 2).toUInt32 &&& Int32.toUInt32 31)).toInt32) &&& (nI 858993459)))) dJ6_bitCount_0f7a4_22 rfl rfl ?_
  refine z_istore_n 24 C0 [0] [(0, .int (((x - (((x.toUInt32 >>> ((nI 1).toUInt32 &&& Int32.toUInt32 31)).toInt32) &&& (nI 1431655765))) &&& (nI 858993459)) + ((((x - (((x.toUInt32 >>> ((nI 1).toUInt32 &&& Int32.toUInt32 31)).toInt32) &&& (nI 1431655765))).toUInt32 >>> ((nI 2).toUInt32 &&& Int32.toUInt32 31)).toInt32) &&& (nI 858993459))))] dJ6_bitCount_0f7a4_23 rfl rfl (by decide) rfl ?_
  refine z_iload_n 25 C0 0 dJ6_bitCount_0f7a4_24 rfl rfl rfl ?_
  refine z_iload_n 26 C0 0 dJ6_bitCount_0f7a4_25 rfl rfl rfl ?_
  refine z_iconst 27 C0 (v := (nI 4)) dJ6_bitCount_0f7a4_26 rfl rfl ?_
  refine z_iushr 28 C0 (v := (((((x - (((x.toUInt32 >>> ((nI 1).toUInt32 &&& Int32.toUInt32 31)).toInt32) &&& (nI 1431655765))) &&& (nI 858993459)) + ((((x - (((x.toUInt32 >>> ((nI 1).toUInt32 &&& Int32.toUInt32 31)).toInt32) &&& (nI 1431655765))).toUInt32 >>> ((nI 2).toUInt32 &&& Int32.toUInt32 31)).toInt32) &&& (nI 858993459))).toUInt32 >>> ((nI 4).toUInt32 &&& Int32.toUInt32 31)).toInt32)) dJ6_bitCount_0f7a4_27 rfl rfl ?_
  refine z_iadd 29 C0 (v := ((((x - (((x.toUInt32 >>> ((nI 1).toUInt32 &&& Int32.toUInt32 31)).toInt32) &&& (nI 1431655765))) &&& (nI 858993459)) + ((((x - (((x.toUInt32 >>> ((nI 1).toUInt32 &&& Int32.toUInt32 31)).toInt32) &&& (nI 1431655765))).toUInt32 >>> ((nI 2).toUInt32 &&& Int32.toUInt32 31)).toInt32) &&& (nI 858993459))) + (((((x - (((x.toUInt32 >>> ((nI 1).toUInt32 &&& Int32.toUInt32 31)).toInt32) &&& (nI 1431655765))) &&& (nI 858993459)) + ((((x - (((x.toUInt32 >>> ((nI 1).toUInt32 &&& Int32.toUInt32 31)).toInt32) &&& (nI 1431655765))).toUInt32 >>> ((nI 2).toUInt32 &&& Int32.toUInt32 31)).toInt32) &&& (nI 858993459))).toUInt32 >>> ((nI 4).toUInt32 &&& Int32.toUInt32 31)).toInt32))) dJ6_bitCount_0f7a4_28 rfl rfl ?_
  refine z_ldcw 32 C0 (v := 252645135) (zTs_in wk_305) dJ6_bitCount_0f7a4_29 rfl ?_
  refine z_iand 33 C0 (v := (((((x - (((x.toUInt32 >>> ((nI 1).toUInt32 &&& Int32.toUInt32 31)).toInt32) &&& (nI 1431655765))) &&& (nI 858993459)) + ((((x - (((x.toUInt32 >>> ((nI 1).toUInt32 &&& Int32.toUInt32 31)).toInt32) &&& (nI 1431655765))).toUInt32 >>> ((nI 2).toUInt32 &&& Int32.toUInt32 31)).toInt32) &&& (nI 858993459))) + (((((x - (((x.toUInt32 >>> ((nI 1).toUInt32 &&& Int32.toUInt32 31)).toInt32) &&& (nI 1431655765))) &&& (nI 858993459)) + ((((x - (((x.toUInt32 >>> ((nI 1).toUInt32 &&& Int32.toUInt32 31)).toInt32) &&& (nI 1431655765))).toUInt32 >>> ((nI 2).toUInt32 &&& Int32.toUInt32 31)).toInt32) &&& (nI 858993459))).toUInt32 >>> ((nI 4).toUInt32 &&& Int32.toUInt32 31)).toInt32)) &&& (nI 252645135))) dJ6_bitCount_0f7a4_32 rfl rfl ?_
  refine z_istore_n 34 C0 [0] [(0, .int (((((x - (((x.toUInt32 >>> ((nI 1).toUInt32 &&& Int32.toUInt32 31)).toInt32) &&& (nI 1431655765))) &&& (nI 858993459)) + ((((x - (((x.toUInt32 >>> ((nI 1).toUInt32 &&& Int32.toUInt32 31)).toInt32) &&& (nI 1431655765))).toUInt32 >>> ((nI 2).toUInt32 &&& Int32.toUInt32 31)).toInt32) &&& (nI 858993459))) + (((((x - (((x.toUInt32 >>> ((nI 1).toUInt32 &&& Int32.toUInt32 31)).toInt32) &&& (nI 1431655765))) &&& (nI 858993459)) + ((((x - (((x.toUInt32 >>> ((nI 1).toUInt32 &&& Int32.toUInt32 31)).toInt32) &&& (nI 1431655765))).toUInt32 >>> ((nI 2).toUInt32 &&& Int32.toUInt32 31)).toInt32) &&& (nI 858993459))).toUInt32 >>> ((nI 4).toUInt32 &&& Int32.toUInt32 31)).toInt32)) &&& (nI 252645135)))] dJ6_bitCount_0f7a4_33 rfl rfl (by decide) rfl ?_
  refine z_iload_n 35 C0 0 dJ6_bitCount_0f7a4_34 rfl rfl rfl ?_
  refine z_iload_n 36 C0 0 dJ6_bitCount_0f7a4_35 rfl rfl rfl ?_
  refine z_bipush 38 C0 (v := (nI 8)) dJ6_bitCount_0f7a4_36 rfl rfl ?_
  refine z_iushr 39 C0 (v := (((((((x - (((x.toUInt32 >>> ((nI 1).toUInt32 &&& Int32.toUInt32 31)).toInt32) &&& (nI 1431655765))) &&& (nI 858993459)) + ((((x - (((x.toUInt32 >>> ((nI 1).toUInt32 &&& Int32.toUInt32 31)).toInt32) &&& (nI 1431655765))).toUInt32 >>> ((nI 2).toUInt32 &&& Int32.toUInt32 31)).toInt32) &&& (nI 858993459))) + (((((x - (((x.toUInt32 >>> ((nI 1).toUInt32 &&& Int32.toUInt32 31)).toInt32) &&& (nI 1431655765))) &&& (nI 858993459)) + ((((x - (((x.toUInt32 >>> ((nI 1).toUInt32 &&& Int32.toUInt32 31)).toInt32) &&& (nI 1431655765))).toUInt32 >>> ((nI 2).toUInt32 &&& Int32.toUInt32 31)).toInt32) &&& (nI 858993459))).toUInt32 >>> ((nI 4).toUInt32 &&& Int32.toUInt32 31)).toInt32)) &&& (nI 252645135)).toUInt32 >>> ((nI 8).toUInt32 &&& Int32.toUInt32 31)).toInt32)) dJ6_bitCount_0f7a4_38 rfl rfl ?_
  refine z_iadd 40 C0 (v := ((((((x - (((x.toUInt32 >>> ((nI 1).toUInt32 &&& Int32.toUInt32 31)).toInt32) &&& (nI 1431655765))) &&& (nI 858993459)) + ((((x - (((x.toUInt32 >>> ((nI 1).toUInt32 &&& Int32.toUInt32 31)).toInt32) &&& (nI 1431655765))).toUInt32 >>> ((nI 2).toUInt32 &&& Int32.toUInt32 31)).toInt32) &&& (nI 858993459))) + (((((x - (((x.toUInt32 >>> ((nI 1).toUInt32 &&& Int32.toUInt32 31)).toInt32) &&& (nI 1431655765))) &&& (nI 858993459)) + ((((x - (((x.toUInt32 >>> ((nI 1).toUInt32 &&& Int32.toUInt32 31)).toInt32) &&& (nI 1431655765))).toUInt32 >>> ((nI 2).toUInt32 &&& Int32.toUInt32 31)).toInt32) &&& (nI 858993459))).toUInt32 >>> ((nI 4).toUInt32 &&& Int32.toUInt32 31)).toInt32)) &&& (nI 252645135)) + (((((((x - (((x.toUInt32 >>> ((nI 1).toUInt32 &&& Int32.toUInt32 31)).toInt32) &&& (nI 1431655765))) &&& (nI 858993459)) + ((((x - (((x.toUInt32 >>> ((nI 1).toUInt32 &&& Int32.toUInt32 31)).toInt32) &&& (nI 1431655765))).toUInt32 >>> ((nI 2).toUInt32 &&& Int32.toUInt32 31)).toInt32) &&& (nI 858993459))) + (((((x - (((x.toUInt32 >>> ((nI 1).toUInt32 &&& Int32.toUInt32 31)).toInt32) &&& (nI 1431655765))) &&& (nI 858993459)) + ((((x - (((x.toUInt32 >>> ((nI 1).toUInt32 &&& Int32.toUInt32 31)).toInt32) &&& (nI 1431655765))).toUInt32 >>> ((nI 2).toUInt32 &&& Int32.toUInt32 31)).toInt32) &&& (nI 858993459))).toUInt32 >>> ((nI 4).toUInt32 &&& Int32.toUInt32 31)).toInt32)) &&& (nI 252645135)).toUInt32 >>> ((nI 8).toUInt32 &&& Int32.toUInt32 31)).toInt32))) dJ6_bitCount_0f7a4_39 rfl rfl ?_
  refine z_istore_n 41 C0 [0] [(0, .int ((((((x - (((x.toUInt32 >>> ((nI 1).toUInt32 &&& Int32.toUInt32 31)).toInt32) &&& (nI 1431655765))) &&& (nI 858993459)) + ((((x - (((x.toUInt32 >>> ((nI 1).toUInt32 &&& Int32.toUInt32 31)).toInt32) &&& (nI 1431655765))).toUInt32 >>> ((nI 2).toUInt32 &&& Int32.toUInt32 31)).toInt32) &&& (nI 858993459))) + (((((x - (((x.toUInt32 >>> ((nI 1).toUInt32 &&& Int32.toUInt32 31)).toInt32) &&& (nI 1431655765))) &&& (nI 858993459)) + ((((x - (((x.toUInt32 >>> ((nI 1).toUInt32 &&& Int32.toUInt32 31)).toInt32) &&& (nI 1431655765))).toUInt32 >>> ((nI 2).toUInt32 &&& Int32.toUInt32 31)).toInt32) &&& (nI 858993459))).toUInt32 >>> ((nI 4).toUInt32 &&& Int32.toUInt32 31)).toInt32)) &&& (nI 252645135)) + (((((((x - (((x.toUInt32 >>> ((nI 1).toUInt32 &&& Int32.toUInt32 31)).toInt32) &&& (nI 1431655765))) &&& (nI 858993459)) + ((((x - (((x.toUInt32 >>> ((nI 1).toUInt32 &&& Int32.toUInt32 31)).toInt32) &&& (nI 1431655765))).toUInt32 >>> ((nI 2).toUInt32 &&& Int32.toUInt32 31)).toInt32) &&& (nI 858993459))) + (((((x - (((x.toUInt32 >>> ((nI 1).toUInt32 &&& Int32.toUInt32 31)).toInt32) &&& (nI 1431655765))) &&& (nI 858993459)) + ((((x - (((x.toUInt32 >>> ((nI 1).toUInt32 &&& Int32.toUInt32 31)).toInt32) &&& (nI 1431655765))).toUInt32 >>> ((nI 2).toUInt32 &&& Int32.toUInt32 31)).toInt32) &&& (nI 858993459))).toUInt32 >>> ((nI 4).toUInt32 &&& Int32.toUInt32 31)).toInt32)) &&& (nI 252645135)).toUInt32 >>> ((nI 8).toUInt32 &&& Int32.toUInt32 31)).toInt32)))] dJ6_bitCount_0f7a4_40 rfl rfl (by decide) rfl ?_
  refine z_iload_n 42 C0 0 dJ6_bitCount_0f7a4_41 rfl rfl rfl ?_
  refine z_iload_n 43 C0 0 dJ6_bitCount_0f7a4_42 rfl rfl rfl ?_
  refine z_bipush 45 C0 (v := (nI 16)) dJ6_bitCount_0f7a4_43 rfl rfl ?_
  refine z_iushr 46 C0 (v := ((((((((x - (((x.toUInt32 >>> ((nI 1).toUInt32 &&& Int32.toUInt32 31)).toInt32) &&& (nI 1431655765))) &&& (nI 858993459)) + ((((x - (((x.toUInt32 >>> ((nI 1).toUInt32 &&& Int32.toUInt32 31)).toInt32) &&& (nI 1431655765))).toUInt32 >>> ((nI 2).toUInt32 &&& Int32.toUInt32 31)).toInt32) &&& (nI 858993459))) + (((((x - (((x.toUInt32 >>> ((nI 1).toUInt32 &&& Int32.toUInt32 31)).toInt32) &&& (nI 1431655765))) &&& (nI 858993459)) + ((((x - (((x.toUInt32 >>> ((nI 1).toUInt32 &&& Int32.toUInt32 31)).toInt32) &&& (nI 1431655765))).toUInt32 >>> ((nI 2).toUInt32 &&& Int32.toUInt32 31)).toInt32) &&& (nI 858993459))).toUInt32 >>> ((nI 4).toUInt32 &&& Int32.toUInt32 31)).toInt32)) &&& (nI 252645135)) + (((((((x - (((x.toUInt32 >>> ((nI 1).toUInt32 &&& Int32.toUInt32 31)).toInt32) &&& (nI 1431655765))) &&& (nI 858993459)) + ((((x - (((x.toUInt32 >>> ((nI 1).toUInt32 &&& Int32.toUInt32 31)).toInt32) &&& (nI 1431655765))).toUInt32 >>> ((nI 2).toUInt32 &&& Int32.toUInt32 31)).toInt32) &&& (nI 858993459))) + (((((x - (((x.toUInt32 >>> ((nI 1).toUInt32 &&& Int32.toUInt32 31)).toInt32) &&& (nI 1431655765))) &&& (nI 858993459)) + ((((x - (((x.toUInt32 >>> ((nI 1).toUInt32 &&& Int32.toUInt32 31)).toInt32) &&& (nI 1431655765))).toUInt32 >>> ((nI 2).toUInt32 &&& Int32.toUInt32 31)).toInt32) &&& (nI 858993459))).toUInt32 >>> ((nI 4).toUInt32 &&& Int32.toUInt32 31)).toInt32)) &&& (nI 252645135)).toUInt32 >>> ((nI 8).toUInt32 &&& Int32.toUInt32 31)).toInt32)).toUInt32 >>> ((nI 16).toUInt32 &&& Int32.toUInt32 31)).toInt32)) dJ6_bitCount_0f7a4_45 rfl rfl ?_
  refine z_iadd 47 C0 (v := (((((((x - (((x.toUInt32 >>> ((nI 1).toUInt32 &&& Int32.toUInt32 31)).toInt32) &&& (nI 1431655765))) &&& (nI 858993459)) + ((((x - (((x.toUInt32 >>> ((nI 1).toUInt32 &&& Int32.toUInt32 31)).toInt32) &&& (nI 1431655765))).toUInt32 >>> ((nI 2).toUInt32 &&& Int32.toUInt32 31)).toInt32) &&& (nI 858993459))) + (((((x - (((x.toUInt32 >>> ((nI 1).toUInt32 &&& Int32.toUInt32 31)).toInt32) &&& (nI 1431655765))) &&& (nI 858993459)) + ((((x - (((x.toUInt32 >>> ((nI 1).toUInt32 &&& Int32.toUInt32 31)).toInt32) &&& (nI 1431655765))).toUInt32 >>> ((nI 2).toUInt32 &&& Int32.toUInt32 31)).toInt32) &&& (nI 858993459))).toUInt32 >>> ((nI 4).toUInt32 &&& Int32.toUInt32 31)).toInt32)) &&& (nI 252645135)) + (((((((x - (((x.toUInt32 >>> ((nI 1).toUInt32 &&& Int32.toUInt32 31)).toInt32) &&& (nI 1431655765))) &&& (nI 858993459)) + ((((x - (((x.toUInt32 >>> ((nI 1).toUInt32 &&& Int32.toUInt32 31)).toInt32) &&& (nI 1431655765))).toUInt32 >>> ((nI 2).toUInt32 &&& Int32.toUInt32 31)).toInt32) &&& (nI 858993459))) + (((((x - (((x.toUInt32 >>> ((nI 1).toUInt32 &&& Int32.toUInt32 31)).toInt32) &&& (nI 1431655765))) &&& (nI 858993459)) + ((((x - (((x.toUInt32 >>> ((nI 1).toUInt32 &&& Int32.toUInt32 31)).toInt32) &&& (nI 1431655765))).toUInt32 >>> ((nI 2).toUInt32 &&& Int32.toUInt32 31)).toInt32) &&& (nI 858993459))).toUInt32 >>> ((nI 4).toUInt32 &&& Int32.toUInt32 31)).toInt32)) &&& (nI 252645135)).toUInt32 >>> ((nI 8).toUInt32 &&& Int32.toUInt32 31)).toInt32)) + ((((((((x - (((x.toUInt32 >>> ((nI 1).toUInt32 &&& Int32.toUInt32 31)).toInt32) &&& (nI 1431655765))) &&& (nI 858993459)) + ((((x - (((x.toUInt32 >>> ((nI 1).toUInt32 &&& Int32.toUInt32 31)).toInt32) &&& (nI 1431655765))).toUInt32 >>> ((nI 2).toUInt32 &&& Int32.toUInt32 31)).toInt32) &&& (nI 858993459))) + (((((x - (((x.toUInt32 >>> ((nI 1).toUInt32 &&& Int32.toUInt32 31)).toInt32) &&& (nI 1431655765))) &&& (nI 858993459)) + ((((x - (((x.toUInt32 >>> ((nI 1).toUInt32 &&& Int32.toUInt32 31)).toInt32) &&& (nI 1431655765))).toUInt32 >>> ((nI 2).toUInt32 &&& Int32.toUInt32 31)).toInt32) &&& (nI 858993459))).toUInt32 >>> ((nI 4).toUInt32 &&& Int32.toUInt32 31)).toInt32)) &&& (nI 252645135)) + (((((((x - (((x.toUInt32 >>> ((nI 1).toUInt32 &&& Int32.toUInt32 31)).toInt32) &&& (nI 1431655765))) &&& (nI 858993459)) + ((((x - (((x.toUInt32 >>> ((nI 1).toUInt32 &&& Int32.toUInt32 31)).toInt32) &&& (nI 1431655765))).toUInt32 >>> ((nI 2).toUInt32 &&& Int32.toUInt32 31)).toInt32) &&& (nI 858993459))) + (((((x - (((x.toUInt32 >>> ((nI 1).toUInt32 &&& Int32.toUInt32 31)).toInt32) &&& (nI 1431655765))) &&& (nI 858993459)) + ((((x - (((x.toUInt32 >>> ((nI 1).toUInt32 &&& Int32.toUInt32 31)).toInt32) &&& (nI 1431655765))).toUInt32 >>> ((nI 2).toUInt32 &&& Int32.toUInt32 31)).toInt32) &&& (nI 858993459))).toUInt32 >>> ((nI 4).toUInt32 &&& Int32.toUInt32 31)).toInt32)) &&& (nI 252645135)).toUInt32 >>> ((nI 8).toUInt32 &&& Int32.toUInt32 31)).toInt32)).toUInt32 >>> ((nI 16).toUInt32 &&& Int32.toUInt32 31)).toInt32))) dJ6_bitCount_0f7a4_46 rfl rfl ?_
  refine z_istore_n 48 C0 [0] [(0, .int (((((((x - (((x.toUInt32 >>> ((nI 1).toUInt32 &&& Int32.toUInt32 31)).toInt32) &&& (nI 1431655765))) &&& (nI 858993459)) + ((((x - (((x.toUInt32 >>> ((nI 1).toUInt32 &&& Int32.toUInt32 31)).toInt32) &&& (nI 1431655765))).toUInt32 >>> ((nI 2).toUInt32 &&& Int32.toUInt32 31)).toInt32) &&& (nI 858993459))) + (((((x - (((x.toUInt32 >>> ((nI 1).toUInt32 &&& Int32.toUInt32 31)).toInt32) &&& (nI 1431655765))) &&& (nI 858993459)) + ((((x - (((x.toUInt32 >>> ((nI 1).toUInt32 &&& Int32.toUInt32 31)).toInt32) &&& (nI 1431655765))).toUInt32 >>> ((nI 2).toUInt32 &&& Int32.toUInt32 31)).toInt32) &&& (nI 858993459))).toUInt32 >>> ((nI 4).toUInt32 &&& Int32.toUInt32 31)).toInt32)) &&& (nI 252645135)) + (((((((x - (((x.toUInt32 >>> ((nI 1).toUInt32 &&& Int32.toUInt32 31)).toInt32) &&& (nI 1431655765))) &&& (nI 858993459)) + ((((x - (((x.toUInt32 >>> ((nI 1).toUInt32 &&& Int32.toUInt32 31)).toInt32) &&& (nI 1431655765))).toUInt32 >>> ((nI 2).toUInt32 &&& Int32.toUInt32 31)).toInt32) &&& (nI 858993459))) + (((((x - (((x.toUInt32 >>> ((nI 1).toUInt32 &&& Int32.toUInt32 31)).toInt32) &&& (nI 1431655765))) &&& (nI 858993459)) + ((((x - (((x.toUInt32 >>> ((nI 1).toUInt32 &&& Int32.toUInt32 31)).toInt32) &&& (nI 1431655765))).toUInt32 >>> ((nI 2).toUInt32 &&& Int32.toUInt32 31)).toInt32) &&& (nI 858993459))).toUInt32 >>> ((nI 4).toUInt32 &&& Int32.toUInt32 31)).toInt32)) &&& (nI 252645135)).toUInt32 >>> ((nI 8).toUInt32 &&& Int32.toUInt32 31)).toInt32)) + ((((((((x - (((x.toUInt32 >>> ((nI 1).toUInt32 &&& Int32.toUInt32 31)).toInt32) &&& (nI 1431655765))) &&& (nI 858993459)) + ((((x - (((x.toUInt32 >>> ((nI 1).toUInt32 &&& Int32.toUInt32 31)).toInt32) &&& (nI 1431655765))).toUInt32 >>> ((nI 2).toUInt32 &&& Int32.toUInt32 31)).toInt32) &&& (nI 858993459))) + (((((x - (((x.toUInt32 >>> ((nI 1).toUInt32 &&& Int32.toUInt32 31)).toInt32) &&& (nI 1431655765))) &&& (nI 858993459)) + ((((x - (((x.toUInt32 >>> ((nI 1).toUInt32 &&& Int32.toUInt32 31)).toInt32) &&& (nI 1431655765))).toUInt32 >>> ((nI 2).toUInt32 &&& Int32.toUInt32 31)).toInt32) &&& (nI 858993459))).toUInt32 >>> ((nI 4).toUInt32 &&& Int32.toUInt32 31)).toInt32)) &&& (nI 252645135)) + (((((((x - (((x.toUInt32 >>> ((nI 1).toUInt32 &&& Int32.toUInt32 31)).toInt32) &&& (nI 1431655765))) &&& (nI 858993459)) + ((((x - (((x.toUInt32 >>> ((nI 1).toUInt32 &&& Int32.toUInt32 31)).toInt32) &&& (nI 1431655765))).toUInt32 >>> ((nI 2).toUInt32 &&& Int32.toUInt32 31)).toInt32) &&& (nI 858993459))) + (((((x - (((x.toUInt32 >>> ((nI 1).toUInt32 &&& Int32.toUInt32 31)).toInt32) &&& (nI 1431655765))) &&& (nI 858993459)) + ((((x - (((x.toUInt32 >>> ((nI 1).toUInt32 &&& Int32.toUInt32 31)).toInt32) &&& (nI 1431655765))).toUInt32 >>> ((nI 2).toUInt32 &&& Int32.toUInt32 31)).toInt32) &&& (nI 858993459))).toUInt32 >>> ((nI 4).toUInt32 &&& Int32.toUInt32 31)).toInt32)) &&& (nI 252645135)).toUInt32 >>> ((nI 8).toUInt32 &&& Int32.toUInt32 31)).toInt32)).toUInt32 >>> ((nI 16).toUInt32 &&& Int32.toUInt32 31)).toInt32)))] dJ6_bitCount_0f7a4_47 rfl rfl (by decide) rfl ?_
  refine z_iload_n 49 C0 0 dJ6_bitCount_0f7a4_48 rfl rfl rfl ?_
  refine z_bipush 51 C0 (v := (nI 63)) dJ6_bitCount_0f7a4_49 rfl rfl ?_
  refine z_iand 52 C0 (v := ((((((((x - (((x.toUInt32 >>> ((nI 1).toUInt32 &&& Int32.toUInt32 31)).toInt32) &&& (nI 1431655765))) &&& (nI 858993459)) + ((((x - (((x.toUInt32 >>> ((nI 1).toUInt32 &&& Int32.toUInt32 31)).toInt32) &&& (nI 1431655765))).toUInt32 >>> ((nI 2).toUInt32 &&& Int32.toUInt32 31)).toInt32) &&& (nI 858993459))) + (((((x - (((x.toUInt32 >>> ((nI 1).toUInt32 &&& Int32.toUInt32 31)).toInt32) &&& (nI 1431655765))) &&& (nI 858993459)) + ((((x - (((x.toUInt32 >>> ((nI 1).toUInt32 &&& Int32.toUInt32 31)).toInt32) &&& (nI 1431655765))).toUInt32 >>> ((nI 2).toUInt32 &&& Int32.toUInt32 31)).toInt32) &&& (nI 858993459))).toUInt32 >>> ((nI 4).toUInt32 &&& Int32.toUInt32 31)).toInt32)) &&& (nI 252645135)) + (((((((x - (((x.toUInt32 >>> ((nI 1).toUInt32 &&& Int32.toUInt32 31)).toInt32) &&& (nI 1431655765))) &&& (nI 858993459)) + ((((x - (((x.toUInt32 >>> ((nI 1).toUInt32 &&& Int32.toUInt32 31)).toInt32) &&& (nI 1431655765))).toUInt32 >>> ((nI 2).toUInt32 &&& Int32.toUInt32 31)).toInt32) &&& (nI 858993459))) + (((((x - (((x.toUInt32 >>> ((nI 1).toUInt32 &&& Int32.toUInt32 31)).toInt32) &&& (nI 1431655765))) &&& (nI 858993459)) + ((((x - (((x.toUInt32 >>> ((nI 1).toUInt32 &&& Int32.toUInt32 31)).toInt32) &&& (nI 1431655765))).toUInt32 >>> ((nI 2).toUInt32 &&& Int32.toUInt32 31)).toInt32) &&& (nI 858993459))).toUInt32 >>> ((nI 4).toUInt32 &&& Int32.toUInt32 31)).toInt32)) &&& (nI 252645135)).toUInt32 >>> ((nI 8).toUInt32 &&& Int32.toUInt32 31)).toInt32)) + ((((((((x - (((x.toUInt32 >>> ((nI 1).toUInt32 &&& Int32.toUInt32 31)).toInt32) &&& (nI 1431655765))) &&& (nI 858993459)) + ((((x - (((x.toUInt32 >>> ((nI 1).toUInt32 &&& Int32.toUInt32 31)).toInt32) &&& (nI 1431655765))).toUInt32 >>> ((nI 2).toUInt32 &&& Int32.toUInt32 31)).toInt32) &&& (nI 858993459))) + (((((x - (((x.toUInt32 >>> ((nI 1).toUInt32 &&& Int32.toUInt32 31)).toInt32) &&& (nI 1431655765))) &&& (nI 858993459)) + ((((x - (((x.toUInt32 >>> ((nI 1).toUInt32 &&& Int32.toUInt32 31)).toInt32) &&& (nI 1431655765))).toUInt32 >>> ((nI 2).toUInt32 &&& Int32.toUInt32 31)).toInt32) &&& (nI 858993459))).toUInt32 >>> ((nI 4).toUInt32 &&& Int32.toUInt32 31)).toInt32)) &&& (nI 252645135)) + (((((((x - (((x.toUInt32 >>> ((nI 1).toUInt32 &&& Int32.toUInt32 31)).toInt32) &&& (nI 1431655765))) &&& (nI 858993459)) + ((((x - (((x.toUInt32 >>> ((nI 1).toUInt32 &&& Int32.toUInt32 31)).toInt32) &&& (nI 1431655765))).toUInt32 >>> ((nI 2).toUInt32 &&& Int32.toUInt32 31)).toInt32) &&& (nI 858993459))) + (((((x - (((x.toUInt32 >>> ((nI 1).toUInt32 &&& Int32.toUInt32 31)).toInt32) &&& (nI 1431655765))) &&& (nI 858993459)) + ((((x - (((x.toUInt32 >>> ((nI 1).toUInt32 &&& Int32.toUInt32 31)).toInt32) &&& (nI 1431655765))).toUInt32 >>> ((nI 2).toUInt32 &&& Int32.toUInt32 31)).toInt32) &&& (nI 858993459))).toUInt32 >>> ((nI 4).toUInt32 &&& Int32.toUInt32 31)).toInt32)) &&& (nI 252645135)).toUInt32 >>> ((nI 8).toUInt32 &&& Int32.toUInt32 31)).toInt32)).toUInt32 >>> ((nI 16).toUInt32 &&& Int32.toUInt32 31)).toInt32)) &&& (nI 63))) dJ6_bitCount_0f7a4_51 rfl rfl ?_
  exact z_iret C0 rfl dJ6_bitCount_0f7a4_52 ⟨rfl, rfl⟩ (by decide) (by decide)

set_option maxHeartbeats 4000000 in
set_option maxRecDepth 100000 in
theorem isMisformed (l_ : Launch) (E : zE) (ck : Nat) (ch : Nat) (cr : Nat) (rc : Nat) (p : Nat) (po : Nat) (pn : Nat) (kd : Nat) (op : Nat → Int32) (nn : Nat → Int32) (len : Nat) (i : Nat) (hi : i < 64) (hkd : kd < 4) (hlen : len ≤ 64) : zMi l_ E yX0_isMisformed (zTs yX0_isMisformed cX0_isMisformed 5 (some .boolean)) ({ frames := 1, cells := 0, slots := 0, locals := 21 } : Room) [.ref ck, .ref p, .int (nI i)] [(ck, zo 0 [.ref ch, .ref cr, .int (nI rc)]), (p, zo 5 [.int (nI kd), .ref po, .ref pn, .int (nI len)]), (po, zi E 64 op), (pn, zi E 64 nn)] (fun r_ w_ => (r_ = (zb (¬ ∃ o, pOK kd op nn len i o)) ∧ w_ = [(ck, zo 0 [.ref ch, .ref cr, .int (nI rc)]), (p, zo 5 [.int (nI kd), .ref po, .ref pn, .int (nI len)]), (po, zi E 64 op), (pn, zi E 64 nn)])) 0 0 := by
  refine zMi.of (cc := cX0_isMisformed) (nL := 5) (ret := (some .boolean)) (by decide) rfl (Nat.le_of_ble_eq_true rfl) ?_
  intro p_ e_ s_ m_ args_ below_ meth_ c_ A_ C0 hin0
  have C0 : zC E p_ s_ m_ args_ meth_ c_ cX0_isMisformed 5 (some .boolean) RX0 (zTs yX0_isMisformed cX0_isMisformed 5 (some .boolean)) A_ := C0
  refine z_eqL (L1 := [(0, .ref ck), (1, .ref p), (2, .int (nI i))]) rfl ?_
  refine z_aload_n 1 C0 1 dX0_isMisformed_0 rfl rfl rfl ?_
  refine z_get 4 C0 1 1 wz_5 rfl (by decide) (zTs_in wk_72) dX0_isMisformed_1 rfl rfl rfl ?_
  refine z_iload_n 5 C0 2 dX0_isMisformed_4 rfl rfl rfl ?_
  refine z_ialdN 6 C0 2 (v := (op i)) dX0_isMisformed_5 rfl rfl (by omega) (by decide) rfl ?_
  refine z_istore_n 7 C0 [1, 2, 3, 0] [(0, .ref ck), (1, .ref p), (2, .int (nI i)), (3, .int (op i))] dX0_isMisformed_6 rfl rfl (by decide) rfl ?_
  refine z_aload_n 8 C0 1 dX0_isMisformed_7 rfl rfl rfl ?_
  refine z_get 11 C0 1 2 wz_5 rfl (by decide) (zTs_in wk_75) dX0_isMisformed_8 rfl rfl rfl ?_
  refine z_iload_n 12 C0 2 dX0_isMisformed_11 rfl rfl rfl ?_
  refine z_ialdN 13 C0 3 (v := (nn i)) dX0_isMisformed_12 rfl rfl (by omega) (by decide) rfl ?_
  refine z_istore 15 C0 [1, 2, 3, 4, 0] [(0, .ref ck), (1, .ref p), (2, .int (nI i)), (3, .int (op i)), (4, .int (nn i))] dX0_isMisformed_13 rfl (by decide) rfl ?_
  refine z_iload_n 16 C0 3 dX0_isMisformed_15 rfl rfl rfl ?_
  refine z_if_lt 19 25 C0 dX0_isMisformed_16 rfl (by decide) (fun k16 => ?_) (fun k16 => ?_)
  · skip
    refine z_iconst 26 C0 (v := (nI 1)) dX0_isMisformed_25 rfl rfl ?_
    exact z_zret C0 rfl rfl dX0_isMisformed_26 ⟨(zb_tN (fun ⟨o, h⟩ => by first | (rw [h.2.1] at k16; exact nI_pos (by have := h.1; omega) k16) | (rw [h.2.1] at k22; exact k22 (nI_le h.1 (by decide))))), rfl⟩ (by decide) (by decide)
  · skip
    refine z_iload_n 20 C0 3 dX0_isMisformed_19 rfl rfl rfl ?_
    refine z_bipush 22 C0 (v := (nI 18)) dX0_isMisformed_20 rfl rfl ?_
    refine z_icmp_le 25 27 C0 dX0_isMisformed_22 rfl (by decide) (fun k22 => ?_) (fun k22 => ?_)
    · skip
      obtain ⟨o, ho, hop⟩ := nI_of2 (n := 18) (by decide) k16 k22
      refine z_eq (L1 := [(0, .ref ck), (1, .ref p), (2, .int (nI i)), (3, .int (nI o)), (4, .int (nn i))]) (st1 := []) (w1 := [(ck, zo 0 [.ref ch, .ref cr, .int (nI rc)]), (p, zo 5 [.int (nI kd), .ref po, .ref pn, .int (nI len)]), (po, zi E 64 op), (pn, zi E 64 nn)]) (by rw [hop]) rfl rfl ?_
      refine z_iload_n 28 C0 3 dX0_isMisformed_27 rfl rfl rfl ?_
      refine z_bipush 30 C0 (v := (nI 16)) dX0_isMisformed_28 rfl rfl ?_
      refine z_icmp_neN 33 46 C0 (by omega) (by decide) dX0_isMisformed_30 rfl (by decide) (fun k30 => ?_) (fun k30 => ?_)
      · skip
        refine z_iload_n 47 C0 3 dX0_isMisformed_46 rfl rfl rfl ?_
        refine z_bipush 49 C0 (v := (nI 18)) dX0_isMisformed_47 rfl rfl ?_
        refine z_icmp_neN 52 66 C0 (by omega) (by decide) dX0_isMisformed_49 rfl (by decide) (fun k49 => ?_) (fun k49 => ?_)
        · skip
          refine z_iload_n 67 C0 3 dX0_isMisformed_66 rfl rfl rfl ?_
          refine z_iconst 68 C0 (v := (nI 1)) dX0_isMisformed_67 rfl rfl ?_
          refine z_icmp_neN 71 91 C0 (by omega) (by decide) dX0_isMisformed_68 rfl (by decide) (fun k68 => ?_) (fun k68 => ?_)
          · skip
            refine z_iload_n 92 C0 3 dX0_isMisformed_91 rfl rfl rfl ?_
            refine z_iconst 93 C0 (v := (nI 2)) dX0_isMisformed_92 rfl rfl ?_
            refine z_icmp_eqN 96 101 C0 (by omega) (by decide) dX0_isMisformed_93 rfl (by decide) (fun k93 => ?_) (fun k93 => ?_)
            · skip
              refine z_iload 103 C0 4 dX0_isMisformed_101 rfl rfl ?_
              refine z_if_lt 106 112 C0 dX0_isMisformed_103 rfl (by decide) (fun k103 => ?_) (fun k103 => ?_)
              · skip
                refine z_iconst 113 C0 (v := (nI 1)) dX0_isMisformed_112 rfl rfl ?_
                refine z_goto 117 C0 dX0_isMisformed_113 (by decide) ?_
                exact z_zret C0 rfl rfl dX0_isMisformed_117 ⟨(mis_t ho hop (fun h => by obtain ⟨j, hj, e⟩ := h.2.2.2.1 (by omega); have hN := nArg_le kd; first | (rw [e] at k103; exact nI_pos (by omega) k103) | (rw [e] at k109; exact k109 (nI_lt hj (by omega))))), rfl⟩ (by decide) (by decide)
              · skip
                refine z_iload 108 C0 4 dX0_isMisformed_106 rfl rfl ?_
                refine z_iconst 109 C0 (v := (nI 4)) dX0_isMisformed_108 rfl rfl ?_
                refine z_icmp_lt 112 116 C0 dX0_isMisformed_109 rfl (by decide) (fun k109 => ?_) (fun k109 => ?_)
                · skip
                  refine z_iconst 117 C0 (v := (nI 0)) dX0_isMisformed_116 rfl rfl ?_
                  exact z_zret C0 rfl rfl dX0_isMisformed_117 ⟨(mis_f ho hop (by have hx := nI_ltx (by decide) k103 k109; refine ⟨?_, ?_, ?_, ?_, ?_⟩ <;> intro q <;> first | exact hx | (exact absurd q (by omega)))), rfl⟩ (by decide) (by decide)
                · skip
                  refine z_iconst 113 C0 (v := (nI 1)) dX0_isMisformed_112 rfl rfl ?_
                  refine z_goto 117 C0 dX0_isMisformed_113 (by decide) ?_
                  exact z_zret C0 rfl rfl dX0_isMisformed_117 ⟨(mis_t ho hop (fun h => by obtain ⟨j, hj, e⟩ := h.2.2.2.1 (by omega); have hN := nArg_le kd; first | (rw [e] at k103; exact nI_pos (by omega) k103) | (rw [e] at k109; exact k109 (nI_lt hj (by omega))))), rfl⟩ (by decide) (by decide)
            · skip
              refine z_iload_n 97 C0 3 dX0_isMisformed_96 rfl rfl rfl ?_
              refine z_iconst 98 C0 (v := (nI 3)) dX0_isMisformed_97 rfl rfl ?_
              refine z_icmp_neN 101 118 C0 (by omega) (by decide) dX0_isMisformed_98 rfl (by decide) (fun k98 => ?_) (fun k98 => ?_)
              · skip
                refine z_iload_n 119 C0 3 dX0_isMisformed_118 rfl rfl rfl ?_
                refine z_callSNi 122 C0 [] [0, 1, 2, 3] [(ck, zo 0 [.ref ch, .ref cr, .int (nI rc)]), (p, zo 5 [.int (nI kd), .ref po, .ref pn, .int (nI len)]), (po, zi E 64 op), (pn, zi E 64 nn)] 0 0 (As := [.int (nI o)]) (n := 1) (isJump l_ E o (by omega)) (zTs_good (fun _ => zTs_in) wk_276) rfl C0.2.2.2.2.2.2.2.2.2.1.1.2.2.2.1 (zTs_in wk_12) (zTs_in wk_275) ⟨by decide, by decide, by decide +kernel⟩ rfl rfl (by decide) rfl rfl (Nat.le_of_ble_eq_true rfl) ⟨by decide, by decide⟩ rfl rfl ⟨by decide, by decide⟩ ⟨by decide, by decide⟩ dX0_isMisformed_119 rfl (fun r119 w119 hB119 => ?_)
                obtain ⟨rfl, rfl⟩ := hB119
                refine z_perm [0, 1, 2, 3] [(ck, zo 0 [.ref ch, .ref cr, .int (nI rc)]), (p, zo 5 [.int (nI kd), .ref po, .ref pn, .int (nI len)]), (po, zi E 64 op), (pn, zi E 64 nn)] (by decide) rfl ?_
                refine z_if_eqP 125 138 C0 dX0_isMisformed_122 rfl (by decide) (fun k122 => ?_) (fun k122 => ?_)
                · skip
                  refine z_iconst 139 C0 (v := (nI 0)) dX0_isMisformed_138 rfl rfl ?_
                  exact z_zret C0 rfl rfl dX0_isMisformed_139 ⟨(mis_f ho hop (by refine ⟨?_, ?_, ?_, ?_, ?_⟩ <;> intro q <;> first | exact k131 | (exact absurd q (by omega)) | exact absurd q k122)), rfl⟩ (by decide) (by decide)
                · skip
                  refine z_aload_n 126 C0 1 dX0_isMisformed_125 rfl rfl rfl ?_
                  refine z_iload 128 C0 4 dX0_isMisformed_126 rfl rfl ?_
                  refine z_callVi 131 C0 [1] [0, 2, 3] [(ck, zo 0 [.ref ch, .ref cr, .int (nI rc)]), (po, zi E 64 op), (pn, zi E 64 nn)] 0 0 (As := [.int (nn i)]) (T := TX5) (N := 4) (C := RX5) (ci := 5) (n := 1) 0 (has_i l_ E p po pn kd len (nn i) (by omega)) (zGIV (fun _ => zTs_in) wk_280 wk_277 wk_278 wk_279 wk_15) rfl ⟨rfl, by decide, by decide, by decide +kernel⟩ rfl rfl rfl rfl (by decide) rfl rfl (Nat.le_of_ble_eq_true rfl) ⟨by decide, by decide⟩ rfl rfl ⟨by decide, by decide⟩ ⟨by decide, by decide⟩ dX0_isMisformed_128 rfl (fun r128 w128 hB128 => ?_)
                  obtain ⟨rfl, rfl⟩ := hB128
                  refine z_perm [0, 3, 1, 2] [(ck, zo 0 [.ref ch, .ref cr, .int (nI rc)]), (p, zo 5 [.int (nI kd), .ref po, .ref pn, .int (nI len)]), (po, zi E 64 op), (pn, zi E 64 nn)] (by decide) rfl ?_
                  refine z_if_neP 134 138 C0 dX0_isMisformed_131 rfl (by decide) (fun k131 => ?_) (fun k131 => ?_)
                  · skip
                    refine z_iconst 139 C0 (v := (nI 0)) dX0_isMisformed_138 rfl rfl ?_
                    exact z_zret C0 rfl rfl dX0_isMisformed_139 ⟨(mis_f ho hop (by refine ⟨?_, ?_, ?_, ?_, ?_⟩ <;> intro q <;> first | exact k131 | (exact absurd q (by omega)) | exact absurd q k122)), rfl⟩ (by decide) (by decide)
                  · skip
                    refine z_iconst 135 C0 (v := (nI 1)) dX0_isMisformed_134 rfl rfl ?_
                    refine z_goto 139 C0 dX0_isMisformed_135 (by decide) ?_
                    exact z_zret C0 rfl rfl dX0_isMisformed_139 ⟨(mis_t ho hop (fun h => k131 (h.2.2.2.2 (by omega)))), rfl⟩ (by decide) (by decide)
              · skip
                refine z_iload 103 C0 4 dX0_isMisformed_101 rfl rfl ?_
                refine z_if_lt 106 112 C0 dX0_isMisformed_103 rfl (by decide) (fun k103 => ?_) (fun k103 => ?_)
                · skip
                  refine z_iconst 113 C0 (v := (nI 1)) dX0_isMisformed_112 rfl rfl ?_
                  refine z_goto 117 C0 dX0_isMisformed_113 (by decide) ?_
                  exact z_zret C0 rfl rfl dX0_isMisformed_117 ⟨(mis_t ho hop (fun h => by obtain ⟨j, hj, e⟩ := h.2.2.2.1 (by omega); have hN := nArg_le kd; first | (rw [e] at k103; exact nI_pos (by omega) k103) | (rw [e] at k109; exact k109 (nI_lt hj (by omega))))), rfl⟩ (by decide) (by decide)
                · skip
                  refine z_iload 108 C0 4 dX0_isMisformed_106 rfl rfl ?_
                  refine z_iconst 109 C0 (v := (nI 4)) dX0_isMisformed_108 rfl rfl ?_
                  refine z_icmp_lt 112 116 C0 dX0_isMisformed_109 rfl (by decide) (fun k109 => ?_) (fun k109 => ?_)
                  · skip
                    refine z_iconst 117 C0 (v := (nI 0)) dX0_isMisformed_116 rfl rfl ?_
                    exact z_zret C0 rfl rfl dX0_isMisformed_117 ⟨(mis_f ho hop (by have hx := nI_ltx (by decide) k103 k109; refine ⟨?_, ?_, ?_, ?_, ?_⟩ <;> intro q <;> first | exact hx | (exact absurd q (by omega)))), rfl⟩ (by decide) (by decide)
                  · skip
                    refine z_iconst 113 C0 (v := (nI 1)) dX0_isMisformed_112 rfl rfl ?_
                    refine z_goto 117 C0 dX0_isMisformed_113 (by decide) ?_
                    exact z_zret C0 rfl rfl dX0_isMisformed_117 ⟨(mis_t ho hop (fun h => by obtain ⟨j, hj, e⟩ := h.2.2.2.1 (by omega); have hN := nArg_le kd; first | (rw [e] at k103; exact nI_pos (by omega) k103) | (rw [e] at k109; exact k109 (nI_lt hj (by omega))))), rfl⟩ (by decide) (by decide)
          · skip
            refine z_iload 73 C0 4 dX0_isMisformed_71 rfl rfl ?_
            refine z_if_lt 76 85 C0 dX0_isMisformed_73 rfl (by decide) (fun k73 => ?_) (fun k73 => ?_)
            · skip
              refine z_iconst 86 C0 (v := (nI 1)) dX0_isMisformed_85 rfl rfl ?_
              refine z_goto 90 C0 dX0_isMisformed_86 (by decide) ?_
              exact z_zret C0 rfl rfl dX0_isMisformed_90 ⟨(mis_t ho hop (fun h => by obtain ⟨j, hj, e⟩ := h.2.2.1 (by omega); have hN := nArg_le kd; first | (rw [e] at k73; exact nI_pos (by omega) k73) | (rw [e] at k82; exact k82 (nI_lt hj (by omega))))), rfl⟩ (by decide) (by decide)
            · skip
              refine z_iload 78 C0 4 dX0_isMisformed_76 rfl rfl ?_
              refine z_aload_n 79 C0 1 dX0_isMisformed_78 rfl rfl rfl ?_
              refine z_callVi 82 C0 [1] [0, 2, 3] [(ck, zo 0 [.ref ch, .ref cr, .int (nI rc)]), (po, zi E 64 op), (pn, zi E 64 nn)] 0 0 (As := []) (T := TX5) (N := 4) (C := RX5) (ci := 5) (n := 0) 0 (argCount l_ E p po pn kd len (hkd)) (zGIV (fun _ => zTs_in) wk_273 wk_270 wk_271 wk_272 wk_15) rfl ⟨rfl, by decide, by decide, by decide +kernel⟩ rfl rfl rfl rfl (by decide) rfl rfl (Nat.le_of_ble_eq_true rfl) ⟨by decide, by decide⟩ rfl rfl ⟨by decide, by decide⟩ ⟨by decide, by decide⟩ dX0_isMisformed_79 rfl (fun r79 w79 hB79 => ?_)
              obtain ⟨rfl, rfl⟩ := hB79
              refine z_perm [0, 3, 1, 2] [(ck, zo 0 [.ref ch, .ref cr, .int (nI rc)]), (p, zo 5 [.int (nI kd), .ref po, .ref pn, .int (nI len)]), (po, zi E 64 op), (pn, zi E 64 nn)] (by decide) rfl ?_
              refine z_icmp_lt 85 89 C0 dX0_isMisformed_82 rfl (by decide) (fun k82 => ?_) (fun k82 => ?_)
              · skip
                refine z_iconst 90 C0 (v := (nI 0)) dX0_isMisformed_89 rfl rfl ?_
                exact z_zret C0 rfl rfl dX0_isMisformed_90 ⟨(mis_f ho hop (by have hN := nArg_le kd; have hx := nI_ltx (by omega) k73 k82; refine ⟨?_, ?_, ?_, ?_, ?_⟩ <;> intro q <;> first | exact hx | (exact absurd q (by omega)))), rfl⟩ (by decide) (by decide)
              · skip
                refine z_iconst 86 C0 (v := (nI 1)) dX0_isMisformed_85 rfl rfl ?_
                refine z_goto 90 C0 dX0_isMisformed_86 (by decide) ?_
                exact z_zret C0 rfl rfl dX0_isMisformed_90 ⟨(mis_t ho hop (fun h => by obtain ⟨j, hj, e⟩ := h.2.2.1 (by omega); have hN := nArg_le kd; first | (rw [e] at k73; exact nI_pos (by omega) k73) | (rw [e] at k82; exact k82 (nI_lt hj (by omega))))), rfl⟩ (by decide) (by decide)
        · skip
          refine z_aload_n 53 C0 1 dX0_isMisformed_52 rfl rfl rfl ?_
          refine z_get 56 C0 1 0 wz_5 rfl (by decide) (zTs_in wk_69) dX0_isMisformed_53 rfl rfl rfl ?_
          refine z_iconst 57 C0 (v := (nI 3)) dX0_isMisformed_56 rfl rfl ?_
          refine z_icmp_eqN 60 64 C0 (by omega) (by decide) dX0_isMisformed_57 rfl (by decide) (fun k57 => ?_) (fun k57 => ?_)
          · skip
            refine z_iconst 65 C0 (v := (nI 0)) dX0_isMisformed_64 rfl rfl ?_
            exact z_zret C0 rfl rfl dX0_isMisformed_65 ⟨(mis_f ho hop (by refine ⟨?_, ?_, ?_, ?_, ?_⟩ <;> intro q <;> first | omega | (exact absurd q (by omega)))), rfl⟩ (by decide) (by decide)
          · skip
            refine z_iconst 61 C0 (v := (nI 1)) dX0_isMisformed_60 rfl rfl ?_
            refine z_goto 65 C0 dX0_isMisformed_61 (by decide) ?_
            exact z_zret C0 rfl rfl dX0_isMisformed_65 ⟨(mis_t ho hop (fun h => absurd (h.2.1 (by omega)) (by omega))), rfl⟩ (by decide) (by decide)
      · skip
        refine z_aload_n 34 C0 1 dX0_isMisformed_33 rfl rfl rfl ?_
        refine z_get 37 C0 1 0 wz_5 rfl (by decide) (zTs_in wk_69) dX0_isMisformed_34 rfl rfl rfl ?_
        refine z_if_eqN 40 44 C0 (by omega) dX0_isMisformed_37 rfl (by decide) (fun k37 => ?_) (fun k37 => ?_)
        · skip
          refine z_iconst 45 C0 (v := (nI 0)) dX0_isMisformed_44 rfl rfl ?_
          exact z_zret C0 rfl rfl dX0_isMisformed_45 ⟨(mis_f ho hop (by refine ⟨?_, ?_, ?_, ?_, ?_⟩ <;> intro q <;> first | omega | (exact absurd q (by omega)))), rfl⟩ (by decide) (by decide)
        · skip
          refine z_iconst 41 C0 (v := (nI 1)) dX0_isMisformed_40 rfl rfl ?_
          refine z_goto 45 C0 dX0_isMisformed_41 (by decide) ?_
          exact z_zret C0 rfl rfl dX0_isMisformed_45 ⟨(mis_t ho hop (fun h => absurd (h.1 (by omega)) (by omega))), rfl⟩ (by decide) (by decide)
    · skip
      refine z_iconst 26 C0 (v := (nI 1)) dX0_isMisformed_25 rfl rfl ?_
      exact z_zret C0 rfl rfl dX0_isMisformed_26 ⟨(zb_tN (fun ⟨o, h⟩ => by first | (rw [h.2.1] at k16; exact nI_pos (by have := h.1; omega) k16) | (rw [h.2.1] at k22; exact k22 (nI_le h.1 (by decide))))), rfl⟩ (by decide) (by decide)

set_option maxHeartbeats 4000000 in
set_option maxRecDepth 100000 in
theorem lacksNext (l_ : Launch) (E : zE) (ck : Nat) (ch : Nat) (cr : Nat) (rc : Nat) (p : Nat) (po : Nat) (pn : Nat) (kd : Nat) (op : Nat → Int32) (nn : Nat → Int32) (len : Nat) (i : Nat) (o : Nat) (hi : i < 64) (ho : o ≤ 18) (hop : op i = nI o) (hlen : len ≤ 64) : zMi l_ E yX0_lacksNext (zTs yX0_lacksNext cX0_lacksNext 3 (some .boolean)) ({ frames := 1, cells := 0, slots := 0, locals := 21 } : Room) [.ref ck, .ref p, .int (nI i)] [(ck, zo 0 [.ref ch, .ref cr, .int (nI rc)]), (p, zo 5 [.int (nI kd), .ref po, .ref pn, .int (nI len)]), (po, zi E 64 op), (pn, zi E 64 nn)] (fun r_ w_ => (r_ = (zb (hasNx o ∧ ¬ i + 1 < len)) ∧ w_ = [(ck, zo 0 [.ref ch, .ref cr, .int (nI rc)]), (p, zo 5 [.int (nI kd), .ref po, .ref pn, .int (nI len)]), (po, zi E 64 op), (pn, zi E 64 nn)])) 0 0 := by
  refine zMi.of (cc := cX0_lacksNext) (nL := 3) (ret := (some .boolean)) (by decide) rfl (Nat.le_of_ble_eq_true rfl) ?_
  intro p_ e_ s_ m_ args_ below_ meth_ c_ A_ C0 hin0
  have C0 : zC E p_ s_ m_ args_ meth_ c_ cX0_lacksNext 3 (some .boolean) RX0 (zTs yX0_lacksNext cX0_lacksNext 3 (some .boolean)) A_ := C0
  refine z_eqL (L1 := [(0, .ref ck), (1, .ref p), (2, .int (nI i))]) rfl ?_
  refine z_aload_n 1 C0 1 dX0_lacksNext_0 rfl rfl rfl ?_
  refine z_get 4 C0 1 1 wz_5 rfl (by decide) (zTs_in wk_72) dX0_lacksNext_1 rfl rfl rfl ?_
  refine z_iload_n 5 C0 2 dX0_lacksNext_4 rfl rfl rfl ?_
  refine z_ialdN 6 C0 2 (v := (nI o)) dX0_lacksNext_5 rfl rfl (by omega) (by decide) hop ?_
  refine z_callSi 9 C0 [] [0, 1, 2, 3] [(ck, zo 0 [.ref ch, .ref cr, .int (nI rc)]), (p, zo 5 [.int (nI kd), .ref po, .ref pn, .int (nI len)]), (po, zi E 64 op), (pn, zi E 64 nn)] 0 0 (As := [.int (nI o)]) (n := 1) (hasNext l_ E o (by omega)) (zGIS (fun _ => zTs_in) wk_287 wk_285 wk_286 wk_16) rfl ⟨by decide, by decide, by decide +kernel⟩ rfl rfl (by decide) rfl rfl (Nat.le_of_ble_eq_true rfl) ⟨by decide, by decide⟩ rfl rfl ⟨by decide, by decide⟩ ⟨by decide, by decide⟩ dX0_lacksNext_6 rfl (fun r6 w6 hB6 => ?_)
  obtain ⟨rfl, rfl⟩ := hB6
  refine z_perm [0, 1, 2, 3] [(ck, zo 0 [.ref ch, .ref cr, .int (nI rc)]), (p, zo 5 [.int (nI kd), .ref po, .ref pn, .int (nI len)]), (po, zi E 64 op), (pn, zi E 64 nn)] (by decide) rfl ?_
  refine z_if_eqP 12 26 C0 dX0_lacksNext_9 rfl (by decide) (fun k9 => ?_) (fun k9 => ?_)
  · skip
    refine z_iconst 27 C0 (v := (nI 0)) dX0_lacksNext_26 rfl rfl ?_
    exact z_zret C0 rfl rfl dX0_lacksNext_27 ⟨(zb_fN (fun q => by first | exact k9 q.1 | exact q.2 k19)), rfl⟩ (by decide) (by decide)
  · skip
    refine z_aload_n 13 C0 1 dX0_lacksNext_12 rfl rfl rfl ?_
    refine z_iload_n 14 C0 2 dX0_lacksNext_13 rfl rfl rfl ?_
    refine z_iconst 15 C0 (v := (nI 1)) dX0_lacksNext_14 rfl rfl ?_
    refine z_iadd 16 C0 (v := (nI (i + 1))) dX0_lacksNext_15 rfl (nI_add _ _) ?_
    refine z_callVi 19 C0 [1] [0, 2, 3] [(ck, zo 0 [.ref ch, .ref cr, .int (nI rc)]), (po, zi E 64 op), (pn, zi E 64 nn)] 0 0 (As := [.int (nI (i + 1))]) (T := TX5) (N := 4) (C := RX5) (ci := 5) (n := 1) 0 (has_n l_ E p po pn kd len (i + 1) (by omega) (by omega)) (zGIV (fun _ => zTs_in) wk_280 wk_277 wk_278 wk_279 wk_15) rfl ⟨rfl, by decide, by decide, by decide +kernel⟩ rfl rfl rfl rfl (by decide) rfl rfl (Nat.le_of_ble_eq_true rfl) ⟨by decide, by decide⟩ rfl rfl ⟨by decide, by decide⟩ ⟨by decide, by decide⟩ dX0_lacksNext_16 rfl (fun r16 w16 hB16 => ?_)
    obtain ⟨rfl, rfl⟩ := hB16
    refine z_perm [0, 3, 1, 2] [(ck, zo 0 [.ref ch, .ref cr, .int (nI rc)]), (p, zo 5 [.int (nI kd), .ref po, .ref pn, .int (nI len)]), (po, zi E 64 op), (pn, zi E 64 nn)] (by decide) rfl ?_
    refine z_if_neP 22 26 C0 dX0_lacksNext_19 rfl (by decide) (fun k19 => ?_) (fun k19 => ?_)
    · skip
      refine z_iconst 27 C0 (v := (nI 0)) dX0_lacksNext_26 rfl rfl ?_
      exact z_zret C0 rfl rfl dX0_lacksNext_27 ⟨(zb_fN (fun q => by first | exact k9 q.1 | exact q.2 k19)), rfl⟩ (by decide) (by decide)
    · skip
      refine z_iconst 23 C0 (v := (nI 1)) dX0_lacksNext_22 rfl rfl ?_
      refine z_goto 27 C0 dX0_lacksNext_23 (by decide) ?_
      exact z_zret C0 rfl rfl dX0_lacksNext_27 ⟨(zb_tN ⟨k9, k19⟩), rfl⟩ (by decide) (by decide)

set_option maxHeartbeats 4000000 in
set_option maxRecDepth 100000 in
theorem fits (l_ : Launch) (E : zE) (ck : Nat) (ch : Nat) (cr : Nat) (rc : Nat) (p : Nat) (po : Nat) (pn : Nat) (kd : Nat) (op : Nat → Int32) (nn : Nat → Int32) (len : Nat) (i : Nat) (h : Nat) (o : Nat) (hi : i < 64) (ho : o ≤ 18) (hop : op i = nI o) (hh : h ≤ 8) (hkd : kd < 4) : zMi l_ E yX0_fits (zTs yX0_fits cX0_fits 6 (some .boolean)) ({ frames := 0, cells := 0, slots := 0, locals := 0 } : Room) [.ref ck, .ref p, .int (nI i), .int (nI h)] [(ck, zo 0 [.ref ch, .ref cr, .int (nI rc)]), (p, zo 5 [.int (nI kd), .ref po, .ref pn, .int (nI len)]), (po, zi E 64 op), (pn, zi E 64 nn)] (fun r_ w_ => (r_ = (zb (pNeed kd o ≤ h ∧ h + gU o - gD o ≤ 8)) ∧ w_ = [(ck, zo 0 [.ref ch, .ref cr, .int (nI rc)]), (p, zo 5 [.int (nI kd), .ref po, .ref pn, .int (nI len)]), (po, zi E 64 op), (pn, zi E 64 nn)])) 0 0 := by
  refine zMi.of (cc := cX0_fits) (nL := 6) (ret := (some .boolean)) (by decide) rfl (Nat.le_of_ble_eq_true rfl) ?_
  intro p_ e_ s_ m_ args_ below_ meth_ c_ A_ C0 hin0
  have C0 : zC E p_ s_ m_ args_ meth_ c_ cX0_fits 6 (some .boolean) RX0 (zTs yX0_fits cX0_fits 6 (some .boolean)) A_ := C0
  refine z_eqL (L1 := [(0, .ref ck), (1, .ref p), (2, .int (nI i)), (3, .int (nI h))]) rfl ?_
  refine z_aload_n 1 C0 1 dX0_fits_0 rfl rfl rfl ?_
  refine z_get 4 C0 1 1 wz_5 rfl (by decide) (zTs_in wk_72) dX0_fits_1 rfl rfl rfl ?_
  refine z_iload_n 5 C0 2 dX0_fits_4 rfl rfl rfl ?_
  refine z_ialdN 6 C0 2 (v := (nI o)) dX0_fits_5 rfl rfl (by omega) (by decide) hop ?_
  refine z_istore 8 C0 [1, 2, 3, 4, 0] [(0, .ref ck), (1, .ref p), (2, .int (nI i)), (3, .int (nI h)), (4, .int (nI o))] dX0_fits_6 rfl (by decide) rfl ?_
  refine z_iload 10 C0 4 dX0_fits_8 rfl rfl ?_
  refine z_bipush 12 C0 (v := (nI 17)) dX0_fits_10 rfl rfl ?_
  refine z_icmp_neN 15 26 C0 (by omega) (by decide) dX0_fits_12 rfl (by decide) (fun k12 => ?_) (fun k12 => ?_)
  · skip
    refine z_getsN 29 C0 (zTs_in wk_292) dX0_fits_26 rfl ?_
    refine z_iload 31 C0 4 dX0_fits_29 rfl rfl ?_
    refine z_tabN 32 C0 (v := (nI (nNeed o))) dX0_fits_31 rfl (by omega) (zNeed_eq ho) ?_
    have hpn : pNeed kd o = (nNeed o) := by unfold pNeed; first | rw [if_pos ⟨by omega, by omega⟩] | rw [if_neg (fun q => by omega)]
    have hgd := gD_le ho
    refine z_istore 34 C0 [1, 2, 3, 4, 5, 0] [(0, .ref ck), (1, .ref p), (2, .int (nI i)), (3, .int (nI h)), (4, .int (nI o)), (5, .int (nI (nNeed o)))] dX0_fits_32 rfl (by decide) rfl ?_
    refine z_iload_n 35 C0 3 dX0_fits_34 rfl rfl rfl ?_
    refine z_iload 37 C0 5 dX0_fits_35 rfl rfl ?_
    refine z_icmp_ltN 40 57 C0 (by omega) (by omega) dX0_fits_37 rfl (by decide) (fun k37 => ?_) (fun k37 => ?_)
    · skip
      refine z_iconst 58 C0 (v := (nI 0)) dX0_fits_57 rfl rfl ?_
      exact z_zret C0 rfl rfl dX0_fits_58 ⟨(zb_fN (fun q => by have h1 := q.1; have h2 := q.2; omega)), rfl⟩ (by decide) (by decide)
    · skip
      refine z_iload_n 41 C0 3 dX0_fits_40 rfl rfl rfl ?_
      refine z_getsG 44 C0 (zTs_in wk_294) dX0_fits_41 rfl ?_
      refine z_iload 46 C0 4 dX0_fits_44 rfl rfl ?_
      refine z_tabG 47 C0 (v := (zGrow o)) dX0_fits_46 rfl (by omega) rfl ?_
      refine z_iadd 48 C0 (v := (nI (h + gU o - gD o))) dX0_fits_47 rfl (grow_eq ho (by have h17 := hgd.2.2.2; omega)) ?_
      refine z_bipush 50 C0 (v := (nI 8)) dX0_fits_48 rfl rfl ?_
      refine z_icmp_gtN 53 57 C0 (by omega) (by decide) dX0_fits_50 rfl (by decide) (fun k50 => ?_) (fun k50 => ?_)
      · skip
        refine z_iconst 58 C0 (v := (nI 0)) dX0_fits_57 rfl rfl ?_
        exact z_zret C0 rfl rfl dX0_fits_58 ⟨(zb_fN (fun q => by have h1 := q.1; have h2 := q.2; omega)), rfl⟩ (by decide) (by decide)
      · skip
        refine z_iconst 54 C0 (v := (nI 1)) dX0_fits_53 rfl rfl ?_
        refine z_goto 58 C0 dX0_fits_54 (by decide) ?_
        exact z_zret C0 rfl rfl dX0_fits_58 ⟨(zb_tN ⟨by omega, by omega⟩), rfl⟩ (by decide) (by decide)
  · skip
    refine z_aload_n 16 C0 1 dX0_fits_15 rfl rfl rfl ?_
    refine z_get 19 C0 1 0 wz_5 rfl (by decide) (zTs_in wk_69) dX0_fits_16 rfl rfl rfl ?_
    refine z_if_neN 22 26 C0 (by omega) dX0_fits_19 rfl (by decide) (fun k19 => ?_) (fun k19 => ?_)
    · skip
      refine z_getsN 29 C0 (zTs_in wk_292) dX0_fits_26 rfl ?_
      refine z_iload 31 C0 4 dX0_fits_29 rfl rfl ?_
      refine z_tabN 32 C0 (v := (nI (nNeed o))) dX0_fits_31 rfl (by omega) (zNeed_eq ho) ?_
      have hpn : pNeed kd o = (nNeed o) := by unfold pNeed; first | rw [if_pos ⟨by omega, by omega⟩] | rw [if_neg (fun q => by omega)]
      have hgd := gD_le ho
      refine z_istore 34 C0 [1, 2, 3, 4, 5, 0] [(0, .ref ck), (1, .ref p), (2, .int (nI i)), (3, .int (nI h)), (4, .int (nI o)), (5, .int (nI (nNeed o)))] dX0_fits_32 rfl (by decide) rfl ?_
      refine z_iload_n 35 C0 3 dX0_fits_34 rfl rfl rfl ?_
      refine z_iload 37 C0 5 dX0_fits_35 rfl rfl ?_
      refine z_icmp_ltN 40 57 C0 (by omega) (by omega) dX0_fits_37 rfl (by decide) (fun k37 => ?_) (fun k37 => ?_)
      · skip
        refine z_iconst 58 C0 (v := (nI 0)) dX0_fits_57 rfl rfl ?_
        exact z_zret C0 rfl rfl dX0_fits_58 ⟨(zb_fN (fun q => by have h1 := q.1; have h2 := q.2; omega)), rfl⟩ (by decide) (by decide)
      · skip
        refine z_iload_n 41 C0 3 dX0_fits_40 rfl rfl rfl ?_
        refine z_getsG 44 C0 (zTs_in wk_294) dX0_fits_41 rfl ?_
        refine z_iload 46 C0 4 dX0_fits_44 rfl rfl ?_
        refine z_tabG 47 C0 (v := (zGrow o)) dX0_fits_46 rfl (by omega) rfl ?_
        refine z_iadd 48 C0 (v := (nI (h + gU o - gD o))) dX0_fits_47 rfl (grow_eq ho (by have h17 := hgd.2.2.2; omega)) ?_
        refine z_bipush 50 C0 (v := (nI 8)) dX0_fits_48 rfl rfl ?_
        refine z_icmp_gtN 53 57 C0 (by omega) (by decide) dX0_fits_50 rfl (by decide) (fun k50 => ?_) (fun k50 => ?_)
        · skip
          refine z_iconst 58 C0 (v := (nI 0)) dX0_fits_57 rfl rfl ?_
          exact z_zret C0 rfl rfl dX0_fits_58 ⟨(zb_fN (fun q => by have h1 := q.1; have h2 := q.2; omega)), rfl⟩ (by decide) (by decide)
        · skip
          refine z_iconst 54 C0 (v := (nI 1)) dX0_fits_53 rfl rfl ?_
          refine z_goto 58 C0 dX0_fits_54 (by decide) ?_
          exact z_zret C0 rfl rfl dX0_fits_58 ⟨(zb_tN ⟨by omega, by omega⟩), rfl⟩ (by decide) (by decide)
    · skip
      refine z_iconst 23 C0 (v := (nI 0)) dX0_fits_22 rfl rfl ?_
      refine z_goto 32 C0 dX0_fits_23 (by decide) ?_
      have hpn : pNeed kd o = 0 := by unfold pNeed; first | rw [if_pos ⟨by omega, by omega⟩] | rw [if_neg (fun q => by omega)]
      have hgd := gD_le ho
      refine z_istore 34 C0 [1, 2, 3, 4, 5, 0] [(0, .ref ck), (1, .ref p), (2, .int (nI i)), (3, .int (nI h)), (4, .int (nI o)), (5, .int (nI 0))] dX0_fits_32 rfl (by decide) rfl ?_
      refine z_iload_n 35 C0 3 dX0_fits_34 rfl rfl rfl ?_
      refine z_iload 37 C0 5 dX0_fits_35 rfl rfl ?_
      refine z_icmp_ltN 40 57 C0 (by omega) (by decide) dX0_fits_37 rfl (by decide) (fun k37 => ?_) (fun k37 => ?_)
      · skip
        refine z_iconst 58 C0 (v := (nI 0)) dX0_fits_57 rfl rfl ?_
        exact z_zret C0 rfl rfl dX0_fits_58 ⟨(zb_fN (fun q => by have h1 := q.1; have h2 := q.2; omega)), rfl⟩ (by decide) (by decide)
      · skip
        refine z_iload_n 41 C0 3 dX0_fits_40 rfl rfl rfl ?_
        refine z_getsG 44 C0 (zTs_in wk_294) dX0_fits_41 rfl ?_
        refine z_iload 46 C0 4 dX0_fits_44 rfl rfl ?_
        refine z_tabG 47 C0 (v := (zGrow o)) dX0_fits_46 rfl (by omega) rfl ?_
        refine z_iadd 48 C0 (v := (nI (h + gU o - gD o))) dX0_fits_47 rfl (grow_eq ho (by have h17 := hgd.2.2.2; omega)) ?_
        refine z_bipush 50 C0 (v := (nI 8)) dX0_fits_48 rfl rfl ?_
        refine z_icmp_gtN 53 57 C0 (by omega) (by decide) dX0_fits_50 rfl (by decide) (fun k50 => ?_) (fun k50 => ?_)
        · skip
          refine z_iconst 58 C0 (v := (nI 0)) dX0_fits_57 rfl rfl ?_
          exact z_zret C0 rfl rfl dX0_fits_58 ⟨(zb_fN (fun q => by have h1 := q.1; have h2 := q.2; omega)), rfl⟩ (by decide) (by decide)
        · skip
          refine z_iconst 54 C0 (v := (nI 1)) dX0_fits_53 rfl rfl ?_
          refine z_goto 58 C0 dX0_fits_54 (by decide) ?_
          exact z_zret C0 rfl rfl dX0_fits_58 ⟨(zb_tN ⟨by omega, by omega⟩), rfl⟩ (by decide) (by decide)

set_option maxHeartbeats 4000000 in
set_option maxRecDepth 100000 in
theorem hasHeight (l_ : Launch) (E : zE) (ck : Nat) (ch : Nat) (cr : Nat) (hm : Nat → Nat) (rc : Nat) (i : Nat) (h : Nat) (hi : i < 64) (hh : h < 9) (hm5 : hm i < 512) : zMi l_ E yX0_hasHeight (zTs yX0_hasHeight cX0_hasHeight 3 (some .boolean)) ({ frames := 0, cells := 0, slots := 0, locals := 0 } : Room) [.ref ck, .int (nI i), .int (nI h)] [(ck, zo 0 [.ref ch, .ref cr, .int (nI rc)]), (ch, zi E 64 (zn hm))] (fun r_ w_ => (r_ = (zb (hasB (hm i) h)) ∧ w_ = [(ck, zo 0 [.ref ch, .ref cr, .int (nI rc)]), (ch, zi E 64 (zn hm))])) 0 0 := by
  refine zMi.of (cc := cX0_hasHeight) (nL := 3) (ret := (some .boolean)) (by decide) rfl (Nat.le_of_ble_eq_true rfl) ?_
  intro p_ e_ s_ m_ args_ below_ meth_ c_ A_ C0 hin0
  have C0 : zC E p_ s_ m_ args_ meth_ c_ cX0_hasHeight 3 (some .boolean) RX0 (zTs yX0_hasHeight cX0_hasHeight 3 (some .boolean)) A_ := C0
  refine z_eqL (L1 := [(0, .ref ck), (1, .int (nI i)), (2, .int (nI h))]) rfl ?_
  refine z_aload_n 1 C0 0 dX0_hasHeight_0 rfl rfl rfl ?_
  refine z_get 4 C0 0 0 wz_0 rfl (by decide) (zTs_in wk_95) dX0_hasHeight_1 rfl rfl rfl ?_
  refine z_iload_n 5 C0 1 dX0_hasHeight_4 rfl rfl rfl ?_
  refine z_ialdN 6 C0 1 (v := (nI (hm i))) dX0_hasHeight_5 rfl rfl (by omega) (by decide) rfl ?_
  refine z_iload_n 7 C0 2 dX0_hasHeight_6 rfl rfl rfl ?_
  refine z_ishr 8 C0 (v := (nI (hm i) >>> (nI h &&& 31))) dX0_hasHeight_7 rfl rfl ?_
  refine z_iconst 9 C0 (v := (nI 1)) dX0_hasHeight_8 rfl rfl ?_
  refine z_iand 10 C0 (v := (nI (hm i / 2 ^ h % 2))) dX0_hasHeight_9 rfl (hb_shr _ hm5 _ hh) ?_
  have hb2 : hm i / 2 ^ h % 2 < 2 := Nat.mod_lt _ (by decide)
  refine z_iconst 11 C0 (v := (nI 1)) dX0_hasHeight_10 rfl rfl ?_
  refine z_icmp_neN 14 18 C0 (by omega) (by decide) dX0_hasHeight_11 rfl (by decide) (fun k11 => ?_) (fun k11 => ?_)
  · skip
    refine z_iconst 19 C0 (v := (nI 0)) dX0_hasHeight_18 rfl rfl ?_
    exact z_zret C0 rfl rfl dX0_hasHeight_19 ⟨(zb_fN k11), rfl⟩ (by decide) (by decide)
  · skip
    refine z_iconst 15 C0 (v := (nI 1)) dX0_hasHeight_14 rfl rfl ?_
    refine z_goto 19 C0 dX0_hasHeight_15 (by decide) ?_
    exact z_zret C0 rfl rfl dX0_hasHeight_19 ⟨(zb_tN k11), rfl⟩ (by decide) (by decide)

set_option maxHeartbeats 4000000 in
set_option maxRecDepth 100000 in
theorem fitsEvery (l_ : Launch) (E : zE) (ck : Nat) (ch : Nat) (cr : Nat) (hm : Nat → Nat) (rc : Nat) (p : Nat) (po : Nat) (pn : Nat) (kd : Nat) (op : Nat → Int32) (nn : Nat → Int32) (len : Nat) (i : Nat) (o : Nat) (hi : i < 64) (ho : o ≤ 18) (hop : op i = nI o) (hkd : kd < 4) (hm5 : hm i < 512) : zMi l_ E yX0_fitsEveryHeight (zTs yX0_fitsEveryHeight cX0_fitsEveryHeight 4 (some .boolean)) ({ frames := 1, cells := 0, slots := 0, locals := 25 } : Room) [.ref ck, .ref p, .int (nI i)] [(ck, zo 0 [.ref ch, .ref cr, .int (nI rc)]), (ch, zi E 64 (zn hm)), (p, zo 5 [.int (nI kd), .ref po, .ref pn, .int (nI len)]), (po, zi E 64 op), (pn, zi E 64 nn)] (fun r_ w_ => (r_ = (zb (∀ h, h < 9 → hasB (hm i) h → pNeed kd o ≤ h ∧ h + gU o - gD o ≤ 8)) ∧ w_ = [(ck, zo 0 [.ref ch, .ref cr, .int (nI rc)]), (ch, zi E 64 (zn hm)), (p, zo 5 [.int (nI kd), .ref po, .ref pn, .int (nI len)]), (po, zi E 64 op), (pn, zi E 64 nn)])) 0 0 := by
  refine zMi.of (cc := cX0_fitsEveryHeight) (nL := 4) (ret := (some .boolean)) (by decide) rfl (Nat.le_of_ble_eq_true rfl) ?_
  intro p_ e_ s_ m_ args_ below_ meth_ c_ A_ C0 hin0
  have C0 : zC E p_ s_ m_ args_ meth_ c_ cX0_fitsEveryHeight 4 (some .boolean) RX0 (zTs yX0_fitsEveryHeight cX0_fitsEveryHeight 4 (some .boolean)) A_ := C0
  refine z_eqL (L1 := [(0, .ref ck), (1, .ref p), (2, .int (nI i))]) rfl ?_
  refine z_iconst 1 C0 (v := (nI 0)) dX0_fitsEveryHeight_0 rfl rfl ?_
  refine z_istore_n 2 C0 [1, 2, 3, 0] [(0, .ref ck), (1, .ref p), (2, .int (nI i)), (3, .int (nI 0))] dX0_fitsEveryHeight_1 rfl rfl (by decide) rfl ?_
  have CUT2 : ∀ (N2 : Nat) (h : Nat), (h ≤ 9) → (∀ x, x < h → hasB (hm i) x → pNeed kd o ≤ x ∧ x + gU o - gD o ≤ 8) → 9 - h < N2 → Z E p_ l_ e_ ({ frames := 1, cells := 0, slots := 0, locals := 25 } : Room) s_ m_ args_ below_ meth_ c_ (MQ below_ (va_Qi (fun r_ w_ => (r_ = (zb (∀ h, h < 9 → hasB (hm i) h → pNeed kd o ≤ h ∧ h + gU o - gD o ≤ 8)) ∧ w_ = [(ck, zo 0 [.ref ch, .ref cr, .int (nI rc)]), (ch, zi E 64 (zn hm)), (p, zo 5 [.int (nI kd), .ref po, .ref pn, .int (nI len)]), (po, zi E 64 op), (pn, zi E 64 nn)])) (zPost E A_) A_) args_ s_ 0 0 A_) A_ 4 2 [(0, .ref ck), (1, .ref p), (2, .int (nI i)), (3, .int (nI h))] [] [(ck, zo 0 [.ref ch, .ref cr, .int (nI rc)]), (ch, zi E 64 (zn hm)), (p, zo 5 [.int (nI kd), .ref po, .ref pn, .int (nI len)]), (po, zi E 64 op), (pn, zi E 64 nn)] 0 0 := by
    intro N2
    induction N2 with
    | zero => intro h hh hall hm2; exact absurd hm2 (Nat.not_lt_zero _)
    | succ N2 ih2 =>
      intro h hh hall hm2
      refine z_iload_n 3 C0 3 dX0_fitsEveryHeight_2 rfl rfl rfl ?_
      refine z_bipush 5 C0 (v := (nI 9)) dX0_fitsEveryHeight_3 rfl rfl ?_
      refine z_icmp_geN 8 35 C0 (by omega) (by decide) dX0_fitsEveryHeight_5 rfl (by decide) (fun k5 => ?_) (fun k5 => ?_)
      · skip
        refine z_iconst 36 C0 (v := (nI 1)) dX0_fitsEveryHeight_35 rfl rfl ?_
        exact z_zret C0 rfl rfl dX0_fitsEveryHeight_36 ⟨(zb_tN (fun x hx hb => hall x (by omega) hb)), rfl⟩ (by decide) (by decide)
      · skip
        refine z_aload_n 9 C0 0 dX0_fitsEveryHeight_8 rfl rfl rfl ?_
        refine z_iload_n 10 C0 2 dX0_fitsEveryHeight_9 rfl rfl rfl ?_
        refine z_iload_n 11 C0 3 dX0_fitsEveryHeight_10 rfl rfl rfl ?_
        refine z_callVi 14 C0 [0, 1] [2, 3, 4] [(p, zo 5 [.int (nI kd), .ref po, .ref pn, .int (nI len)]), (po, zi E 64 op), (pn, zi E 64 nn)] 0 0 (As := [.int (nI i), .int (nI h)]) (T := TX0) (N := 3) (C := RX0) (ci := 0) (n := 2) 0 (hasHeight l_ E ck ch cr hm rc i h (by omega) (by omega) (hm5)) (zGIV (fun _ => zTs_in) wk_261 wk_258 wk_259 wk_260 wk_16) rfl ⟨rfl, by decide, by decide, by decide +kernel⟩ rfl rfl rfl rfl (by decide) rfl rfl (Nat.le_of_ble_eq_true rfl) ⟨by decide, by decide⟩ rfl rfl ⟨by decide, by decide⟩ ⟨by decide, by decide⟩ dX0_fitsEveryHeight_11 rfl (fun r11 w11 hB11 => ?_)
        obtain ⟨rfl, rfl⟩ := hB11
        refine z_perm [3, 4, 0, 1, 2] [(ck, zo 0 [.ref ch, .ref cr, .int (nI rc)]), (ch, zi E 64 (zn hm)), (p, zo 5 [.int (nI kd), .ref po, .ref pn, .int (nI len)]), (po, zi E 64 op), (pn, zi E 64 nn)] (by decide) rfl ?_
        refine z_if_eqP 17 29 C0 dX0_fitsEveryHeight_14 rfl (by decide) (fun k14 => ?_) (fun k14 => ?_)
        · skip
          refine z_iinc 32 C0 3 [1, 2, 3, 0] [(0, .ref ck), (1, .ref p), (2, .int (nI i)), (3, .int (nI (h + 1)))] (v := (nI (h + 1))) dX0_fitsEveryHeight_29 rfl rfl (z_incN _ _) (by decide) rfl ?_
          refine z_goto 2 C0 dX0_fitsEveryHeight_32 (by decide) ?_
          exact ih2 (h + 1) (by omega) (fun x hx hb => by rcases Nat.lt_or_ge x h with q | q; exact hall x q hb; obtain rfl : x = h := (by omega); first | exact absurd hb k14 | exact k24) (by omega)
        · skip
          refine z_aload_n 18 C0 0 dX0_fitsEveryHeight_17 rfl rfl rfl ?_
          refine z_aload_n 19 C0 1 dX0_fitsEveryHeight_18 rfl rfl rfl ?_
          refine z_iload_n 20 C0 2 dX0_fitsEveryHeight_19 rfl rfl rfl ?_
          refine z_iload_n 21 C0 3 dX0_fitsEveryHeight_20 rfl rfl rfl ?_
          refine z_callVi 24 C0 [0, 2, 3, 4] [1] [(ch, zi E 64 (zn hm))] 0 0 (As := [.ref p, .int (nI i), .int (nI h)]) (T := TX0) (N := 3) (C := RX0) (ci := 0) (n := 3) 0 (fits l_ E ck ch cr rc p po pn kd op nn len i h o (by omega) (by omega) (hop) (by omega) (by omega)) (zGIV (fun _ => zTs_in) wk_291 wk_288 wk_289 wk_290 wk_16) rfl ⟨rfl, by decide, by decide, by decide +kernel⟩ rfl rfl rfl rfl (by decide) rfl rfl (Nat.le_of_ble_eq_true rfl) ⟨by decide, by decide⟩ rfl rfl ⟨by decide, by decide⟩ ⟨by decide, by decide⟩ dX0_fitsEveryHeight_21 rfl (fun r21 w21 hB21 => ?_)
          obtain ⟨rfl, rfl⟩ := hB21
          refine z_perm [1, 0, 2, 3, 4] [(ck, zo 0 [.ref ch, .ref cr, .int (nI rc)]), (ch, zi E 64 (zn hm)), (p, zo 5 [.int (nI kd), .ref po, .ref pn, .int (nI len)]), (po, zi E 64 op), (pn, zi E 64 nn)] (by decide) rfl ?_
          refine z_if_neP 27 29 C0 dX0_fitsEveryHeight_24 rfl (by decide) (fun k24 => ?_) (fun k24 => ?_)
          · skip
            refine z_iinc 32 C0 3 [1, 2, 3, 0] [(0, .ref ck), (1, .ref p), (2, .int (nI i)), (3, .int (nI (h + 1)))] (v := (nI (h + 1))) dX0_fitsEveryHeight_29 rfl rfl (z_incN _ _) (by decide) rfl ?_
            refine z_goto 2 C0 dX0_fitsEveryHeight_32 (by decide) ?_
            exact ih2 (h + 1) (by omega) (fun x hx hb => by rcases Nat.lt_or_ge x h with q | q; exact hall x q hb; obtain rfl : x = h := (by omega); first | exact absurd hb k14 | exact k24) (by omega)
          · skip
            refine z_iconst 28 C0 (v := (nI 0)) dX0_fitsEveryHeight_27 rfl rfl ?_
            exact z_zret C0 rfl rfl dX0_fitsEveryHeight_28 ⟨(zb_fN (fun q => k24 (q h (by omega) k14))), rfl⟩ (by decide) (by decide)
  exact CUT2 (9 - 0 + 1) 0 (Nat.zero_le _) (fun x hx => absurd hx (Nat.not_lt_zero x)) (Nat.lt_succ_self _)

set_option maxHeartbeats 4000000 in
set_option maxRecDepth 100000 in
theorem isWrong (l_ : Launch) (E : zE) (ck : Nat) (ch : Nat) (cr : Nat) (hm : Nat → Nat) (rc : Nat) (p : Nat) (po : Nat) (pn : Nat) (kd : Nat) (op : Nat → Int32) (nn : Nat → Int32) (len : Nat) (i : Nat) (hi : i < len) (hkd : kd < 4) (hlen : len ≤ 64) (hm5 : hm i < 512) (hS : ∀ h, hasB (hm i) h ↔ Rch kd op nn len i h) : zMi l_ E yX0_isWrong (zTs yX0_isWrong cX0_isWrong 3 (some .boolean)) ({ frames := 2, cells := 0, slots := 0, locals := 48 } : Room) [.ref ck, .ref p, .int (nI i)] [(ck, zo 0 [.ref ch, .ref cr, .int (nI rc)]), (ch, zi E 64 (zn hm)), (p, zo 5 [.int (nI kd), .ref po, .ref pn, .int (nI len)]), (po, zi E 64 op), (pn, zi E 64 nn)] (fun r_ w_ => (r_ = (zb (Wr kd op nn len i)) ∧ w_ = [(ck, zo 0 [.ref ch, .ref cr, .int (nI rc)]), (ch, zi E 64 (zn hm)), (p, zo 5 [.int (nI kd), .ref po, .ref pn, .int (nI len)]), (po, zi E 64 op), (pn, zi E 64 nn)])) 0 0 := by
  refine zMi.of (cc := cX0_isWrong) (nL := 3) (ret := (some .boolean)) (by decide) rfl (Nat.le_of_ble_eq_true rfl) ?_
  intro p_ e_ s_ m_ args_ below_ meth_ c_ A_ C0 hin0
  have C0 : zC E p_ s_ m_ args_ meth_ c_ cX0_isWrong 3 (some .boolean) RX0 (zTs yX0_isWrong cX0_isWrong 3 (some .boolean)) A_ := C0
  refine z_eqL (L1 := [(0, .ref ck), (1, .ref p), (2, .int (nI i))]) rfl ?_
  refine z_aload_n 1 C0 0 dX0_isWrong_0 rfl rfl rfl ?_
  refine z_aload_n 2 C0 1 dX0_isWrong_1 rfl rfl rfl ?_
  refine z_iload_n 3 C0 2 dX0_isWrong_2 rfl rfl rfl ?_
  refine z_callVi 6 C0 [0, 2, 3, 4] [1] [(ch, zi E 64 (zn hm))] 0 0 (As := [.ref p, .int (nI i)]) (T := TX0) (N := 3) (C := RX0) (ci := 0) (n := 2) 0 (isMisformed l_ E ck ch cr rc p po pn kd op nn len i (by omega) (by omega) (by omega)) (zGIV (fun _ => zTs_in) wk_269 wk_266 wk_267 wk_268 wk_16) rfl ⟨rfl, by decide, by decide, by decide +kernel⟩ rfl rfl rfl rfl (by decide) rfl rfl (Nat.le_of_ble_eq_true rfl) ⟨by decide, by decide⟩ rfl rfl ⟨by decide, by decide⟩ ⟨by decide, by decide⟩ dX0_isWrong_3 rfl (fun r3 w3 hB3 => ?_)
  obtain ⟨rfl, rfl⟩ := hB3
  refine z_perm [1, 0, 2, 3, 4] [(ck, zo 0 [.ref ch, .ref cr, .int (nI rc)]), (ch, zi E 64 (zn hm)), (p, zo 5 [.int (nI kd), .ref po, .ref pn, .int (nI len)]), (po, zi E 64 op), (pn, zi E 64 nn)] (by decide) rfl ?_
  refine z_if_eqP 9 11 C0 dX0_isWrong_6 rfl (by decide) (fun k6 => ?_) (fun k6 => ?_)
  · skip
    obtain ⟨o, ho⟩ := Classical.not_not.mp k6
    have hbl := bitc_le (hm i)
    refine z_aload_n 12 C0 0 dX0_isWrong_11 rfl rfl rfl ?_
    refine z_get 15 C0 0 0 wz_0 rfl (by decide) (zTs_in wk_95) dX0_isWrong_12 rfl rfl rfl ?_
    refine z_iload_n 16 C0 2 dX0_isWrong_15 rfl rfl rfl ?_
    refine z_ialdN 17 C0 1 (v := (nI (hm i))) dX0_isWrong_16 rfl rfl (by omega) (by decide) rfl ?_
    refine z_if_neN 20 22 C0 (by omega) dX0_isWrong_17 rfl (by decide) (fun k17 => ?_) (fun k17 => ?_)
    · skip
      refine z_aload_n 23 C0 0 dX0_isWrong_22 rfl rfl rfl ?_
      refine z_get 26 C0 0 0 wz_0 rfl (by decide) (zTs_in wk_95) dX0_isWrong_23 rfl rfl rfl ?_
      refine z_iload_n 27 C0 2 dX0_isWrong_26 rfl rfl rfl ?_
      refine z_ialdN 28 C0 1 (v := (nI (hm i))) dX0_isWrong_27 rfl rfl (by omega) (by decide) rfl ?_
      refine z_callSi 31 C0 [] [0, 1, 2, 3, 4] [(ck, zo 0 [.ref ch, .ref cr, .int (nI rc)]), (ch, zi E 64 (zn hm)), (p, zo 5 [.int (nI kd), .ref po, .ref pn, .int (nI len)]), (po, zi E 64 op), (pn, zi E 64 nn)] 0 0 (As := [.int (nI (hm i))]) (n := 1) (bitCount l_ E (nI (hm i)) ) (zGIS (fun _ => zTs_in) wk_302 wk_300 wk_301 wk_22) rfl ⟨by decide, by decide, by decide +kernel⟩ rfl rfl (by decide) rfl rfl (Nat.le_of_ble_eq_true rfl) ⟨by decide, by decide⟩ rfl rfl ⟨by decide, by decide⟩ ⟨by decide, by decide⟩ dX0_isWrong_28 rfl (fun r28 w28 hB28 => ?_)
      obtain ⟨rfl, rfl⟩ := hB28
      refine z_perm [0, 1, 2, 3, 4] [(ck, zo 0 [.ref ch, .ref cr, .int (nI rc)]), (ch, zi E 64 (zn hm)), (p, zo 5 [.int (nI kd), .ref po, .ref pn, .int (nI len)]), (po, zi E 64 op), (pn, zi E 64 nn)] (by decide) rfl ?_
      refine z_eq (L1 := [(0, .ref ck), (1, .ref p), (2, .int (nI i))]) (st1 := [.int (nI (bitc (hm i)))]) (w1 := [(ck, zo 0 [.ref ch, .ref cr, .int (nI rc)]), (ch, zi E 64 (zn hm)), (p, zo 5 [.int (nI kd), .ref po, .ref pn, .int (nI len)]), (po, zi E 64 op), (pn, zi E 64 nn)]) rfl (by rw [bcE_eq _ hm5]) rfl ?_
      refine z_iconst 32 C0 (v := (nI 1)) dX0_isWrong_31 rfl rfl ?_
      refine z_icmp_gtN 35 53 C0 (by omega) (by decide) dX0_isWrong_32 rfl (by decide) (fun k32 => ?_) (fun k32 => ?_)
      · skip
        refine z_iconst 54 C0 (v := (nI 1)) dX0_isWrong_53 rfl rfl ?_
        refine z_goto 58 C0 dX0_isWrong_54 (by decide) ?_
        exact z_zret C0 rfl rfl dX0_isWrong_58 ⟨(zb_tN (by first | exact isW_two hm5 hS k32 | exact isW_nx ho hm5 hS k17 k41 | exact isW_fit ho hS k50)), rfl⟩ (by decide) (by decide)
      · skip
        refine z_aload_n 36 C0 0 dX0_isWrong_35 rfl rfl rfl ?_
        refine z_aload_n 37 C0 1 dX0_isWrong_36 rfl rfl rfl ?_
        refine z_iload_n 38 C0 2 dX0_isWrong_37 rfl rfl rfl ?_
        refine z_callVi 41 C0 [0, 2, 3, 4] [1] [(ch, zi E 64 (zn hm))] 0 0 (As := [.ref p, .int (nI i)]) (T := TX0) (N := 3) (C := RX0) (ci := 0) (n := 2) 0 (lacksNext l_ E ck ch cr rc p po pn kd op nn len i o (by omega) (ho.1) (ho.2.1) (by omega)) (zGIV (fun _ => zTs_in) wk_284 wk_281 wk_282 wk_283 wk_16) rfl ⟨rfl, by decide, by decide, by decide +kernel⟩ rfl rfl rfl rfl (by decide) rfl rfl (Nat.le_of_ble_eq_true rfl) ⟨by decide, by decide⟩ rfl rfl ⟨by decide, by decide⟩ ⟨by decide, by decide⟩ dX0_isWrong_38 rfl (fun r38 w38 hB38 => ?_)
        obtain ⟨rfl, rfl⟩ := hB38
        refine z_perm [1, 0, 2, 3, 4] [(ck, zo 0 [.ref ch, .ref cr, .int (nI rc)]), (ch, zi E 64 (zn hm)), (p, zo 5 [.int (nI kd), .ref po, .ref pn, .int (nI len)]), (po, zi E 64 op), (pn, zi E 64 nn)] (by decide) rfl ?_
        refine z_if_neP 44 53 C0 dX0_isWrong_41 rfl (by decide) (fun k41 => ?_) (fun k41 => ?_)
        · skip
          refine z_iconst 54 C0 (v := (nI 1)) dX0_isWrong_53 rfl rfl ?_
          refine z_goto 58 C0 dX0_isWrong_54 (by decide) ?_
          exact z_zret C0 rfl rfl dX0_isWrong_58 ⟨(zb_tN (by first | exact isW_two hm5 hS k32 | exact isW_nx ho hm5 hS k17 k41 | exact isW_fit ho hS k50)), rfl⟩ (by decide) (by decide)
        · skip
          refine z_aload_n 45 C0 0 dX0_isWrong_44 rfl rfl rfl ?_
          refine z_aload_n 46 C0 1 dX0_isWrong_45 rfl rfl rfl ?_
          refine z_iload_n 47 C0 2 dX0_isWrong_46 rfl rfl rfl ?_
          refine z_callVi 50 C0 [0, 1, 2, 3, 4] [] [] 0 0 (As := [.ref p, .int (nI i)]) (T := TX0) (N := 3) (C := RX0) (ci := 0) (n := 2) 0 (fitsEvery l_ E ck ch cr hm rc p po pn kd op nn len i o (by omega) (ho.1) (ho.2.1) (by omega) (hm5)) (zGIV (fun _ => zTs_in) wk_309 wk_306 wk_307 wk_308 wk_16) rfl ⟨rfl, by decide, by decide, by decide +kernel⟩ rfl rfl rfl rfl (by decide) rfl rfl (Nat.le_of_ble_eq_true rfl) ⟨by decide, by decide⟩ rfl rfl ⟨by decide, by decide⟩ ⟨by decide, by decide⟩ dX0_isWrong_47 rfl (fun r47 w47 hB47 => ?_)
          obtain ⟨rfl, rfl⟩ := hB47
          refine z_perm [0, 1, 2, 3, 4] [(ck, zo 0 [.ref ch, .ref cr, .int (nI rc)]), (ch, zi E 64 (zn hm)), (p, zo 5 [.int (nI kd), .ref po, .ref pn, .int (nI len)]), (po, zi E 64 op), (pn, zi E 64 nn)] (by decide) rfl ?_
          refine z_if_neP 53 57 C0 dX0_isWrong_50 rfl (by decide) (fun k50 => ?_) (fun k50 => ?_)
          · skip
            refine z_iconst 58 C0 (v := (nI 0)) dX0_isWrong_57 rfl rfl ?_
            exact z_zret C0 rfl rfl dX0_isWrong_58 ⟨(zb_fN (fun q => isW_f ho hm5 hS k32 k41 k50 q)), rfl⟩ (by decide) (by decide)
          · skip
            refine z_iconst 54 C0 (v := (nI 1)) dX0_isWrong_53 rfl rfl ?_
            refine z_goto 58 C0 dX0_isWrong_54 (by decide) ?_
            exact z_zret C0 rfl rfl dX0_isWrong_58 ⟨(zb_tN (by first | exact isW_two hm5 hS k32 | exact isW_nx ho hm5 hS k17 k41 | exact isW_fit ho hS k50)), rfl⟩ (by decide) (by decide)
    · skip
      refine z_iconst 21 C0 (v := (nI 0)) dX0_isWrong_20 rfl rfl ?_
      exact z_zret C0 rfl rfl dX0_isWrong_21 ⟨(zb_fN (wr_0 ⟨o, ho⟩ (fun x q => by have := (hS x).mpr q; rw [k17] at this; exact hb_0 x this))), rfl⟩ (by decide) (by decide)
  · skip
    refine z_iconst 10 C0 (v := (nI 1)) dX0_isWrong_9 rfl rfl ?_
    exact z_zret C0 rfl rfl dX0_isWrong_10 ⟨(zb_tN (Or.inl k6)), rfl⟩ (by decide) (by decide)

set_option maxHeartbeats 4000000 in
set_option maxRecDepth 100000 in
theorem reach (l_ : Launch) (E : zE) (ck : Nat) (ch : Nat) (cr : Nat) (hm : Nat → Nat) (rr_ : Nat → Nat) (rc : Nat) (kd : Nat) (op : Nat → Int32) (nn : Nat → Int32) (len : Nat) (i : Nat) (h : Nat) (hQ : QS kd op nn len hm rr_ rc) (hi : i < 64) (hh : h ≤ 8) (hR : Rch kd op nn len i h) : zMv l_ E yX0_reach (zTs yX0_reach cX0_reach 3 none) ({ frames := 1, cells := 0, slots := 0, locals := 22 } : Room) [.ref ck, .int (nI i), .int (nI h)] [(ck, zo 0 [.ref ch, .ref cr, .int (nI rc)]), (ch, zi E 64 (zn hm)), (cr, zi E 576 (zn rr_))] (fun w_ => ∃ hm2 : Nat → Nat, ∃ rr2 : Nat → Nat, ∃ rc2 : Nat, (w_ = [(ck, zo 0 [.ref ch, .ref cr, .int (nI rc2)]), (ch, zi E 64 (zn hm2)), (cr, zi E 576 (zn rr2))]) ∧ (QS kd op nn len hm2 rr2 rc2) ∧ (QE hm rr_ rc hm2 rr2 rc2) ∧ (hasB (hm2 i) h)) 0 0 := by
  refine zMv.of (cc := cX0_reach) (nL := 3) (ret := none) (by decide) rfl (Nat.le_of_ble_eq_true rfl) ?_
  intro p_ e_ s_ m_ args_ below_ meth_ c_ A_ C0 hin0
  have C0 : zC E p_ s_ m_ args_ meth_ c_ cX0_reach 3 none RX0 (zTs yX0_reach cX0_reach 3 none) A_ := C0
  refine z_eqL (L1 := [(0, .ref ck), (1, .int (nI i)), (2, .int (nI h))]) rfl ?_
  refine z_iload_n 1 C0 1 dX0_reach_0 rfl rfl rfl ?_
  refine z_if_ltN 4 C0 20 (by omega) dX0_reach_1 rfl (by decide) ?_
  refine z_iload_n 5 C0 1 dX0_reach_4 rfl rfl rfl ?_
  refine z_bipush 7 C0 (v := (nI 64)) dX0_reach_5 rfl rfl ?_
  refine z_icmp_geN 10 20 C0 (by omega) (by decide) dX0_reach_7 rfl (by decide) (fun k7 => absurd k7 (by omega)) (fun k7 => ?_)
  refine z_iload_n 11 C0 2 dX0_reach_10 rfl rfl rfl ?_
  refine z_if_ltN 14 C0 20 (by omega) dX0_reach_11 rfl (by decide) ?_
  refine z_iload_n 15 C0 2 dX0_reach_14 rfl rfl rfl ?_
  refine z_bipush 17 C0 (v := (nI 8)) dX0_reach_15 rfl rfl ?_
  refine z_icmp_leN 20 21 C0 (by omega) (by decide) dX0_reach_17 rfl (by decide) (fun k17 => ?_) (fun k17 => absurd k17 (by omega))
  refine z_aload_n 22 C0 0 dX0_reach_21 rfl rfl rfl ?_
  refine z_iload_n 23 C0 1 dX0_reach_22 rfl rfl rfl ?_
  refine z_iload_n 24 C0 2 dX0_reach_23 rfl rfl rfl ?_
  refine z_callVi 27 C0 [0, 1] [2] [(cr, zi E 576 (zn rr_))] 0 0 (As := [.int (nI i), .int (nI h)]) (T := TX0) (N := 3) (C := RX0) (ci := 0) (n := 2) 0 (hasHeight l_ E ck ch cr hm rc i h (by omega) (by omega) (hQ.2.2.2 i)) (zGIV (fun _ => zTs_in) wk_261 wk_258 wk_259 wk_260 wk_16) rfl ⟨rfl, by decide, by decide, by decide +kernel⟩ rfl rfl rfl rfl (by decide) rfl rfl (Nat.le_of_ble_eq_true rfl) ⟨by decide, by decide⟩ rfl rfl ⟨by decide, by decide⟩ ⟨by decide, by decide⟩ dX0_reach_24 rfl (fun r24 w24 hB24 => ?_)
  obtain ⟨rfl, rfl⟩ := hB24
  refine z_perm [1, 2, 0] [(ck, zo 0 [.ref ch, .ref cr, .int (nI rc)]), (ch, zi E 64 (zn hm)), (cr, zi E 576 (zn rr_))] (by decide) rfl ?_
  refine z_if_neP 30 42 C0 dX0_reach_27 rfl (by decide) (fun k27 => ?_) (fun k27 => ?_)
  · skip
    exact z_vret C0 rfl dX0_reach_42 ⟨hm, rr_, rc, rfl, (hQ), (QE.rf), (k27)⟩ (by decide) (by decide)
  · skip
    have hrc : rc < 576 := by rw [hQ.2.2.1]; exact cntB_lt hi (by omega) (hQ.2.2.2 i) k27
    refine z_aload_n 31 C0 0 dX0_reach_30 rfl rfl rfl ?_
    refine z_get 34 C0 0 2 wz_0 rfl (by decide) (zTs_in wk_97) dX0_reach_31 rfl rfl rfl ?_
    refine z_aload_n 35 C0 0 dX0_reach_34 rfl rfl rfl ?_
    refine z_get 38 C0 0 1 wz_0 rfl (by decide) (zTs_in wk_96) dX0_reach_35 rfl rfl rfl ?_
    refine z_alen 39 C0 2 dX0_reach_38 rfl rfl ?_
    refine z_icmp_ltN 42 43 C0 (by omega) (by decide) dX0_reach_39 rfl (by decide) (fun k39 => ?_) (fun k39 => absurd k39 (by omega))
    refine z_aload_n 44 C0 0 dX0_reach_43 rfl rfl rfl ?_
    refine z_get 47 C0 0 0 wz_0 rfl (by decide) (zTs_in wk_95) dX0_reach_44 rfl rfl rfl ?_
    refine z_iload_n 48 C0 1 dX0_reach_47 rfl rfl rfl ?_
    refine z_dup2 49 C0 dX0_reach_48 rfl rfl rfl ?_
    refine z_ialdN 50 C0 1 (v := (nI (hm i))) dX0_reach_49 rfl rfl (by omega) (by decide) rfl ?_
    refine z_iconst 51 C0 (v := (nI 1)) dX0_reach_50 rfl rfl ?_
    refine z_iload_n 52 C0 2 dX0_reach_51 rfl rfl rfl ?_
    refine z_ishl 53 C0 (v := (nI 1 <<< (nI h &&& 31))) dX0_reach_52 rfl rfl ?_
    refine z_ior 54 C0 (v := (nI (hm i + 2 ^ h))) dX0_reach_53 rfl (hb_or _ (hQ.2.2.2 i) _ (by omega) k27) ?_
    refine z_iastN 55 C0 1 [(ck, zo 0 [.ref ch, .ref cr, .int (nI rc)]), (ch, zi E 64 (zn (va_up hm i (hm i + 2 ^ h)))), (cr, zi E 576 (zn rr_))] dX0_reach_54 rfl rfl (by omega) (by decide) (by rw [z_upN]; rfl) ?_
    refine z_aload_n 56 C0 0 dX0_reach_55 rfl rfl rfl ?_
    refine z_get 59 C0 0 1 wz_0 rfl (by decide) (zTs_in wk_96) dX0_reach_56 rfl rfl rfl ?_
    refine z_aload_n 60 C0 0 dX0_reach_59 rfl rfl rfl ?_
    refine z_get 63 C0 0 2 wz_0 rfl (by decide) (zTs_in wk_97) dX0_reach_60 rfl rfl rfl ?_
    refine z_iload_n 64 C0 1 dX0_reach_63 rfl rfl rfl ?_
    refine z_bipush 66 C0 (v := (nI 9)) dX0_reach_64 rfl rfl ?_
    refine z_imul 67 C0 (v := (nI (i * 9))) dX0_reach_66 rfl (pk_mul _ _) ?_
    refine z_iload_n 68 C0 2 dX0_reach_67 rfl rfl rfl ?_
    refine z_iadd 69 C0 (v := (nI ((i * 9) + h))) dX0_reach_68 rfl (nI_add _ _) ?_
    refine z_iastN 70 C0 2 [(ck, zo 0 [.ref ch, .ref cr, .int (nI rc)]), (ch, zi E 64 (zn (va_up hm i (hm i + 2 ^ h)))), (cr, zi E 576 (zn (va_up rr_ rc ((i * 9) + h))))] dX0_reach_69 rfl rfl (by omega) (by decide) (by rw [z_upN]; rfl) ?_
    refine z_aload_n 71 C0 0 dX0_reach_70 rfl rfl rfl ?_
    refine z_dup 72 C0 dX0_reach_71 rfl rfl ?_
    refine z_get 75 C0 0 2 wz_0 rfl (by decide) (zTs_in wk_97) dX0_reach_72 rfl rfl rfl ?_
    refine z_iconst 76 C0 (v := (nI 1)) dX0_reach_75 rfl rfl ?_
    refine z_iadd 77 C0 (v := (nI (rc + 1))) dX0_reach_76 rfl (nI_add _ _) ?_
    refine z_put 80 C0 0 2 [(ck, zo 0 [.ref ch, .ref cr, .int (nI (rc + 1))]), (ch, zi E 64 (zn (va_up hm i (hm i + 2 ^ h)))), (cr, zi E 576 (zn (va_up rr_ rc ((i * 9) + h))))] wz_0 rfl (by decide) (zTs_in wk_97) tyX0 tyX0_ok nmX0 rfl rfl rfl rfl dX0_reach_77 rfl rfl (Nat.le_of_ble_eq_true rfl) rfl ?_
    have hadd := hQ.add hi (by omega) k27 hR
    exact z_vret C0 rfl dX0_reach_80 ⟨(va_up hm i (hm i + 2 ^ h)), (va_up rr_ rc (i * 9 + h)), (rc + 1), rfl, (hadd.1), (hadd.2.1), (hadd.2.2)⟩ (by decide) (by decide)

set_option maxHeartbeats 4000000 in
set_option maxRecDepth 100000 in
theorem goOn (l_ : Launch) (E : zE) (ck : Nat) (ch : Nat) (cr : Nat) (hm : Nat → Nat) (rr_ : Nat → Nat) (rc : Nat) (p : Nat) (po : Nat) (pn : Nat) (kd : Nat) (op : Nat → Int32) (nn : Nat → Int32) (len : Nat) (i : Nat) (h : Nat) (hQ : QS kd op nn len hm rr_ rc) (hi : i < len) (hh : h ≤ 8) (hR : Rch kd op nn len i h) (hkd : kd < 4) (hlen : len ≤ 64) : zMv l_ E yX0_goOn (zTs yX0_goOn cX0_goOn 6 none) ({ frames := 2, cells := 0, slots := 0, locals := 45 } : Room) [.ref ck, .ref p, .int (nI i), .int (nI h)] [(ck, zo 0 [.ref ch, .ref cr, .int (nI rc)]), (ch, zi E 64 (zn hm)), (cr, zi E 576 (zn rr_)), (p, zo 5 [.int (nI kd), .ref po, .ref pn, .int (nI len)]), (po, zi E 64 op), (pn, zi E 64 nn)] (fun w_ => ∃ hm2 : Nat → Nat, ∃ rr2 : Nat → Nat, ∃ rc2 : Nat, (w_ = [(ck, zo 0 [.ref ch, .ref cr, .int (nI rc2)]), (ch, zi E 64 (zn hm2)), (cr, zi E 576 (zn rr2)), (p, zo 5 [.int (nI kd), .ref po, .ref pn, .int (nI len)]), (po, zi E 64 op), (pn, zi E 64 nn)]) ∧ (QS kd op nn len hm2 rr2 rc2) ∧ (QE hm rr_ rc hm2 rr2 rc2) ∧ (∀ i2 h2, Suc kd op nn len i h i2 h2 → hasB (hm2 i2) h2)) 0 0 := by
  refine zMv.of (cc := cX0_goOn) (nL := 6) (ret := none) (by decide) rfl (Nat.le_of_ble_eq_true rfl) ?_
  intro p_ e_ s_ m_ args_ below_ meth_ c_ A_ C0 hin0
  have C0 : zC E p_ s_ m_ args_ meth_ c_ cX0_goOn 6 none RX0 (zTs yX0_goOn cX0_goOn 6 none) A_ := C0
  refine z_eqL (L1 := [(0, .ref ck), (1, .ref p), (2, .int (nI i)), (3, .int (nI h))]) rfl ?_
  refine z_aload_n 1 C0 0 dX0_goOn_0 rfl rfl rfl ?_
  refine z_aload_n 2 C0 1 dX0_goOn_1 rfl rfl rfl ?_
  refine z_iload_n 3 C0 2 dX0_goOn_2 rfl rfl rfl ?_
  refine z_callVi 6 C0 [0, 3, 4, 5] [1, 2] [(ch, zi E 64 (zn hm)), (cr, zi E 576 (zn rr_))] 0 0 (As := [.ref p, .int (nI i)]) (T := TX0) (N := 3) (C := RX0) (ci := 0) (n := 2) 0 (isMisformed l_ E ck ch cr rc p po pn kd op nn len i (by omega) (by omega) (by omega)) (zGIV (fun _ => zTs_in) wk_269 wk_266 wk_267 wk_268 wk_16) rfl ⟨rfl, by decide, by decide, by decide +kernel⟩ rfl rfl rfl rfl (by decide) rfl rfl (Nat.le_of_ble_eq_true rfl) ⟨by decide, by decide⟩ rfl rfl ⟨by decide, by decide⟩ ⟨by decide, by decide⟩ dX0_goOn_3 rfl (fun r3 w3 hB3 => ?_)
  obtain ⟨rfl, rfl⟩ := hB3
  refine z_perm [2, 0, 1, 3, 4, 5] [(ck, zo 0 [.ref ch, .ref cr, .int (nI rc)]), (ch, zi E 64 (zn hm)), (cr, zi E 576 (zn rr_)), (p, zo 5 [.int (nI kd), .ref po, .ref pn, .int (nI len)]), (po, zi E 64 op), (pn, zi E 64 nn)] (by decide) rfl ?_
  refine z_if_neP 9 28 C0 dX0_goOn_6 rfl (by decide) (fun k6 => ?_) (fun k6 => ?_)
  · skip
    exact z_vret C0 rfl dX0_goOn_28 ⟨hm, rr_, rc, rfl, (hQ), (QE.rf), (fun i2 h2 ⟨o2, q, _, _⟩ => by exact absurd ⟨o2, q.1⟩ k6)⟩ (by decide) (by decide)
  · skip
    obtain ⟨o, ho⟩ := Classical.not_not.mp k6
    refine z_aload_n 10 C0 0 dX0_goOn_9 rfl rfl rfl ?_
    refine z_aload_n 11 C0 1 dX0_goOn_10 rfl rfl rfl ?_
    refine z_iload_n 12 C0 2 dX0_goOn_11 rfl rfl rfl ?_
    refine z_callVi 15 C0 [0, 3, 4, 5] [1, 2] [(ch, zi E 64 (zn hm)), (cr, zi E 576 (zn rr_))] 0 0 (As := [.ref p, .int (nI i)]) (T := TX0) (N := 3) (C := RX0) (ci := 0) (n := 2) 0 (lacksNext l_ E ck ch cr rc p po pn kd op nn len i o (by omega) (ho.1) (ho.2.1) (by omega)) (zGIV (fun _ => zTs_in) wk_284 wk_281 wk_282 wk_283 wk_16) rfl ⟨rfl, by decide, by decide, by decide +kernel⟩ rfl rfl rfl rfl (by decide) rfl rfl (Nat.le_of_ble_eq_true rfl) ⟨by decide, by decide⟩ rfl rfl ⟨by decide, by decide⟩ ⟨by decide, by decide⟩ dX0_goOn_12 rfl (fun r12 w12 hB12 => ?_)
    obtain ⟨rfl, rfl⟩ := hB12
    refine z_perm [2, 0, 1, 3, 4, 5] [(ck, zo 0 [.ref ch, .ref cr, .int (nI rc)]), (ch, zi E 64 (zn hm)), (cr, zi E 576 (zn rr_)), (p, zo 5 [.int (nI kd), .ref po, .ref pn, .int (nI len)]), (po, zi E 64 op), (pn, zi E 64 nn)] (by decide) rfl ?_
    refine z_if_neP 18 28 C0 dX0_goOn_15 rfl (by decide) (fun k15 => ?_) (fun k15 => ?_)
    · skip
      exact z_vret C0 rfl dX0_goOn_28 ⟨hm, rr_, rc, rfl, (hQ), (QE.rf), (fun i2 h2 ⟨o2, q, _, _⟩ => by (have e := pOK_uniq ho.1 ho.2.1 q.1; rw [e] at q; exact absurd (q.2.1 k15.1) k15.2))⟩ (by decide) (by decide)
    · skip
      refine z_aload_n 19 C0 0 dX0_goOn_18 rfl rfl rfl ?_
      refine z_aload_n 20 C0 1 dX0_goOn_19 rfl rfl rfl ?_
      refine z_iload_n 21 C0 2 dX0_goOn_20 rfl rfl rfl ?_
      refine z_iload_n 22 C0 3 dX0_goOn_21 rfl rfl rfl ?_
      refine z_callVi 25 C0 [0, 3, 4, 5] [1, 2] [(ch, zi E 64 (zn hm)), (cr, zi E 576 (zn rr_))] 0 0 (As := [.ref p, .int (nI i), .int (nI h)]) (T := TX0) (N := 3) (C := RX0) (ci := 0) (n := 3) 0 (fits l_ E ck ch cr rc p po pn kd op nn len i h o (by omega) (ho.1) (ho.2.1) (by omega) (by omega)) (zGIV (fun _ => zTs_in) wk_291 wk_288 wk_289 wk_290 wk_16) rfl ⟨rfl, by decide, by decide, by decide +kernel⟩ rfl rfl rfl rfl (by decide) rfl rfl (Nat.le_of_ble_eq_true rfl) ⟨by decide, by decide⟩ rfl rfl ⟨by decide, by decide⟩ ⟨by decide, by decide⟩ dX0_goOn_22 rfl (fun r22 w22 hB22 => ?_)
      obtain ⟨rfl, rfl⟩ := hB22
      refine z_perm [2, 0, 1, 3, 4, 5] [(ck, zo 0 [.ref ch, .ref cr, .int (nI rc)]), (ch, zi E 64 (zn hm)), (cr, zi E 576 (zn rr_)), (p, zo 5 [.int (nI kd), .ref po, .ref pn, .int (nI len)]), (po, zi E 64 op), (pn, zi E 64 nn)] (by decide) rfl ?_
      refine z_if_neP 28 29 C0 dX0_goOn_25 rfl (by decide) (fun k25 => ?_) (fun k25 => ?_)
      · skip
        have hgd := gD_le ho.1
        have hpn : gD o ≤ h := by have h1 := k25.1; unfold pNeed at h1; split at h1 <;> omega
        have hok : okS kd op nn len i h o := ⟨ho, fun q => Classical.byContradiction fun z => k15 ⟨q, z⟩, k25.1, k25.2⟩
        refine z_aload_n 30 C0 1 dX0_goOn_29 rfl rfl rfl ?_
        refine z_get 33 C0 3 1 wz_5 rfl (by decide) (zTs_in wk_72) dX0_goOn_30 rfl rfl rfl ?_
        refine z_iload_n 34 C0 2 dX0_goOn_33 rfl rfl rfl ?_
        refine z_ialdN 35 C0 4 (v := (nI o)) dX0_goOn_34 rfl rfl (by omega) (by decide) ho.2.1 ?_
        refine z_istore 37 C0 [1, 2, 3, 4, 0] [(0, .ref ck), (1, .ref p), (2, .int (nI i)), (3, .int (nI h)), (4, .int (nI o))] dX0_goOn_35 rfl (by decide) rfl ?_
        refine z_iload_n 38 C0 3 dX0_goOn_37 rfl rfl rfl ?_
        refine z_getsG 41 C0 (zTs_in wk_294) dX0_goOn_38 rfl ?_
        refine z_iload 43 C0 4 dX0_goOn_41 rfl rfl ?_
        refine z_tabG 44 C0 (v := (zGrow o)) dX0_goOn_43 rfl (by have := ho.1; omega) rfl ?_
        refine z_iadd 45 C0 (v := (nI (h + gU o - gD o))) dX0_goOn_44 rfl (grow_eq ho.1 hpn) ?_
        refine z_istore 47 C0 [1, 2, 3, 4, 5, 0] [(0, .ref ck), (1, .ref p), (2, .int (nI i)), (3, .int (nI h)), (4, .int (nI o)), (5, .int (nI (h + gU o - gD o)))] dX0_goOn_45 rfl (by decide) rfl ?_
        refine z_iload 49 C0 4 dX0_goOn_47 rfl rfl ?_
        refine z_callSNi 52 C0 [] [0, 1, 2, 3, 4, 5] [(ck, zo 0 [.ref ch, .ref cr, .int (nI rc)]), (ch, zi E 64 (zn hm)), (cr, zi E 576 (zn rr_)), (p, zo 5 [.int (nI kd), .ref po, .ref pn, .int (nI len)]), (po, zi E 64 op), (pn, zi E 64 nn)] 0 0 (As := [.int (nI o)]) (n := 1) (isJump l_ E o (by have := ho.1; omega)) (zTs_good (fun _ => zTs_in) wk_276) rfl C0.2.2.2.2.2.2.2.2.2.1.1.2.2.2.1 (zTs_in wk_12) (zTs_in wk_275) ⟨by decide, by decide, by decide +kernel⟩ rfl rfl (by decide) rfl rfl (Nat.le_of_ble_eq_true rfl) ⟨by decide, by decide⟩ rfl rfl ⟨by decide, by decide⟩ ⟨by decide, by decide⟩ dX0_goOn_49 rfl (fun r49 w49 hB49 => ?_)
        obtain ⟨rfl, rfl⟩ := hB49
        refine z_perm [0, 1, 2, 3, 4, 5] [(ck, zo 0 [.ref ch, .ref cr, .int (nI rc)]), (ch, zi E 64 (zn hm)), (cr, zi E 576 (zn rr_)), (p, zo 5 [.int (nI kd), .ref po, .ref pn, .int (nI len)]), (po, zi E 64 op), (pn, zi E 64 nn)] (by decide) rfl ?_
        refine z_if_eqP 55 67 C0 dX0_goOn_52 rfl (by decide) (fun k52 => ?_) (fun k52 => ?_)
        · skip
          refine z_iload 69 C0 4 dX0_goOn_67 rfl rfl ?_
          refine z_callSi 72 C0 [] [0, 1, 2, 3, 4, 5] [(ck, zo 0 [.ref ch, .ref cr, .int (nI rc)]), (ch, zi E 64 (zn hm)), (cr, zi E 576 (zn rr_)), (p, zo 5 [.int (nI kd), .ref po, .ref pn, .int (nI len)]), (po, zi E 64 op), (pn, zi E 64 nn)] 0 0 (As := [.int (nI o)]) (n := 1) (hasNext l_ E o (ho.1)) (zGIS (fun _ => zTs_in) wk_287 wk_285 wk_286 wk_16) rfl ⟨by decide, by decide, by decide +kernel⟩ rfl rfl (by decide) rfl rfl (Nat.le_of_ble_eq_true rfl) ⟨by decide, by decide⟩ rfl rfl ⟨by decide, by decide⟩ ⟨by decide, by decide⟩ dX0_goOn_69 rfl (fun r69 w69 hB69 => ?_)
          obtain ⟨rfl, rfl⟩ := hB69
          refine z_perm [0, 1, 2, 3, 4, 5] [(ck, zo 0 [.ref ch, .ref cr, .int (nI rc)]), (ch, zi E 64 (zn hm)), (cr, zi E 576 (zn rr_)), (p, zo 5 [.int (nI kd), .ref po, .ref pn, .int (nI len)]), (po, zi E 64 op), (pn, zi E 64 nn)] (by decide) rfl ?_
          refine z_if_eqP 75 84 C0 dX0_goOn_72 rfl (by decide) (fun k72 => ?_) (fun k72 => ?_)
          · skip
            exact z_vret C0 rfl dX0_goOn_84 ⟨hm, rr_, rc, rfl, (hQ), (QE.rf), (fun i2 h2 ⟨o2, q, e2, hs⟩ => by obtain rfl := pOK_uniq ho.1 ho.2.1 q.1; subst e2; rcases hs with ⟨hx, rfl⟩ | ⟨hx, hl2, hn2⟩; (exact absurd hx k72); exact absurd hx k52)⟩ (by decide) (by decide)
          · skip
            refine z_aload_n 76 C0 0 dX0_goOn_75 rfl rfl rfl ?_
            refine z_iload_n 77 C0 2 dX0_goOn_76 rfl rfl rfl ?_
            refine z_iconst 78 C0 (v := (nI 1)) dX0_goOn_77 rfl rfl ?_
            refine z_iadd 79 C0 (v := (nI (i + 1))) dX0_goOn_78 rfl (nI_add _ _) ?_
            refine z_iload 81 C0 5 dX0_goOn_79 rfl rfl ?_
            refine z_callVv 84 C0 [0, 1, 2] [3, 4, 5] [(p, zo 5 [.int (nI kd), .ref po, .ref pn, .int (nI len)]), (po, zi E 64 op), (pn, zi E 64 nn)] 0 0 (As := [.int (nI (i + 1)), .int (nI (h + gU o - gD o))]) (T := TX0) (N := 3) (C := RX0) (ci := 0) (n := 2) 0 (reach l_ E ck ch cr hm rr_ rc kd op nn len (i + 1) (h + gU o - gD o) (hQ) (by have := hok.2.1 k72; omega) (hok.2.2.2) (hR.next hok k72)) (zGIV (fun _ => zTs_in) wk_257 wk_254 wk_255 wk_256 wk_16) rfl ⟨rfl, by decide, by decide, by decide +kernel⟩ rfl rfl rfl rfl (by decide) rfl rfl (Nat.le_of_ble_eq_true rfl) ⟨by decide, by decide⟩ rfl rfl ⟨by decide, by decide⟩ ⟨by decide, by decide⟩ dX0_goOn_81 rfl (fun w81 hB81 => ?_)
            obtain ⟨hm2_81, rr2_81, rc2_81, rfl, fQ_81, fE_81, fB_81⟩ := hB81
            refine z_perm [3, 4, 5, 0, 1, 2] [(ck, zo 0 [.ref ch, .ref cr, .int (nI rc2_81)]), (ch, zi E 64 (zn hm2_81)), (cr, zi E 576 (zn rr2_81)), (p, zo 5 [.int (nI kd), .ref po, .ref pn, .int (nI len)]), (po, zi E 64 op), (pn, zi E 64 nn)] (by decide) rfl ?_
            exact z_vret C0 rfl dX0_goOn_84 ⟨hm2_81, rr2_81, rc2_81, rfl, (fQ_81), (fE_81), (fun i2 h2 ⟨o2, q, e2, hs⟩ => by obtain rfl := pOK_uniq ho.1 ho.2.1 q.1; subst e2; rcases hs with ⟨hx, rfl⟩ | ⟨hx, hl2, hn2⟩; (exact fB_81); exact absurd hx k52)⟩ (by decide) (by decide)
        · skip
          obtain ⟨j, hj, hnn⟩ := ho.2.2.2.2.2.2 k52
          refine z_aload_n 56 C0 0 dX0_goOn_55 rfl rfl rfl ?_
          refine z_aload_n 57 C0 1 dX0_goOn_56 rfl rfl rfl ?_
          refine z_get 60 C0 3 2 wz_5 rfl (by decide) (zTs_in wk_75) dX0_goOn_57 rfl rfl rfl ?_
          refine z_iload_n 61 C0 2 dX0_goOn_60 rfl rfl rfl ?_
          refine z_ialdN 62 C0 5 (v := (nI j)) dX0_goOn_61 rfl rfl (by omega) (by decide) hnn ?_
          refine z_iload 64 C0 5 dX0_goOn_62 rfl rfl ?_
          refine z_callVv 67 C0 [0, 1, 2] [3, 4, 5] [(p, zo 5 [.int (nI kd), .ref po, .ref pn, .int (nI len)]), (po, zi E 64 op), (pn, zi E 64 nn)] 0 0 (As := [.int (nI j), .int (nI (h + gU o - gD o))]) (T := TX0) (N := 3) (C := RX0) (ci := 0) (n := 2) 0 (reach l_ E ck ch cr hm rr_ rc kd op nn len j (h + gU o - gD o) (hQ) (by omega) (hok.2.2.2) (hR.jump hok k52 hj hnn)) (zGIV (fun _ => zTs_in) wk_257 wk_254 wk_255 wk_256 wk_16) rfl ⟨rfl, by decide, by decide, by decide +kernel⟩ rfl rfl rfl rfl (by decide) rfl rfl (Nat.le_of_ble_eq_true rfl) ⟨by decide, by decide⟩ rfl rfl ⟨by decide, by decide⟩ ⟨by decide, by decide⟩ dX0_goOn_64 rfl (fun w64 hB64 => ?_)
          obtain ⟨hm2_64, rr2_64, rc2_64, rfl, fQ_64, fE_64, fB_64⟩ := hB64
          refine z_perm [3, 4, 5, 0, 1, 2] [(ck, zo 0 [.ref ch, .ref cr, .int (nI rc2_64)]), (ch, zi E 64 (zn hm2_64)), (cr, zi E 576 (zn rr2_64)), (p, zo 5 [.int (nI kd), .ref po, .ref pn, .int (nI len)]), (po, zi E 64 op), (pn, zi E 64 nn)] (by decide) rfl ?_
          refine z_iload 69 C0 4 dX0_goOn_67 rfl rfl ?_
          refine z_callSi 72 C0 [] [0, 1, 2, 3, 4, 5] [(ck, zo 0 [.ref ch, .ref cr, .int (nI rc2_64)]), (ch, zi E 64 (zn hm2_64)), (cr, zi E 576 (zn rr2_64)), (p, zo 5 [.int (nI kd), .ref po, .ref pn, .int (nI len)]), (po, zi E 64 op), (pn, zi E 64 nn)] 0 0 (As := [.int (nI o)]) (n := 1) (hasNext l_ E o (ho.1)) (zGIS (fun _ => zTs_in) wk_287 wk_285 wk_286 wk_16) rfl ⟨by decide, by decide, by decide +kernel⟩ rfl rfl (by decide) rfl rfl (Nat.le_of_ble_eq_true rfl) ⟨by decide, by decide⟩ rfl rfl ⟨by decide, by decide⟩ ⟨by decide, by decide⟩ dX0_goOn_69 rfl (fun r69 w69 hB69 => ?_)
          obtain ⟨rfl, rfl⟩ := hB69
          refine z_perm [0, 1, 2, 3, 4, 5] [(ck, zo 0 [.ref ch, .ref cr, .int (nI rc2_64)]), (ch, zi E 64 (zn hm2_64)), (cr, zi E 576 (zn rr2_64)), (p, zo 5 [.int (nI kd), .ref po, .ref pn, .int (nI len)]), (po, zi E 64 op), (pn, zi E 64 nn)] (by decide) rfl ?_
          refine z_if_eqP 75 84 C0 dX0_goOn_72 rfl (by decide) (fun k72 => ?_) (fun k72 => ?_)
          · skip
            exact z_vret C0 rfl dX0_goOn_84 ⟨hm2_64, rr2_64, rc2_64, rfl, (fQ_64), (fE_64), (fun i2 h2 ⟨o2, q, e2, hs⟩ => by obtain rfl := pOK_uniq ho.1 ho.2.1 q.1; subst e2; rcases hs with ⟨hx, rfl⟩ | ⟨hx, hl2, hn2⟩; (exact absurd hx k72); (obtain rfl : j = i2 := (nI_eq (by omega) (by omega)).mp (hnn.symm.trans hn2); exact fB_64))⟩ (by decide) (by decide)
          · skip
            refine z_aload_n 76 C0 0 dX0_goOn_75 rfl rfl rfl ?_
            refine z_iload_n 77 C0 2 dX0_goOn_76 rfl rfl rfl ?_
            refine z_iconst 78 C0 (v := (nI 1)) dX0_goOn_77 rfl rfl ?_
            refine z_iadd 79 C0 (v := (nI (i + 1))) dX0_goOn_78 rfl (nI_add _ _) ?_
            refine z_iload 81 C0 5 dX0_goOn_79 rfl rfl ?_
            refine z_callVv 84 C0 [0, 1, 2] [3, 4, 5] [(p, zo 5 [.int (nI kd), .ref po, .ref pn, .int (nI len)]), (po, zi E 64 op), (pn, zi E 64 nn)] 0 0 (As := [.int (nI (i + 1)), .int (nI (h + gU o - gD o))]) (T := TX0) (N := 3) (C := RX0) (ci := 0) (n := 2) 0 (reach l_ E ck ch cr hm2_64 rr2_64 rc2_64 kd op nn len (i + 1) (h + gU o - gD o) (fQ_64) (by have := hok.2.1 k72; omega) (hok.2.2.2) (hR.next hok k72)) (zGIV (fun _ => zTs_in) wk_257 wk_254 wk_255 wk_256 wk_16) rfl ⟨rfl, by decide, by decide, by decide +kernel⟩ rfl rfl rfl rfl (by decide) rfl rfl (Nat.le_of_ble_eq_true rfl) ⟨by decide, by decide⟩ rfl rfl ⟨by decide, by decide⟩ ⟨by decide, by decide⟩ dX0_goOn_81 rfl (fun w81 hB81 => ?_)
            obtain ⟨hm2_81, rr2_81, rc2_81, rfl, fQ_81, fE_81, fB_81⟩ := hB81
            refine z_perm [3, 4, 5, 0, 1, 2] [(ck, zo 0 [.ref ch, .ref cr, .int (nI rc2_81)]), (ch, zi E 64 (zn hm2_81)), (cr, zi E 576 (zn rr2_81)), (p, zo 5 [.int (nI kd), .ref po, .ref pn, .int (nI len)]), (po, zi E 64 op), (pn, zi E 64 nn)] (by decide) rfl ?_
            exact z_vret C0 rfl dX0_goOn_84 ⟨hm2_81, rr2_81, rc2_81, rfl, (fQ_81), (fE_64.trans fE_81), (fun i2 h2 ⟨o2, q, e2, hs⟩ => by obtain rfl := pOK_uniq ho.1 ho.2.1 q.1; subst e2; rcases hs with ⟨hx, rfl⟩ | ⟨hx, hl2, hn2⟩; (exact fB_81); (obtain rfl : j = i2 := (nI_eq (by omega) (by omega)).mp (hnn.symm.trans hn2); exact fE_81.2.2 _ _ fB_64))⟩ (by decide) (by decide)
      · skip
        exact z_vret C0 rfl dX0_goOn_28 ⟨hm, rr_, rc, rfl, (hQ), (QE.rf), (fun i2 h2 ⟨o2, q, _, _⟩ => by (have e := pOK_uniq ho.1 ho.2.1 q.1; rw [e] at q; exact absurd q.2.2 k25))⟩ (by decide) (by decide)

set_option maxHeartbeats 4000000 in
set_option maxRecDepth 100000 in
theorem walk (l_ : Launch) (E : zE) (ck : Nat) (ch : Nat) (cr : Nat) (hm : Nat → Nat) (rr_ : Nat → Nat) (rc : Nat) (p : Nat) (po : Nat) (pn : Nat) (kd : Nat) (op : Nat → Int32) (nn : Nat → Int32) (len : Nat) (hkd : kd < 4) (hlen : len ≤ 64) (h0 : 0 < len) : zMv l_ E yX0_walk (zTs yX0_walk cX0_walk 3 none) ({ frames := 3, cells := 0, slots := 0, locals := 70 } : Room) [.ref ck, .ref p] [(ck, zo 0 [.ref ch, .ref cr, .int (nI rc)]), (ch, zi E 64 (zn hm)), (cr, zi E 576 (zn rr_)), (p, zo 5 [.int (nI kd), .ref po, .ref pn, .int (nI len)]), (po, zi E 64 op), (pn, zi E 64 nn)] (fun w_ => ∃ hm2 : Nat → Nat, ∃ rr2 : Nat → Nat, ∃ rc2 : Nat, (w_ = [(ck, zo 0 [.ref ch, .ref cr, .int (nI rc2)]), (ch, zi E 64 (zn hm2)), (cr, zi E 576 (zn rr2)), (p, zo 5 [.int (nI kd), .ref po, .ref pn, .int (nI len)]), (po, zi E 64 op), (pn, zi E 64 nn)]) ∧ (∀ i, hm2 i < 512) ∧ (∀ i h, i < len → (hasB (hm2 i) h ↔ Rch kd op nn len i h))) 0 0 := by
  refine zMv.of (cc := cX0_walk) (nL := 3) (ret := none) (by decide) rfl (Nat.le_of_ble_eq_true rfl) ?_
  intro p_ e_ s_ m_ args_ below_ meth_ c_ A_ C0 hin0
  have C0 : zC E p_ s_ m_ args_ meth_ c_ cX0_walk 3 none RX0 (zTs yX0_walk cX0_walk 3 none) A_ := C0
  refine z_eqL (L1 := [(0, .ref ck), (1, .ref p)]) rfl ?_
  refine z_aload_n 1 C0 0 dX0_walk_0 rfl rfl rfl ?_
  refine z_get 4 C0 0 0 wz_0 rfl (by decide) (zTs_in wk_95) dX0_walk_1 rfl rfl rfl ?_
  refine z_iconst 5 C0 (v := (nI 0)) dX0_walk_4 rfl rfl ?_
  refine z_callSv 8 C0 [1] [0, 2, 3, 4, 5] [(ck, zo 0 [.ref ch, .ref cr, .int (nI rc)]), (cr, zi E 576 (zn rr_)), (p, zo 5 [.int (nI kd), .ref po, .ref pn, .int (nI len)]), (po, zi E 64 op), (pn, zi E 64 nn)] 0 0 (As := [.ref ch, .int (nI 0)]) (n := 2) (fill l_ E ch 64 (zn hm) (nI 0) (by omega)) (zGIS (fun _ => zTs_in) wk_253 wk_251 wk_252 wk_21) rfl ⟨by decide, by decide, by decide +kernel⟩ rfl rfl (by decide) rfl rfl (Nat.le_of_ble_eq_true rfl) ⟨by decide, by decide⟩ rfl rfl ⟨by decide, by decide⟩ ⟨by decide, by decide⟩ dX0_walk_5 rfl (fun w5 hB5 => ?_)
  obtain rfl := hB5
  refine z_perm [0, 5, 1, 2, 3, 4] [(ck, zo 0 [.ref ch, .ref cr, .int (nI rc)]), (ch, zi E 64 (fun _ => (nI 0))), (cr, zi E 576 (zn rr_)), (p, zo 5 [.int (nI kd), .ref po, .ref pn, .int (nI len)]), (po, zi E 64 op), (pn, zi E 64 nn)] (by decide) rfl ?_
  refine z_eq (L1 := [(0, .ref ck), (1, .ref p)]) (st1 := []) (w1 := [(ck, zo 0 [.ref ch, .ref cr, .int (nI rc)]), (ch, zi E 64 (zn (fun _ => 0))), (cr, zi E 576 (zn rr_)), (p, zo 5 [.int (nI kd), .ref po, .ref pn, .int (nI len)]), (po, zi E 64 op), (pn, zi E 64 nn)]) rfl rfl rfl ?_
  refine z_aload_n 9 C0 0 dX0_walk_8 rfl rfl rfl ?_
  refine z_iconst 10 C0 (v := (nI 0)) dX0_walk_9 rfl rfl ?_
  refine z_put 13 C0 0 2 [(ck, zo 0 [.ref ch, .ref cr, .int (nI 0)]), (ch, zi E 64 (zn (fun _ => 0))), (cr, zi E 576 (zn rr_)), (p, zo 5 [.int (nI kd), .ref po, .ref pn, .int (nI len)]), (po, zi E 64 op), (pn, zi E 64 nn)] wz_0 rfl (by decide) (zTs_in wk_97) tyX0 tyX0_ok nmX0 rfl rfl rfl rfl dX0_walk_10 rfl rfl (Nat.le_of_ble_eq_true rfl) rfl ?_
  refine z_aload_n 14 C0 0 dX0_walk_13 rfl rfl rfl ?_
  refine z_iconst 15 C0 (v := (nI 0)) dX0_walk_14 rfl rfl ?_
  refine z_iconst 16 C0 (v := (nI 0)) dX0_walk_15 rfl rfl ?_
  refine z_callVv 19 C0 [0, 1, 2] [3, 4, 5] [(p, zo 5 [.int (nI kd), .ref po, .ref pn, .int (nI len)]), (po, zi E 64 op), (pn, zi E 64 nn)] 0 0 (As := [.int (nI 0), .int (nI 0)]) (T := TX0) (N := 3) (C := RX0) (ci := 0) (n := 2) 0 (reach l_ E ck ch cr (fun _ => 0) rr_ 0 kd op nn len 0 0 (QS_0) (by omega) (by omega) (Rch.zero)) (zGIV (fun _ => zTs_in) wk_257 wk_254 wk_255 wk_256 wk_16) rfl ⟨rfl, by decide, by decide, by decide +kernel⟩ rfl rfl rfl rfl (by decide) rfl rfl (Nat.le_of_ble_eq_true rfl) ⟨by decide, by decide⟩ rfl rfl ⟨by decide, by decide⟩ ⟨by decide, by decide⟩ dX0_walk_16 rfl (fun w16 hB16 => ?_)
  obtain ⟨hm2_16, rr2_16, rc2_16, rfl, fQ_16, fE_16, fB_16⟩ := hB16
  refine z_perm [3, 4, 5, 0, 1, 2] [(ck, zo 0 [.ref ch, .ref cr, .int (nI rc2_16)]), (ch, zi E 64 (zn hm2_16)), (cr, zi E 576 (zn rr2_16)), (p, zo 5 [.int (nI kd), .ref po, .ref pn, .int (nI len)]), (po, zi E 64 op), (pn, zi E 64 nn)] (by decide) rfl ?_
  refine z_iconst 20 C0 (v := (nI 0)) dX0_walk_19 rfl rfl ?_
  refine z_istore_n 21 C0 [1, 2, 0] [(0, .ref ck), (1, .ref p), (2, .int (nI 0))] dX0_walk_20 rfl rfl (by decide) rfl ?_
  have CUT21 : ∀ (N21 : Nat) (t : Nat) (hx : Nat → Nat) (rx : Nat → Nat) (cx : Nat), (QS kd op nn len hx rx cx) → (hasB (hx 0) 0) → (∀ j, j < t → ∀ i2 h2, Suc kd op nn len (rx j / 9) (rx j % 9) i2 h2 → hasB (hx i2) h2) → (t ≤ cx) → 576 - t < N21 → Z E p_ l_ e_ ({ frames := 3, cells := 0, slots := 0, locals := 70 } : Room) s_ m_ args_ below_ meth_ c_ (MQ below_ (va_Qv (fun w_ => ∃ hm2 : Nat → Nat, ∃ rr2 : Nat → Nat, ∃ rc2 : Nat, (w_ = [(ck, zo 0 [.ref ch, .ref cr, .int (nI rc2)]), (ch, zi E 64 (zn hm2)), (cr, zi E 576 (zn rr2)), (p, zo 5 [.int (nI kd), .ref po, .ref pn, .int (nI len)]), (po, zi E 64 op), (pn, zi E 64 nn)]) ∧ (∀ i, hm2 i < 512) ∧ (∀ i h, i < len → (hasB (hm2 i) h ↔ Rch kd op nn len i h))) (zPost E A_) A_) args_ s_ 0 0 A_) A_ 3 21 [(0, .ref ck), (1, .ref p), (2, .int (nI t))] [] [(ck, zo 0 [.ref ch, .ref cr, .int (nI cx)]), (ch, zi E 64 (zn hx)), (cr, zi E 576 (zn rx)), (p, zo 5 [.int (nI kd), .ref po, .ref pn, .int (nI len)]), (po, zi E 64 op), (pn, zi E 64 nn)] 0 0 := by
    intro N21
    induction N21 with
    | zero => intro t hx rx cx hQ hB hP ht hm21; exact absurd hm21 (Nat.not_lt_zero _)
    | succ N21 ih21 =>
      intro t hx rx cx hQ hB hP ht hm21
      have hcx : cx ≤ 576 := by rw [hQ.2.2.1]; exact cntB_le hx
      refine z_iload_n 22 C0 2 dX0_walk_21 rfl rfl rfl ?_
      refine z_aload_n 23 C0 0 dX0_walk_22 rfl rfl rfl ?_
      refine z_get 26 C0 0 2 wz_0 rfl (by decide) (zTs_in wk_97) dX0_walk_23 rfl rfl rfl ?_
      refine z_icmp_geN 29 67 C0 (by omega) (by omega) dX0_walk_26 rfl (by decide) (fun k26 => ?_) (fun k26 => ?_)
      · skip
        have htc : t = cx := by have := cntB_le hx; have := hQ.2.2.1; omega
        exact z_vret C0 rfl dX0_walk_67 ⟨hx, rx, cx, rfl, (hQ.2.2.2), (fun i h hi => ⟨fun q => by obtain ⟨j, hj, e⟩ := hQ.2.1 i h (by omega) q; have h9 := hb_lt (hQ.2.2.2 i) q; have hr := (hQ.1 j hj).2.2; rw [e, show (i * 9 + h) / 9 = i by omega, show (i * 9 + h) % 9 = h by omega] at hr; exact hr, fun q => walk_all h0 hlen hQ hB (fun j hj => hP j (by omega)) q⟩)⟩ (by decide) (by decide)
      · skip
        refine z_iload_n 30 C0 2 dX0_walk_29 rfl rfl rfl ?_
        refine z_aload_n 31 C0 0 dX0_walk_30 rfl rfl rfl ?_
        refine z_get 34 C0 0 1 wz_0 rfl (by decide) (zTs_in wk_96) dX0_walk_31 rfl rfl rfl ?_
        refine z_alen 35 C0 2 dX0_walk_34 rfl rfl ?_
        refine z_icmp_geN 38 67 C0 (by omega) (by decide) dX0_walk_35 rfl (by decide) (fun k35 => ?_) (fun k35 => ?_)
        · skip
          have htc : t = cx := by have := cntB_le hx; have := hQ.2.2.1; omega
          exact z_vret C0 rfl dX0_walk_67 ⟨hx, rx, cx, rfl, (hQ.2.2.2), (fun i h hi => ⟨fun q => by obtain ⟨j, hj, e⟩ := hQ.2.1 i h (by omega) q; have h9 := hb_lt (hQ.2.2.2 i) q; have hr := (hQ.1 j hj).2.2; rw [e, show (i * 9 + h) / 9 = i by omega, show (i * 9 + h) % 9 = h by omega] at hr; exact hr, fun q => walk_all h0 hlen hQ hB (fun j hj => hP j (by omega)) q⟩)⟩ (by decide) (by decide)
        · skip
          have hq := hQ.1 t (by omega)
          have hlt := Rch.lt h0 hq.2.2
          refine z_aload_n 39 C0 0 dX0_walk_38 rfl rfl rfl ?_
          refine z_aload_n 40 C0 1 dX0_walk_39 rfl rfl rfl ?_
          refine z_aload_n 41 C0 0 dX0_walk_40 rfl rfl rfl ?_
          refine z_get 44 C0 0 1 wz_0 rfl (by decide) (zTs_in wk_96) dX0_walk_41 rfl rfl rfl ?_
          refine z_iload_n 45 C0 2 dX0_walk_44 rfl rfl rfl ?_
          refine z_ialdN 46 C0 2 (v := (nI (rx t))) dX0_walk_45 rfl rfl (by omega) (by decide) rfl ?_
          refine z_bipush 48 C0 (v := (nI 9)) dX0_walk_46 rfl rfl ?_
          refine z_idiv 49 C0 (v := (nI (rx t / 9))) dX0_walk_48 rfl (nI_ne0 (by omega) (by omega)) (pk_div (by have := hq.1; omega) (by decide) (by decide)) ?_
          refine z_aload_n 50 C0 0 dX0_walk_49 rfl rfl rfl ?_
          refine z_get 53 C0 0 1 wz_0 rfl (by decide) (zTs_in wk_96) dX0_walk_50 rfl rfl rfl ?_
          refine z_iload_n 54 C0 2 dX0_walk_53 rfl rfl rfl ?_
          refine z_ialdN 55 C0 2 (v := (nI (rx t))) dX0_walk_54 rfl rfl (by omega) (by decide) rfl ?_
          refine z_bipush 57 C0 (v := (nI 9)) dX0_walk_55 rfl rfl ?_
          refine z_irem 58 C0 (v := (nI (rx t % 9))) dX0_walk_57 rfl (nI_ne0 (by omega) (by omega)) (pk_rem (by have := hq.1; omega) (by decide) (by decide)) ?_
          refine z_callVv 61 C0 [0, 1, 2, 3, 4, 5] [] [] 0 0 (As := [.ref p, .int (nI (rx t / 9)), .int (nI (rx t % 9))]) (T := TX0) (N := 3) (C := RX0) (ci := 0) (n := 3) 0 (goOn l_ E ck ch cr hx rx cx p po pn kd op nn len (rx t / 9) (rx t % 9) (hQ) (hlt.1) (hlt.2) (hq.2.2) (by omega) (by omega)) (zGIV (fun _ => zTs_in) wk_265 wk_262 wk_263 wk_264 wk_16) rfl ⟨rfl, by decide, by decide, by decide +kernel⟩ rfl rfl rfl rfl (by decide) rfl rfl (Nat.le_of_ble_eq_true rfl) ⟨by decide, by decide⟩ rfl rfl ⟨by decide, by decide⟩ ⟨by decide, by decide⟩ dX0_walk_58 rfl (fun w58 hB58 => ?_)
          obtain ⟨hm2_58, rr2_58, rc2_58, rfl, fQ_58, fE_58, fS_58⟩ := hB58
          refine z_perm [0, 1, 2, 3, 4, 5] [(ck, zo 0 [.ref ch, .ref cr, .int (nI rc2_58)]), (ch, zi E 64 (zn hm2_58)), (cr, zi E 576 (zn rr2_58)), (p, zo 5 [.int (nI kd), .ref po, .ref pn, .int (nI len)]), (po, zi E 64 op), (pn, zi E 64 nn)] (by decide) rfl ?_
          refine z_iinc 64 C0 2 [1, 2, 0] [(0, .ref ck), (1, .ref p), (2, .int (nI (t + 1)))] (v := (nI (t + 1))) dX0_walk_61 rfl rfl (z_incN _ _) (by decide) rfl ?_
          refine z_goto 21 C0 dX0_walk_64 (by decide) ?_
          exact ih21 (t + 1) hm2_58 rr2_58 rc2_58 fQ_58 (fE_58.2.2 _ _ hB) (fun j hj i2 h2 hs => by rcases Nat.lt_or_ge j t with q | q; (rw [fE_58.2.1 j (by omega)] at hs; exact fE_58.2.2 _ _ (hP j q i2 h2 hs)); obtain rfl : j = t := (by omega); rw [fE_58.2.1 j (by omega)] at hs; exact fS_58 i2 h2 hs) (by have := fE_58.1; omega) (by omega)
  exact CUT21 (576 - 0 + 1) 0 hm2_16 rr2_16 rc2_16 fQ_16 fB_16 (fun j hj => absurd hj (Nat.not_lt_zero j)) (Nat.zero_le _) (Nat.lt_succ_self _)

set_option maxHeartbeats 4000000 in
set_option maxRecDepth 100000 in
theorem fw_0 (l_ : Launch) (E : zE) (ck : Nat) (ch : Nat) (cr : Nat) (hm : Nat → Nat) (rr_ : Nat → Nat) (rc : Nat) (p : Nat) (po : Nat) (pn : Nat) (kd : Nat) (op : Nat → Int32) (nn : Nat → Int32) (len : Nat) (h0 : len = 0) : zMi l_ E yX0_firstWrong (zTs yX0_firstWrong cX0_firstWrong 3 (some .int)) ({ frames := 4, cells := 0, slots := 0, locals := 92 } : Room) [.ref ck, .ref p] [(ck, zo 0 [.ref ch, .ref cr, .int (nI rc)]), (ch, zi E 64 (zn hm)), (cr, zi E 576 (zn rr_)), (p, zo 5 [.int (nI kd), .ref po, .ref pn, .int (nI len)]), (po, zi E 64 op), (pn, zi E 64 nn)] (fun r_ w_ => (r_ = (nI 64) ∧ w_ = [(ck, zo 0 [.ref ch, .ref cr, .int (nI rc)]), (ch, zi E 64 (zn hm)), (cr, zi E 576 (zn rr_)), (p, zo 5 [.int (nI kd), .ref po, .ref pn, .int (nI len)]), (po, zi E 64 op), (pn, zi E 64 nn)])) 0 0 := by
  refine zMi.of (cc := cX0_firstWrong) (nL := 3) (ret := (some .int)) (by decide) rfl (Nat.le_of_ble_eq_true rfl) ?_
  intro p_ e_ s_ m_ args_ below_ meth_ c_ A_ C0 hin0
  have C0 : zC E p_ s_ m_ args_ meth_ c_ cX0_firstWrong 3 (some .int) RX0 (zTs yX0_firstWrong cX0_firstWrong 3 (some .int)) A_ := C0
  refine z_eqL (L1 := [(0, .ref ck), (1, .ref p)]) rfl ?_
  refine z_aload_n 1 C0 1 dX0_firstWrong_0 rfl rfl rfl ?_
  refine z_get 4 C0 3 3 wz_5 rfl (by decide) (zTs_in wk_77) dX0_firstWrong_1 rfl rfl rfl ?_
  refine z_if_neN 7 10 C0 (by omega) dX0_firstWrong_4 rfl (by decide) (fun k4 => absurd k4 (by omega)) (fun k4 => ?_)
  refine z_bipush 9 C0 (v := (nI 64)) dX0_firstWrong_7 rfl rfl ?_
  exact z_iret C0 rfl dX0_firstWrong_9 ⟨rfl, rfl⟩ (by decide) (by decide)

set_option maxHeartbeats 4000000 in
set_option maxRecDepth 100000 in
theorem fw_1 (l_ : Launch) (E : zE) (ck : Nat) (ch : Nat) (cr : Nat) (hm : Nat → Nat) (rr_ : Nat → Nat) (rc : Nat) (p : Nat) (po : Nat) (pn : Nat) (kd : Nat) (op : Nat → Int32) (nn : Nat → Int32) (len : Nat) (hkd : kd < 4) (hlen : len ≤ 64) (h0 : 0 < len) : zMi l_ E yX0_firstWrong (zTs yX0_firstWrong cX0_firstWrong 3 (some .int)) ({ frames := 4, cells := 0, slots := 0, locals := 92 } : Room) [.ref ck, .ref p] [(ck, zo 0 [.ref ch, .ref cr, .int (nI rc)]), (ch, zi E 64 (zn hm)), (cr, zi E 576 (zn rr_)), (p, zo 5 [.int (nI kd), .ref po, .ref pn, .int (nI len)]), (po, zi E 64 op), (pn, zi E 64 nn)] (fun r_ w_ => ∃ hm2 : Nat → Nat, ∃ rr2 : Nat → Nat, ∃ rc2 : Nat, ∃ r2 : Int32, (r_ = r2 ∧ w_ = [(ck, zo 0 [.ref ch, .ref cr, .int (nI rc2)]), (ch, zi E 64 (zn hm2)), (cr, zi E 576 (zn rr2)), (p, zo 5 [.int (nI kd), .ref po, .ref pn, .int (nI len)]), (po, zi E 64 op), (pn, zi E 64 nn)]) ∧ (fwR kd op nn len r2)) 0 0 := by
  refine zMi.of (cc := cX0_firstWrong) (nL := 3) (ret := (some .int)) (by decide) rfl (Nat.le_of_ble_eq_true rfl) ?_
  intro p_ e_ s_ m_ args_ below_ meth_ c_ A_ C0 hin0
  have C0 : zC E p_ s_ m_ args_ meth_ c_ cX0_firstWrong 3 (some .int) RX0 (zTs yX0_firstWrong cX0_firstWrong 3 (some .int)) A_ := C0
  refine z_eqL (L1 := [(0, .ref ck), (1, .ref p)]) rfl ?_
  refine z_aload_n 1 C0 1 dX0_firstWrong_0 rfl rfl rfl ?_
  refine z_get 4 C0 3 3 wz_5 rfl (by decide) (zTs_in wk_77) dX0_firstWrong_1 rfl rfl rfl ?_
  refine z_if_neN 7 10 C0 (by omega) dX0_firstWrong_4 rfl (by decide) (fun k4 => ?_) (fun k4 => absurd k4 (by omega))
  refine z_aload_n 11 C0 0 dX0_firstWrong_10 rfl rfl rfl ?_
  refine z_aload_n 12 C0 1 dX0_firstWrong_11 rfl rfl rfl ?_
  refine z_callVv 15 C0 [0, 1, 2, 3, 4, 5] [] [] 0 0 (As := [.ref p]) (T := TX0) (N := 3) (C := RX0) (ci := 0) (n := 1) 0 (walk l_ E ck ch cr hm rr_ rc p po pn kd op nn len (by omega) (by omega) (by omega)) (zGIV (fun _ => zTs_in) wk_250 wk_247 wk_248 wk_249 wk_16) rfl ⟨rfl, by decide, by decide, by decide +kernel⟩ rfl rfl rfl rfl (by decide) rfl rfl (Nat.le_of_ble_eq_true rfl) ⟨by decide, by decide⟩ rfl rfl ⟨by decide, by decide⟩ ⟨by decide, by decide⟩ dX0_firstWrong_12 rfl (fun w12 hB12 => ?_)
  obtain ⟨hm2_12, rr2_12, rc2_12, rfl, f5_12, fS_12⟩ := hB12
  refine z_perm [0, 1, 2, 3, 4, 5] [(ck, zo 0 [.ref ch, .ref cr, .int (nI rc2_12)]), (ch, zi E 64 (zn hm2_12)), (cr, zi E 576 (zn rr2_12)), (p, zo 5 [.int (nI kd), .ref po, .ref pn, .int (nI len)]), (po, zi E 64 op), (pn, zi E 64 nn)] (by decide) rfl ?_
  refine z_iconst 16 C0 (v := (nI 0)) dX0_firstWrong_15 rfl rfl ?_
  refine z_istore_n 17 C0 [1, 2, 0] [(0, .ref ck), (1, .ref p), (2, .int (nI 0))] dX0_firstWrong_16 rfl rfl (by decide) rfl ?_
  have CUT17 : ∀ (N17 : Nat) (i : Nat), (i ≤ len) → (∀ x, x < i → ¬ Wr kd op nn len x) → len - i < N17 → Z E p_ l_ e_ ({ frames := 4, cells := 0, slots := 0, locals := 92 } : Room) s_ m_ args_ below_ meth_ c_ (MQ below_ (va_Qi (fun r_ w_ => ∃ hm2 : Nat → Nat, ∃ rr2 : Nat → Nat, ∃ rc2 : Nat, ∃ r2 : Int32, (r_ = r2 ∧ w_ = [(ck, zo 0 [.ref ch, .ref cr, .int (nI rc2)]), (ch, zi E 64 (zn hm2)), (cr, zi E 576 (zn rr2)), (p, zo 5 [.int (nI kd), .ref po, .ref pn, .int (nI len)]), (po, zi E 64 op), (pn, zi E 64 nn)]) ∧ (fwR kd op nn len r2)) (zPost E A_) A_) args_ s_ 0 0 A_) A_ 3 17 [(0, .ref ck), (1, .ref p), (2, .int (nI i))] [] [(ck, zo 0 [.ref ch, .ref cr, .int (nI rc2_12)]), (ch, zi E 64 (zn hm2_12)), (cr, zi E 576 (zn rr2_12)), (p, zo 5 [.int (nI kd), .ref po, .ref pn, .int (nI len)]), (po, zi E 64 op), (pn, zi E 64 nn)] 0 0 := by
    intro N17
    induction N17 with
    | zero => intro i hi hno hm17; exact absurd hm17 (Nat.not_lt_zero _)
    | succ N17 ih17 =>
      intro i hi hno hm17
      refine z_iload_n 18 C0 2 dX0_firstWrong_17 rfl rfl rfl ?_
      refine z_aload_n 19 C0 1 dX0_firstWrong_18 rfl rfl rfl ?_
      refine z_get 22 C0 3 3 wz_5 rfl (by decide) (zTs_in wk_77) dX0_firstWrong_19 rfl rfl rfl ?_
      refine z_icmp_geN 25 42 C0 (by omega) (by omega) dX0_firstWrong_22 rfl (by decide) (fun k22 => ?_) (fun k22 => ?_)
      · skip
        refine z_bipush 44 C0 (v := (-2)) dX0_firstWrong_42 rfl (by decide) ?_
        exact z_iret C0 rfl dX0_firstWrong_44 ⟨hm2_12, rr2_12, rc2_12, (-2), ⟨rfl, rfl⟩, (Or.inr ⟨fun x hx => hno x (by omega), rfl⟩)⟩ (by decide) (by decide)
      · skip
        refine z_aload_n 26 C0 0 dX0_firstWrong_25 rfl rfl rfl ?_
        refine z_aload_n 27 C0 1 dX0_firstWrong_26 rfl rfl rfl ?_
        refine z_iload_n 28 C0 2 dX0_firstWrong_27 rfl rfl rfl ?_
        refine z_callVi 31 C0 [0, 1, 3, 4, 5] [2] [(cr, zi E 576 (zn rr2_12))] 0 0 (As := [.ref p, .int (nI i)]) (T := TX0) (N := 3) (C := RX0) (ci := 0) (n := 2) 0 (isWrong l_ E ck ch cr hm2_12 rc2_12 p po pn kd op nn len i (by omega) (by omega) (by omega) (f5_12 i) (fun h => fS_12 i h (by omega))) (zGIV (fun _ => zTs_in) wk_299 wk_296 wk_297 wk_298 wk_16) rfl ⟨rfl, by decide, by decide, by decide +kernel⟩ rfl rfl rfl rfl (by decide) rfl rfl (Nat.le_of_ble_eq_true rfl) ⟨by decide, by decide⟩ rfl rfl ⟨by decide, by decide⟩ ⟨by decide, by decide⟩ dX0_firstWrong_28 rfl (fun r28 w28 hB28 => ?_)
        obtain ⟨rfl, rfl⟩ := hB28
        refine z_perm [1, 2, 0, 3, 4, 5] [(ck, zo 0 [.ref ch, .ref cr, .int (nI rc2_12)]), (ch, zi E 64 (zn hm2_12)), (cr, zi E 576 (zn rr2_12)), (p, zo 5 [.int (nI kd), .ref po, .ref pn, .int (nI len)]), (po, zi E 64 op), (pn, zi E 64 nn)] (by decide) rfl ?_
        refine z_if_eqP 34 36 C0 dX0_firstWrong_31 rfl (by decide) (fun k31 => ?_) (fun k31 => ?_)
        · skip
          refine z_iinc 39 C0 2 [1, 2, 0] [(0, .ref ck), (1, .ref p), (2, .int (nI (i + 1)))] (v := (nI (i + 1))) dX0_firstWrong_36 rfl rfl (z_incN _ _) (by decide) rfl ?_
          refine z_goto 17 C0 dX0_firstWrong_39 (by decide) ?_
          exact ih17 (i + 1) (by omega) (fun x hx => by rcases Nat.lt_or_ge x i with q | q; exact hno x q; rw [show x = i by omega]; exact k31) (by omega)
        · skip
          refine z_iload_n 35 C0 2 dX0_firstWrong_34 rfl rfl rfl ?_
          exact z_iret C0 rfl dX0_firstWrong_35 ⟨hm2_12, rr2_12, rc2_12, (nI i), ⟨rfl, rfl⟩, (Or.inl ⟨i, by omega, k31, hno, rfl⟩)⟩ (by decide) (by decide)
  exact CUT17 (len - 0 + 1) 0 (Nat.zero_le _) (fun x hx => absurd hx (Nat.not_lt_zero x)) (Nat.lt_succ_self _)
