theorem z_decC {a b c : Nat} (h : c ≤ a) (h2 : a - c = b) : nI a + Int32.ofInt (-(c : Int)) = nI b := by
  subst h2
  have e : Int32.ofInt (-(c : Int)) = -(nI c) := by rw [Int32.ofInt_neg]; congr 1
  rw [e, ← Int32.sub_eq_add_neg, pk_sub h]
theorem zArgs_eq {p : Nat} (h : p < 4) : zArgs p = nI (nArg p) := by
  rcases (show p = 0 ∨ p = 1 ∨ p = 2 ∨ p = 3 by omega) with rfl | rfl | rfl | rfl <;> decide
theorem upd_comm (f : Nat → Int32) {i j : Nat} (h : i ≠ j) {x y : Int32} : upd (upd f i x) j y = upd (upd f j y) i x := by
  funext k
  show (if k = j then y else (if k = i then x else f k)) = (if k = i then x else (if k = j then y else f k))
  by_cases h1 : k = j
  · rw [if_pos h1, if_neg (fun q => h (q.symm.trans h1)), if_pos h1]
  · rw [if_neg h1]
    by_cases h2 : k = i
    · rw [if_pos h2, if_pos h2]
    · rw [if_neg h2, if_neg h2, if_neg h1]
/-- the splits' numbers of the pairs that come -/
def rwS (cap n : Nat) (f : Nat → Nat) (of : Nat) (P : List (Int32 × Int32)) : Nat → Nat := fun j => if n ≤ j ∧ j < cap ∧ j - n < P.length then of else f j
def capS (cap n : Nat) (f : Nat → Nat) (x : Nat) : Nat → Nat := if n < cap then va_up f n x else f
theorem capS_t {cap n : Nat} {f : Nat → Nat} {x : Nat} (h : n < cap) : capS cap n f x = va_up f n x := if_pos h
theorem capS_f {cap n : Nat} {f : Nat → Nat} {x : Nat} (h : cap ≤ n) : capS cap n f x = f := if_neg (Nat.not_lt.mpr h)
theorem rwS_0 {cap n : Nat} {f : Nat → Nat} {of : Nat} : rwS cap n f of [] = f := by funext j; unfold rwS; rw [if_neg (fun q => absurd q.2.2 (Nat.not_lt_zero _))]
theorem rwK_t {cap n : Nat} {f : Nat → Int32} {P : List (Int32 × Int32)} {x : Int32 × Int32} : rwK cap n f (P ++ [x]) = capU cap (n + P.length) (rwK cap n f P) x.1 := by
  funext j
  have hl : (P ++ [x]).length = P.length + 1 := by simp
  by_cases hc : n + P.length < cap
  · rw [capU_t hc]
    show rwK cap n f (P ++ [x]) j = if j = n + P.length then x.1 else rwK cap n f P j
    unfold rwK
    rw [hl]
    by_cases hj : j = n + P.length
    · rw [if_pos hj, if_pos ⟨by omega, by omega, by omega⟩, getD_snoc (by omega), if_neg (by omega)]
    · rw [if_neg hj]
      by_cases hin : n ≤ j ∧ j < cap ∧ j - n < P.length
      · rw [if_pos hin, if_pos ⟨hin.1, hin.2.1, by omega⟩, getD_snoc (by omega), if_pos hin.2.2]
      · rw [if_neg hin, if_neg (fun q => hin ⟨q.1, q.2.1, by omega⟩)]
  · rw [capU_f (by omega)]
    unfold rwK
    rw [hl]
    by_cases hin : n ≤ j ∧ j < cap ∧ j - n < P.length
    · rw [if_pos hin, if_pos ⟨hin.1, hin.2.1, by omega⟩, getD_snoc (by omega), if_pos hin.2.2]
    · rw [if_neg hin, if_neg (fun q => hin ⟨q.1, q.2.1, by omega⟩)]
theorem rwV_t {cap n : Nat} {f : Nat → Int32} {P : List (Int32 × Int32)} {x : Int32 × Int32} : rwV cap n f (P ++ [x]) = capU cap (n + P.length) (rwV cap n f P) x.2 := by
  funext j
  have hl : (P ++ [x]).length = P.length + 1 := by simp
  by_cases hc : n + P.length < cap
  · rw [capU_t hc]
    show rwV cap n f (P ++ [x]) j = if j = n + P.length then x.2 else rwV cap n f P j
    unfold rwV
    rw [hl]
    by_cases hj : j = n + P.length
    · rw [if_pos hj, if_pos ⟨by omega, by omega, by omega⟩, getD_snoc (by omega), if_neg (by omega)]
    · rw [if_neg hj]
      by_cases hin : n ≤ j ∧ j < cap ∧ j - n < P.length
      · rw [if_pos hin, if_pos ⟨hin.1, hin.2.1, by omega⟩, getD_snoc (by omega), if_pos hin.2.2]
      · rw [if_neg hin, if_neg (fun q => hin ⟨q.1, q.2.1, by omega⟩)]
  · rw [capU_f (by omega)]
    unfold rwV
    rw [hl]
    by_cases hin : n ≤ j ∧ j < cap ∧ j - n < P.length
    · rw [if_pos hin, if_pos ⟨hin.1, hin.2.1, by omega⟩, getD_snoc (by omega), if_pos hin.2.2]
    · rw [if_neg hin, if_neg (fun q => hin ⟨q.1, q.2.1, by omega⟩)]
theorem rwS_t {cap n : Nat} {f : Nat → Nat} {of : Nat} {P : List (Int32 × Int32)} {x : Int32 × Int32} : rwS cap n f of (P ++ [x]) = capS cap (n + P.length) (rwS cap n f of P) of := by
  funext j
  have hl : (P ++ [x]).length = P.length + 1 := by simp
  by_cases hc : n + P.length < cap
  · rw [capS_t hc]
    show rwS cap n f of (P ++ [x]) j = if j = n + P.length then of else rwS cap n f of P j
    unfold rwS
    rw [hl]
    by_cases hj : j = n + P.length
    · rw [if_pos hj, if_pos ⟨by omega, by omega, by omega⟩]
    · rw [if_neg hj]
      by_cases hin : n ≤ j ∧ j < cap ∧ j - n < P.length
      · rw [if_pos hin, if_pos ⟨hin.1, hin.2.1, by omega⟩]
      · rw [if_neg hin, if_neg (fun q => hin ⟨q.1, q.2.1, by omega⟩)]
  · rw [capS_f (by omega)]
    unfold rwS
    rw [hl]
    by_cases hin : n ≤ j ∧ j < cap ∧ j - n < P.length
    · rw [if_pos hin, if_pos ⟨hin.1, hin.2.1, by omega⟩]
    · rw [if_neg hin, if_neg (fun q => hin ⟨q.1, q.2.1, by omega⟩)]
set_option maxHeartbeats 4000000 in
set_option maxRecDepth 100000 in
theorem isBad (l_ : Launch) (E : zE) (y : Nat) (sz : Nat) (yrk : Nat) (yrv : Nat) (rn : Nat) (yop : Nat) (ynu : Nat) (yle : Nat) (yk : Nat) (yv : Nat) (ysp : Nat) (prs : Nat) (yxk : Nat) (yxv : Nat) (rs : Nat) (err : Int32) (yto : Nat) (yst : Nat) (ylo : Nat) (stp : Nat) (res : Int32) (wo : Nat) (p : Nat) (oo : Nat → Option Nat) (nu : Nat → Option Nat) (ra : Nat) (rb : Nat) (op : Nat → Int32) (nn : Nat → Int32) (ln : Nat → Nat) (i : Nat) (hp : p < 4) (hoo : oo p = some ra) (hnu : nu p = some rb) (hi : i < 64) (hlen : ln p ≤ 64) : zMi l_ E yX7_isBad (zTs yX7_isBad cX7_isBad 5 (some .boolean)) ({ frames := 0, cells := 0, slots := 0, locals := 0 } : Room) [.ref y, .int (nI p), .int (nI i)] [(y, zo 7 [.int (nI sz), .ref yrk, .ref yrv, .int (nI rn), .ref yop, .ref ynu, .ref yle, .ref yk, .ref yv, .ref ysp, .int (nI prs), .ref yxk, .ref yxv, .int (nI rs), .int err, .ref yto, .ref yst, .ref ylo, .int (nI stp), .int res, .int (nI wo)]), (yop, zg E 4 oo), (ra, zi E 64 op), (ynu, zg E 4 nu), (rb, zi E 64 nn), (yle, zi E 4 (zn ln))] (fun r_ w_ => (r_ = (zb (¬ ∃ o, pOK p op nn (ln p) i o)) ∧ w_ = [(y, zo 7 [.int (nI sz), .ref yrk, .ref yrv, .int (nI rn), .ref yop, .ref ynu, .ref yle, .ref yk, .ref yv, .ref ysp, .int (nI prs), .ref yxk, .ref yxv, .int (nI rs), .int err, .ref yto, .ref yst, .ref ylo, .int (nI stp), .int res, .int (nI wo)]), (yop, zg E 4 oo), (ra, zi E 64 op), (ynu, zg E 4 nu), (rb, zi E 64 nn), (yle, zi E 4 (zn ln))])) 0 0 := by
  refine zMi.of (cc := cX7_isBad) (nL := 5) (ret := (some .boolean)) (by decide) rfl (Nat.le_of_ble_eq_true rfl) ?_
  intro p_ e_ s_ m_ args_ below_ meth_ c_ A_ C0 hin0
  have C0 : zC E p_ s_ m_ args_ meth_ c_ cX7_isBad 5 (some .boolean) RX7 (zTs yX7_isBad cX7_isBad 5 (some .boolean)) A_ := C0
  refine z_eqL (L1 := [(0, .ref y), (1, .int (nI p)), (2, .int (nI i))]) rfl ?_
  refine z_aload_n 1 C0 0 dX7_isBad_0 rfl rfl rfl ?_
  refine z_get 4 C0 0 4 wz_7 rfl (by decide) (zTs_in wk_452) dX7_isBad_1 rfl rfl rfl ?_
  refine z_iload_n 5 C0 1 dX7_isBad_4 rfl rfl rfl ?_
  refine z_aald 6 C0 1 2 dX7_isBad_5 rfl rfl rfl rfl (by omega) (by decide) (v := .ref ra) (by rw [hoo]; rfl) ?_
  refine z_iload_n 7 C0 2 dX7_isBad_6 rfl rfl rfl ?_
  refine z_ialdN 8 C0 2 (v := (op i)) dX7_isBad_7 rfl rfl (by omega) (by decide) rfl ?_
  refine z_istore_n 9 C0 [1, 2, 3, 0] [(0, .ref y), (1, .int (nI p)), (2, .int (nI i)), (3, .int (op i))] dX7_isBad_8 rfl rfl (by decide) rfl ?_
  refine z_aload_n 10 C0 0 dX7_isBad_9 rfl rfl rfl ?_
  refine z_get 13 C0 0 5 wz_7 rfl (by decide) (zTs_in wk_453) dX7_isBad_10 rfl rfl rfl ?_
  refine z_iload_n 14 C0 1 dX7_isBad_13 rfl rfl rfl ?_
  refine z_aald 15 C0 3 2 dX7_isBad_14 rfl rfl rfl rfl (by omega) (by decide) (v := .ref rb) (by rw [hnu]; rfl) ?_
  refine z_iload_n 16 C0 2 dX7_isBad_15 rfl rfl rfl ?_
  refine z_ialdN 17 C0 4 (v := (nn i)) dX7_isBad_16 rfl rfl (by omega) (by decide) rfl ?_
  refine z_istore 19 C0 [1, 2, 3, 4, 0] [(0, .ref y), (1, .int (nI p)), (2, .int (nI i)), (3, .int (op i)), (4, .int (nn i))] dX7_isBad_17 rfl (by decide) rfl ?_
  refine z_iload_n 20 C0 3 dX7_isBad_19 rfl rfl rfl ?_
  refine z_if_lt 23 50 C0 dX7_isBad_20 rfl (by decide) (fun k20 => ?_) (fun k20 => ?_)
  · skip
    refine z_iconst 51 C0 (v := (nI 1)) dX7_isBad_50 rfl rfl ?_
    exact z_zret C0 rfl rfl dX7_isBad_51 ⟨(zb_tN (fun ⟨o, h⟩ => by first | (rw [h.2.1] at k20; exact nI_pos (by have := h.1; omega) k20) | (rw [h.2.1] at k26; exact i32_nlt_of_le (nI_le h.1 (by decide)) k26))), rfl⟩ (by decide) (by decide)
  · skip
    refine z_iload_n 24 C0 3 dX7_isBad_23 rfl rfl rfl ?_
    refine z_bipush 26 C0 (v := (nI 18)) dX7_isBad_24 rfl rfl ?_
    refine z_icmp_gt 29 50 C0 dX7_isBad_26 rfl (by decide) (fun k26 => ?_) (fun k26 => ?_)
    · skip
      refine z_iconst 51 C0 (v := (nI 1)) dX7_isBad_50 rfl rfl ?_
      exact z_zret C0 rfl rfl dX7_isBad_51 ⟨(zb_tN (fun ⟨o, h⟩ => by first | (rw [h.2.1] at k20; exact nI_pos (by have := h.1; omega) k20) | (rw [h.2.1] at k26; exact i32_nlt_of_le (nI_le h.1 (by decide)) k26))), rfl⟩ (by decide) (by decide)
    · skip
      obtain ⟨o, ho, hop⟩ := nI_of2 (n := 18) (by decide) k20 (i32_le_of_nlt k26)
      refine z_eq (L1 := [(0, .ref y), (1, .int (nI p)), (2, .int (nI i)), (3, .int (nI o)), (4, .int (nn i))]) (st1 := []) (w1 := [(y, zo 7 [.int (nI sz), .ref yrk, .ref yrv, .int (nI rn), .ref yop, .ref ynu, .ref yle, .ref yk, .ref yv, .ref ysp, .int (nI prs), .ref yxk, .ref yxv, .int (nI rs), .int err, .ref yto, .ref yst, .ref ylo, .int (nI stp), .int res, .int (nI wo)]), (yop, zg E 4 oo), (ra, zi E 64 op), (ynu, zg E 4 nu), (rb, zi E 64 nn), (yle, zi E 4 (zn ln))]) (by rw [hop]) rfl rfl ?_
      refine z_iload_n 30 C0 3 dX7_isBad_29 rfl rfl rfl ?_
      refine z_bipush 32 C0 (v := (nI 16)) dX7_isBad_30 rfl rfl ?_
      refine z_icmp_neN 35 39 C0 (by omega) (by decide) dX7_isBad_32 rfl (by decide) (fun k32 => ?_) (fun k32 => ?_)
      · skip
        refine z_iload_n 40 C0 3 dX7_isBad_39 rfl rfl rfl ?_
        refine z_bipush 42 C0 (v := (nI 18)) dX7_isBad_40 rfl rfl ?_
        refine z_icmp_neN 45 52 C0 (by omega) (by decide) dX7_isBad_42 rfl (by decide) (fun k42 => ?_) (fun k42 => ?_)
        · skip
          refine z_iload_n 53 C0 3 dX7_isBad_52 rfl rfl rfl ?_
          refine z_iconst 54 C0 (v := (nI 1)) dX7_isBad_53 rfl rfl ?_
          refine z_icmp_neN 57 78 C0 (by omega) (by decide) dX7_isBad_54 rfl (by decide) (fun k54 => ?_) (fun k54 => ?_)
          · skip
            refine z_iload_n 79 C0 3 dX7_isBad_78 rfl rfl rfl ?_
            refine z_iconst 80 C0 (v := (nI 2)) dX7_isBad_79 rfl rfl ?_
            refine z_icmp_eqN 83 88 C0 (by omega) (by decide) dX7_isBad_80 rfl (by decide) (fun k80 => ?_) (fun k80 => ?_)
            · skip
              refine z_iload 90 C0 4 dX7_isBad_88 rfl rfl ?_
              refine z_if_lt 93 99 C0 dX7_isBad_90 rfl (by decide) (fun k90 => ?_) (fun k90 => ?_)
              · skip
                refine z_iconst 100 C0 (v := (nI 1)) dX7_isBad_99 rfl rfl ?_
                refine z_goto 104 C0 dX7_isBad_100 (by decide) ?_
                exact z_zret C0 rfl rfl dX7_isBad_104 ⟨(mis_t ho hop (fun h => by obtain ⟨j, hj, e⟩ := h.2.2.2.1 (by omega); have hN := nArg_le p; first | (rw [e] at k90; exact nI_pos (by omega) k90) | (rw [e] at k96; exact absurd (nI_le (show j ≤ 3 by omega) (by decide)) k96))), rfl⟩ (by decide) (by decide)
              · skip
                refine z_iload 95 C0 4 dX7_isBad_93 rfl rfl ?_
                refine z_iconst 96 C0 (v := (nI 3)) dX7_isBad_95 rfl rfl ?_
                refine z_icmp_le 99 103 C0 dX7_isBad_96 rfl (by decide) (fun k96 => ?_) (fun k96 => ?_)
                · skip
                  refine z_iconst 104 C0 (v := (nI 0)) dX7_isBad_103 rfl rfl ?_
                  exact z_zret C0 rfl rfl dX7_isBad_104 ⟨(mis_f ho hop (by obtain ⟨j, hj, e⟩ := nI_of2 (n := 3) (by decide) k90 k96; refine ⟨?_, ?_, ?_, ?_, ?_⟩ <;> intro q <;> first | exact ⟨j, by omega, e⟩ | omega)), rfl⟩ (by decide) (by decide)
                · skip
                  refine z_iconst 100 C0 (v := (nI 1)) dX7_isBad_99 rfl rfl ?_
                  refine z_goto 104 C0 dX7_isBad_100 (by decide) ?_
                  exact z_zret C0 rfl rfl dX7_isBad_104 ⟨(mis_t ho hop (fun h => by obtain ⟨j, hj, e⟩ := h.2.2.2.1 (by omega); have hN := nArg_le p; first | (rw [e] at k90; exact nI_pos (by omega) k90) | (rw [e] at k96; exact absurd (nI_le (show j ≤ 3 by omega) (by decide)) k96))), rfl⟩ (by decide) (by decide)
            · skip
              refine z_iload_n 84 C0 3 dX7_isBad_83 rfl rfl rfl ?_
              refine z_iconst 85 C0 (v := (nI 3)) dX7_isBad_84 rfl rfl ?_
              refine z_icmp_neN 88 105 C0 (by omega) (by decide) dX7_isBad_85 rfl (by decide) (fun k85 => ?_) (fun k85 => ?_)
              · skip
                refine z_iload_n 106 C0 3 dX7_isBad_105 rfl rfl rfl ?_
                refine z_bipush 108 C0 (v := (nI 14)) dX7_isBad_106 rfl rfl ?_
                refine z_icmp_eqN 111 117 C0 (by omega) (by decide) dX7_isBad_108 rfl (by decide) (fun k108 => ?_) (fun k108 => ?_)
                · skip
                  refine z_iload 119 C0 4 dX7_isBad_117 rfl rfl ?_
                  refine z_if_lt 122 133 C0 dX7_isBad_119 rfl (by decide) (fun k119 => ?_) (fun k119 => ?_)
                  · skip
                    refine z_iconst 134 C0 (v := (nI 1)) dX7_isBad_133 rfl rfl ?_
                    refine z_goto 138 C0 dX7_isBad_134 (by decide) ?_
                    exact z_zret C0 rfl rfl dX7_isBad_138 ⟨(mis_t ho hop (fun h => by obtain ⟨j, hj, e⟩ := h.2.2.2.2 (by omega); have hN := nArg_le p; first | (rw [e] at k119; exact nI_pos (by omega) k119) | (rw [e] at k130; exact k130 (nI_lt hj (by omega))))), rfl⟩ (by decide) (by decide)
                  · skip
                    refine z_iload 124 C0 4 dX7_isBad_122 rfl rfl ?_
                    refine z_aload_n 125 C0 0 dX7_isBad_124 rfl rfl rfl ?_
                    refine z_get 128 C0 0 6 wz_7 rfl (by decide) (zTs_in wk_454) dX7_isBad_125 rfl rfl rfl ?_
                    refine z_iload_n 129 C0 1 dX7_isBad_128 rfl rfl rfl ?_
                    refine z_ialdN 130 C0 5 (v := (nI (ln p))) dX7_isBad_129 rfl rfl (by omega) (by decide) rfl ?_
                    refine z_icmp_lt 133 137 C0 dX7_isBad_130 rfl (by decide) (fun k130 => ?_) (fun k130 => ?_)
                    · skip
                      refine z_iconst 138 C0 (v := (nI 0)) dX7_isBad_137 rfl rfl ?_
                      exact z_zret C0 rfl rfl dX7_isBad_138 ⟨(mis_f ho hop (by refine ⟨?_, ?_, ?_, ?_, ?_⟩ <;> intro q <;> first | exact nI_ltx (by omega) k119 k130 | omega)), rfl⟩ (by decide) (by decide)
                    · skip
                      refine z_iconst 134 C0 (v := (nI 1)) dX7_isBad_133 rfl rfl ?_
                      refine z_goto 138 C0 dX7_isBad_134 (by decide) ?_
                      exact z_zret C0 rfl rfl dX7_isBad_138 ⟨(mis_t ho hop (fun h => by obtain ⟨j, hj, e⟩ := h.2.2.2.2 (by omega); have hN := nArg_le p; first | (rw [e] at k119; exact nI_pos (by omega) k119) | (rw [e] at k130; exact k130 (nI_lt hj (by omega))))), rfl⟩ (by decide) (by decide)
                · skip
                  refine z_iload_n 112 C0 3 dX7_isBad_111 rfl rfl rfl ?_
                  refine z_bipush 114 C0 (v := (nI 15)) dX7_isBad_112 rfl rfl ?_
                  refine z_icmp_neN 117 137 C0 (by omega) (by decide) dX7_isBad_114 rfl (by decide) (fun k114 => ?_) (fun k114 => ?_)
                  · skip
                    refine z_iconst 138 C0 (v := (nI 0)) dX7_isBad_137 rfl rfl ?_
                    exact z_zret C0 rfl rfl dX7_isBad_138 ⟨(mis_f ho hop (by refine ⟨?_, ?_, ?_, ?_, ?_⟩ <;> intro q <;> first | exact nI_ltx (by omega) k119 k130 | omega)), rfl⟩ (by decide) (by decide)
                  · skip
                    refine z_iload 119 C0 4 dX7_isBad_117 rfl rfl ?_
                    refine z_if_lt 122 133 C0 dX7_isBad_119 rfl (by decide) (fun k119 => ?_) (fun k119 => ?_)
                    · skip
                      refine z_iconst 134 C0 (v := (nI 1)) dX7_isBad_133 rfl rfl ?_
                      refine z_goto 138 C0 dX7_isBad_134 (by decide) ?_
                      exact z_zret C0 rfl rfl dX7_isBad_138 ⟨(mis_t ho hop (fun h => by obtain ⟨j, hj, e⟩ := h.2.2.2.2 (by omega); have hN := nArg_le p; first | (rw [e] at k119; exact nI_pos (by omega) k119) | (rw [e] at k130; exact k130 (nI_lt hj (by omega))))), rfl⟩ (by decide) (by decide)
                    · skip
                      refine z_iload 124 C0 4 dX7_isBad_122 rfl rfl ?_
                      refine z_aload_n 125 C0 0 dX7_isBad_124 rfl rfl rfl ?_
                      refine z_get 128 C0 0 6 wz_7 rfl (by decide) (zTs_in wk_454) dX7_isBad_125 rfl rfl rfl ?_
                      refine z_iload_n 129 C0 1 dX7_isBad_128 rfl rfl rfl ?_
                      refine z_ialdN 130 C0 5 (v := (nI (ln p))) dX7_isBad_129 rfl rfl (by omega) (by decide) rfl ?_
                      refine z_icmp_lt 133 137 C0 dX7_isBad_130 rfl (by decide) (fun k130 => ?_) (fun k130 => ?_)
                      · skip
                        refine z_iconst 138 C0 (v := (nI 0)) dX7_isBad_137 rfl rfl ?_
                        exact z_zret C0 rfl rfl dX7_isBad_138 ⟨(mis_f ho hop (by refine ⟨?_, ?_, ?_, ?_, ?_⟩ <;> intro q <;> first | exact nI_ltx (by omega) k119 k130 | omega)), rfl⟩ (by decide) (by decide)
                      · skip
                        refine z_iconst 134 C0 (v := (nI 1)) dX7_isBad_133 rfl rfl ?_
                        refine z_goto 138 C0 dX7_isBad_134 (by decide) ?_
                        exact z_zret C0 rfl rfl dX7_isBad_138 ⟨(mis_t ho hop (fun h => by obtain ⟨j, hj, e⟩ := h.2.2.2.2 (by omega); have hN := nArg_le p; first | (rw [e] at k119; exact nI_pos (by omega) k119) | (rw [e] at k130; exact k130 (nI_lt hj (by omega))))), rfl⟩ (by decide) (by decide)
              · skip
                refine z_iload 90 C0 4 dX7_isBad_88 rfl rfl ?_
                refine z_if_lt 93 99 C0 dX7_isBad_90 rfl (by decide) (fun k90 => ?_) (fun k90 => ?_)
                · skip
                  refine z_iconst 100 C0 (v := (nI 1)) dX7_isBad_99 rfl rfl ?_
                  refine z_goto 104 C0 dX7_isBad_100 (by decide) ?_
                  exact z_zret C0 rfl rfl dX7_isBad_104 ⟨(mis_t ho hop (fun h => by obtain ⟨j, hj, e⟩ := h.2.2.2.1 (by omega); have hN := nArg_le p; first | (rw [e] at k90; exact nI_pos (by omega) k90) | (rw [e] at k96; exact absurd (nI_le (show j ≤ 3 by omega) (by decide)) k96))), rfl⟩ (by decide) (by decide)
                · skip
                  refine z_iload 95 C0 4 dX7_isBad_93 rfl rfl ?_
                  refine z_iconst 96 C0 (v := (nI 3)) dX7_isBad_95 rfl rfl ?_
                  refine z_icmp_le 99 103 C0 dX7_isBad_96 rfl (by decide) (fun k96 => ?_) (fun k96 => ?_)
                  · skip
                    refine z_iconst 104 C0 (v := (nI 0)) dX7_isBad_103 rfl rfl ?_
                    exact z_zret C0 rfl rfl dX7_isBad_104 ⟨(mis_f ho hop (by obtain ⟨j, hj, e⟩ := nI_of2 (n := 3) (by decide) k90 k96; refine ⟨?_, ?_, ?_, ?_, ?_⟩ <;> intro q <;> first | exact ⟨j, by omega, e⟩ | omega)), rfl⟩ (by decide) (by decide)
                  · skip
                    refine z_iconst 100 C0 (v := (nI 1)) dX7_isBad_99 rfl rfl ?_
                    refine z_goto 104 C0 dX7_isBad_100 (by decide) ?_
                    exact z_zret C0 rfl rfl dX7_isBad_104 ⟨(mis_t ho hop (fun h => by obtain ⟨j, hj, e⟩ := h.2.2.2.1 (by omega); have hN := nArg_le p; first | (rw [e] at k90; exact nI_pos (by omega) k90) | (rw [e] at k96; exact absurd (nI_le (show j ≤ 3 by omega) (by decide)) k96))), rfl⟩ (by decide) (by decide)
          · skip
            refine z_iload 59 C0 4 dX7_isBad_57 rfl rfl ?_
            refine z_if_lt 62 72 C0 dX7_isBad_59 rfl (by decide) (fun k59 => ?_) (fun k59 => ?_)
            · skip
              refine z_iconst 73 C0 (v := (nI 1)) dX7_isBad_72 rfl rfl ?_
              refine z_goto 77 C0 dX7_isBad_73 (by decide) ?_
              exact z_zret C0 rfl rfl dX7_isBad_77 ⟨(mis_t ho hop (fun h => by obtain ⟨j, hj, e⟩ := h.2.2.1 (by omega); have hN := nArg_le p; first | (rw [e] at k59; exact nI_pos (by omega) k59) | (rw [e] at k69; exact k69 (nI_lt hj (by omega))))), rfl⟩ (by decide) (by decide)
            · skip
              refine z_iload 64 C0 4 dX7_isBad_62 rfl rfl ?_
              refine z_getsA 67 C0 (zTs_in wk_543) dX7_isBad_64 rfl ?_
              refine z_iload_n 68 C0 1 dX7_isBad_67 rfl rfl rfl ?_
              refine z_tabA 69 C0 (v := (nI (nArg p))) dX7_isBad_68 rfl (by omega) (zArgs_eq hp) ?_
              refine z_icmp_lt 72 76 C0 dX7_isBad_69 rfl (by decide) (fun k69 => ?_) (fun k69 => ?_)
              · skip
                refine z_iconst 77 C0 (v := (nI 0)) dX7_isBad_76 rfl rfl ?_
                exact z_zret C0 rfl rfl dX7_isBad_77 ⟨(mis_f ho hop (by have hN := nArg_le p; have hx := nI_ltx (by omega) k59 k69; refine ⟨?_, ?_, ?_, ?_, ?_⟩ <;> intro q <;> first | exact hx | omega)), rfl⟩ (by decide) (by decide)
              · skip
                refine z_iconst 73 C0 (v := (nI 1)) dX7_isBad_72 rfl rfl ?_
                refine z_goto 77 C0 dX7_isBad_73 (by decide) ?_
                exact z_zret C0 rfl rfl dX7_isBad_77 ⟨(mis_t ho hop (fun h => by obtain ⟨j, hj, e⟩ := h.2.2.1 (by omega); have hN := nArg_le p; first | (rw [e] at k59; exact nI_pos (by omega) k59) | (rw [e] at k69; exact k69 (nI_lt hj (by omega))))), rfl⟩ (by decide) (by decide)
        · skip
          refine z_iload_n 46 C0 1 dX7_isBad_45 rfl rfl rfl ?_
          refine z_iconst 47 C0 (v := (nI 3)) dX7_isBad_46 rfl rfl ?_
          refine z_icmp_eqN 50 52 C0 (by omega) (by decide) dX7_isBad_47 rfl (by decide) (fun k47 => ?_) (fun k47 => ?_)
          · skip
            refine z_iload_n 53 C0 3 dX7_isBad_52 rfl rfl rfl ?_
            refine z_iconst 54 C0 (v := (nI 1)) dX7_isBad_53 rfl rfl ?_
            refine z_icmp_neN 57 78 C0 (by omega) (by decide) dX7_isBad_54 rfl (by decide) (fun k54 => ?_) (fun k54 => ?_)
            · skip
              refine z_iload_n 79 C0 3 dX7_isBad_78 rfl rfl rfl ?_
              refine z_iconst 80 C0 (v := (nI 2)) dX7_isBad_79 rfl rfl ?_
              refine z_icmp_eqN 83 88 C0 (by omega) (by decide) dX7_isBad_80 rfl (by decide) (fun k80 => ?_) (fun k80 => ?_)
              · skip
                refine z_iload 90 C0 4 dX7_isBad_88 rfl rfl ?_
                refine z_if_lt 93 99 C0 dX7_isBad_90 rfl (by decide) (fun k90 => ?_) (fun k90 => ?_)
                · skip
                  refine z_iconst 100 C0 (v := (nI 1)) dX7_isBad_99 rfl rfl ?_
                  refine z_goto 104 C0 dX7_isBad_100 (by decide) ?_
                  exact z_zret C0 rfl rfl dX7_isBad_104 ⟨(mis_t ho hop (fun h => by obtain ⟨j, hj, e⟩ := h.2.2.2.1 (by omega); have hN := nArg_le p; first | (rw [e] at k90; exact nI_pos (by omega) k90) | (rw [e] at k96; exact absurd (nI_le (show j ≤ 3 by omega) (by decide)) k96))), rfl⟩ (by decide) (by decide)
                · skip
                  refine z_iload 95 C0 4 dX7_isBad_93 rfl rfl ?_
                  refine z_iconst 96 C0 (v := (nI 3)) dX7_isBad_95 rfl rfl ?_
                  refine z_icmp_le 99 103 C0 dX7_isBad_96 rfl (by decide) (fun k96 => ?_) (fun k96 => ?_)
                  · skip
                    refine z_iconst 104 C0 (v := (nI 0)) dX7_isBad_103 rfl rfl ?_
                    exact z_zret C0 rfl rfl dX7_isBad_104 ⟨(mis_f ho hop (by obtain ⟨j, hj, e⟩ := nI_of2 (n := 3) (by decide) k90 k96; refine ⟨?_, ?_, ?_, ?_, ?_⟩ <;> intro q <;> first | exact ⟨j, by omega, e⟩ | omega)), rfl⟩ (by decide) (by decide)
                  · skip
                    refine z_iconst 100 C0 (v := (nI 1)) dX7_isBad_99 rfl rfl ?_
                    refine z_goto 104 C0 dX7_isBad_100 (by decide) ?_
                    exact z_zret C0 rfl rfl dX7_isBad_104 ⟨(mis_t ho hop (fun h => by obtain ⟨j, hj, e⟩ := h.2.2.2.1 (by omega); have hN := nArg_le p; first | (rw [e] at k90; exact nI_pos (by omega) k90) | (rw [e] at k96; exact absurd (nI_le (show j ≤ 3 by omega) (by decide)) k96))), rfl⟩ (by decide) (by decide)
              · skip
                refine z_iload_n 84 C0 3 dX7_isBad_83 rfl rfl rfl ?_
                refine z_iconst 85 C0 (v := (nI 3)) dX7_isBad_84 rfl rfl ?_
                refine z_icmp_neN 88 105 C0 (by omega) (by decide) dX7_isBad_85 rfl (by decide) (fun k85 => ?_) (fun k85 => ?_)
                · skip
                  refine z_iload_n 106 C0 3 dX7_isBad_105 rfl rfl rfl ?_
                  refine z_bipush 108 C0 (v := (nI 14)) dX7_isBad_106 rfl rfl ?_
                  refine z_icmp_eqN 111 117 C0 (by omega) (by decide) dX7_isBad_108 rfl (by decide) (fun k108 => ?_) (fun k108 => ?_)
                  · skip
                    refine z_iload 119 C0 4 dX7_isBad_117 rfl rfl ?_
                    refine z_if_lt 122 133 C0 dX7_isBad_119 rfl (by decide) (fun k119 => ?_) (fun k119 => ?_)
                    · skip
                      refine z_iconst 134 C0 (v := (nI 1)) dX7_isBad_133 rfl rfl ?_
                      refine z_goto 138 C0 dX7_isBad_134 (by decide) ?_
                      exact z_zret C0 rfl rfl dX7_isBad_138 ⟨(mis_t ho hop (fun h => by obtain ⟨j, hj, e⟩ := h.2.2.2.2 (by omega); have hN := nArg_le p; first | (rw [e] at k119; exact nI_pos (by omega) k119) | (rw [e] at k130; exact k130 (nI_lt hj (by omega))))), rfl⟩ (by decide) (by decide)
                    · skip
                      refine z_iload 124 C0 4 dX7_isBad_122 rfl rfl ?_
                      refine z_aload_n 125 C0 0 dX7_isBad_124 rfl rfl rfl ?_
                      refine z_get 128 C0 0 6 wz_7 rfl (by decide) (zTs_in wk_454) dX7_isBad_125 rfl rfl rfl ?_
                      refine z_iload_n 129 C0 1 dX7_isBad_128 rfl rfl rfl ?_
                      refine z_ialdN 130 C0 5 (v := (nI (ln p))) dX7_isBad_129 rfl rfl (by omega) (by decide) rfl ?_
                      refine z_icmp_lt 133 137 C0 dX7_isBad_130 rfl (by decide) (fun k130 => ?_) (fun k130 => ?_)
                      · skip
                        refine z_iconst 138 C0 (v := (nI 0)) dX7_isBad_137 rfl rfl ?_
                        exact z_zret C0 rfl rfl dX7_isBad_138 ⟨(mis_f ho hop (by refine ⟨?_, ?_, ?_, ?_, ?_⟩ <;> intro q <;> first | exact nI_ltx (by omega) k119 k130 | omega)), rfl⟩ (by decide) (by decide)
                      · skip
                        refine z_iconst 134 C0 (v := (nI 1)) dX7_isBad_133 rfl rfl ?_
                        refine z_goto 138 C0 dX7_isBad_134 (by decide) ?_
                        exact z_zret C0 rfl rfl dX7_isBad_138 ⟨(mis_t ho hop (fun h => by obtain ⟨j, hj, e⟩ := h.2.2.2.2 (by omega); have hN := nArg_le p; first | (rw [e] at k119; exact nI_pos (by omega) k119) | (rw [e] at k130; exact k130 (nI_lt hj (by omega))))), rfl⟩ (by decide) (by decide)
                  · skip
                    refine z_iload_n 112 C0 3 dX7_isBad_111 rfl rfl rfl ?_
                    refine z_bipush 114 C0 (v := (nI 15)) dX7_isBad_112 rfl rfl ?_
                    refine z_icmp_neN 117 137 C0 (by omega) (by decide) dX7_isBad_114 rfl (by decide) (fun k114 => ?_) (fun k114 => ?_)
                    · skip
                      refine z_iconst 138 C0 (v := (nI 0)) dX7_isBad_137 rfl rfl ?_
                      exact z_zret C0 rfl rfl dX7_isBad_138 ⟨(mis_f ho hop (by refine ⟨?_, ?_, ?_, ?_, ?_⟩ <;> intro q <;> first | exact nI_ltx (by omega) k119 k130 | omega)), rfl⟩ (by decide) (by decide)
                    · skip
                      refine z_iload 119 C0 4 dX7_isBad_117 rfl rfl ?_
                      refine z_if_lt 122 133 C0 dX7_isBad_119 rfl (by decide) (fun k119 => ?_) (fun k119 => ?_)
                      · skip
                        refine z_iconst 134 C0 (v := (nI 1)) dX7_isBad_133 rfl rfl ?_
                        refine z_goto 138 C0 dX7_isBad_134 (by decide) ?_
                        exact z_zret C0 rfl rfl dX7_isBad_138 ⟨(mis_t ho hop (fun h => by obtain ⟨j, hj, e⟩ := h.2.2.2.2 (by omega); have hN := nArg_le p; first | (rw [e] at k119; exact nI_pos (by omega) k119) | (rw [e] at k130; exact k130 (nI_lt hj (by omega))))), rfl⟩ (by decide) (by decide)
                      · skip
                        refine z_iload 124 C0 4 dX7_isBad_122 rfl rfl ?_
                        refine z_aload_n 125 C0 0 dX7_isBad_124 rfl rfl rfl ?_
                        refine z_get 128 C0 0 6 wz_7 rfl (by decide) (zTs_in wk_454) dX7_isBad_125 rfl rfl rfl ?_
                        refine z_iload_n 129 C0 1 dX7_isBad_128 rfl rfl rfl ?_
                        refine z_ialdN 130 C0 5 (v := (nI (ln p))) dX7_isBad_129 rfl rfl (by omega) (by decide) rfl ?_
                        refine z_icmp_lt 133 137 C0 dX7_isBad_130 rfl (by decide) (fun k130 => ?_) (fun k130 => ?_)
                        · skip
                          refine z_iconst 138 C0 (v := (nI 0)) dX7_isBad_137 rfl rfl ?_
                          exact z_zret C0 rfl rfl dX7_isBad_138 ⟨(mis_f ho hop (by refine ⟨?_, ?_, ?_, ?_, ?_⟩ <;> intro q <;> first | exact nI_ltx (by omega) k119 k130 | omega)), rfl⟩ (by decide) (by decide)
                        · skip
                          refine z_iconst 134 C0 (v := (nI 1)) dX7_isBad_133 rfl rfl ?_
                          refine z_goto 138 C0 dX7_isBad_134 (by decide) ?_
                          exact z_zret C0 rfl rfl dX7_isBad_138 ⟨(mis_t ho hop (fun h => by obtain ⟨j, hj, e⟩ := h.2.2.2.2 (by omega); have hN := nArg_le p; first | (rw [e] at k119; exact nI_pos (by omega) k119) | (rw [e] at k130; exact k130 (nI_lt hj (by omega))))), rfl⟩ (by decide) (by decide)
                · skip
                  refine z_iload 90 C0 4 dX7_isBad_88 rfl rfl ?_
                  refine z_if_lt 93 99 C0 dX7_isBad_90 rfl (by decide) (fun k90 => ?_) (fun k90 => ?_)
                  · skip
                    refine z_iconst 100 C0 (v := (nI 1)) dX7_isBad_99 rfl rfl ?_
                    refine z_goto 104 C0 dX7_isBad_100 (by decide) ?_
                    exact z_zret C0 rfl rfl dX7_isBad_104 ⟨(mis_t ho hop (fun h => by obtain ⟨j, hj, e⟩ := h.2.2.2.1 (by omega); have hN := nArg_le p; first | (rw [e] at k90; exact nI_pos (by omega) k90) | (rw [e] at k96; exact absurd (nI_le (show j ≤ 3 by omega) (by decide)) k96))), rfl⟩ (by decide) (by decide)
                  · skip
                    refine z_iload 95 C0 4 dX7_isBad_93 rfl rfl ?_
                    refine z_iconst 96 C0 (v := (nI 3)) dX7_isBad_95 rfl rfl ?_
                    refine z_icmp_le 99 103 C0 dX7_isBad_96 rfl (by decide) (fun k96 => ?_) (fun k96 => ?_)
                    · skip
                      refine z_iconst 104 C0 (v := (nI 0)) dX7_isBad_103 rfl rfl ?_
                      exact z_zret C0 rfl rfl dX7_isBad_104 ⟨(mis_f ho hop (by obtain ⟨j, hj, e⟩ := nI_of2 (n := 3) (by decide) k90 k96; refine ⟨?_, ?_, ?_, ?_, ?_⟩ <;> intro q <;> first | exact ⟨j, by omega, e⟩ | omega)), rfl⟩ (by decide) (by decide)
                    · skip
                      refine z_iconst 100 C0 (v := (nI 1)) dX7_isBad_99 rfl rfl ?_
                      refine z_goto 104 C0 dX7_isBad_100 (by decide) ?_
                      exact z_zret C0 rfl rfl dX7_isBad_104 ⟨(mis_t ho hop (fun h => by obtain ⟨j, hj, e⟩ := h.2.2.2.1 (by omega); have hN := nArg_le p; first | (rw [e] at k90; exact nI_pos (by omega) k90) | (rw [e] at k96; exact absurd (nI_le (show j ≤ 3 by omega) (by decide)) k96))), rfl⟩ (by decide) (by decide)
            · skip
              refine z_iload 59 C0 4 dX7_isBad_57 rfl rfl ?_
              refine z_if_lt 62 72 C0 dX7_isBad_59 rfl (by decide) (fun k59 => ?_) (fun k59 => ?_)
              · skip
                refine z_iconst 73 C0 (v := (nI 1)) dX7_isBad_72 rfl rfl ?_
                refine z_goto 77 C0 dX7_isBad_73 (by decide) ?_
                exact z_zret C0 rfl rfl dX7_isBad_77 ⟨(mis_t ho hop (fun h => by obtain ⟨j, hj, e⟩ := h.2.2.1 (by omega); have hN := nArg_le p; first | (rw [e] at k59; exact nI_pos (by omega) k59) | (rw [e] at k69; exact k69 (nI_lt hj (by omega))))), rfl⟩ (by decide) (by decide)
              · skip
                refine z_iload 64 C0 4 dX7_isBad_62 rfl rfl ?_
                refine z_getsA 67 C0 (zTs_in wk_543) dX7_isBad_64 rfl ?_
                refine z_iload_n 68 C0 1 dX7_isBad_67 rfl rfl rfl ?_
                refine z_tabA 69 C0 (v := (nI (nArg p))) dX7_isBad_68 rfl (by omega) (zArgs_eq hp) ?_
                refine z_icmp_lt 72 76 C0 dX7_isBad_69 rfl (by decide) (fun k69 => ?_) (fun k69 => ?_)
                · skip
                  refine z_iconst 77 C0 (v := (nI 0)) dX7_isBad_76 rfl rfl ?_
                  exact z_zret C0 rfl rfl dX7_isBad_77 ⟨(mis_f ho hop (by have hN := nArg_le p; have hx := nI_ltx (by omega) k59 k69; refine ⟨?_, ?_, ?_, ?_, ?_⟩ <;> intro q <;> first | exact hx | omega)), rfl⟩ (by decide) (by decide)
                · skip
                  refine z_iconst 73 C0 (v := (nI 1)) dX7_isBad_72 rfl rfl ?_
                  refine z_goto 77 C0 dX7_isBad_73 (by decide) ?_
                  exact z_zret C0 rfl rfl dX7_isBad_77 ⟨(mis_t ho hop (fun h => by obtain ⟨j, hj, e⟩ := h.2.2.1 (by omega); have hN := nArg_le p; first | (rw [e] at k59; exact nI_pos (by omega) k59) | (rw [e] at k69; exact k69 (nI_lt hj (by omega))))), rfl⟩ (by decide) (by decide)
          · skip
            refine z_iconst 51 C0 (v := (nI 1)) dX7_isBad_50 rfl rfl ?_
            exact z_zret C0 rfl rfl dX7_isBad_51 ⟨(mis_t ho hop (fun h => by have h1 := h.1; have h2 := h.2.1; omega)), rfl⟩ (by decide) (by decide)
      · skip
        refine z_iload_n 36 C0 1 dX7_isBad_35 rfl rfl rfl ?_
        refine z_if_neN 39 50 C0 (by omega) dX7_isBad_36 rfl (by decide) (fun k36 => ?_) (fun k36 => ?_)
        · skip
          refine z_iconst 51 C0 (v := (nI 1)) dX7_isBad_50 rfl rfl ?_
          exact z_zret C0 rfl rfl dX7_isBad_51 ⟨(mis_t ho hop (fun h => by have h1 := h.1; have h2 := h.2.1; omega)), rfl⟩ (by decide) (by decide)
        · skip
          refine z_iload_n 40 C0 3 dX7_isBad_39 rfl rfl rfl ?_
          refine z_bipush 42 C0 (v := (nI 18)) dX7_isBad_40 rfl rfl ?_
          refine z_icmp_neN 45 52 C0 (by omega) (by decide) dX7_isBad_42 rfl (by decide) (fun k42 => ?_) (fun k42 => ?_)
          · skip
            refine z_iload_n 53 C0 3 dX7_isBad_52 rfl rfl rfl ?_
            refine z_iconst 54 C0 (v := (nI 1)) dX7_isBad_53 rfl rfl ?_
            refine z_icmp_neN 57 78 C0 (by omega) (by decide) dX7_isBad_54 rfl (by decide) (fun k54 => ?_) (fun k54 => ?_)
            · skip
              refine z_iload_n 79 C0 3 dX7_isBad_78 rfl rfl rfl ?_
              refine z_iconst 80 C0 (v := (nI 2)) dX7_isBad_79 rfl rfl ?_
              refine z_icmp_eqN 83 88 C0 (by omega) (by decide) dX7_isBad_80 rfl (by decide) (fun k80 => ?_) (fun k80 => ?_)
              · skip
                refine z_iload 90 C0 4 dX7_isBad_88 rfl rfl ?_
                refine z_if_lt 93 99 C0 dX7_isBad_90 rfl (by decide) (fun k90 => ?_) (fun k90 => ?_)
                · skip
                  refine z_iconst 100 C0 (v := (nI 1)) dX7_isBad_99 rfl rfl ?_
                  refine z_goto 104 C0 dX7_isBad_100 (by decide) ?_
                  exact z_zret C0 rfl rfl dX7_isBad_104 ⟨(mis_t ho hop (fun h => by obtain ⟨j, hj, e⟩ := h.2.2.2.1 (by omega); have hN := nArg_le p; first | (rw [e] at k90; exact nI_pos (by omega) k90) | (rw [e] at k96; exact absurd (nI_le (show j ≤ 3 by omega) (by decide)) k96))), rfl⟩ (by decide) (by decide)
                · skip
                  refine z_iload 95 C0 4 dX7_isBad_93 rfl rfl ?_
                  refine z_iconst 96 C0 (v := (nI 3)) dX7_isBad_95 rfl rfl ?_
                  refine z_icmp_le 99 103 C0 dX7_isBad_96 rfl (by decide) (fun k96 => ?_) (fun k96 => ?_)
                  · skip
                    refine z_iconst 104 C0 (v := (nI 0)) dX7_isBad_103 rfl rfl ?_
                    exact z_zret C0 rfl rfl dX7_isBad_104 ⟨(mis_f ho hop (by obtain ⟨j, hj, e⟩ := nI_of2 (n := 3) (by decide) k90 k96; refine ⟨?_, ?_, ?_, ?_, ?_⟩ <;> intro q <;> first | exact ⟨j, by omega, e⟩ | omega)), rfl⟩ (by decide) (by decide)
                  · skip
                    refine z_iconst 100 C0 (v := (nI 1)) dX7_isBad_99 rfl rfl ?_
                    refine z_goto 104 C0 dX7_isBad_100 (by decide) ?_
                    exact z_zret C0 rfl rfl dX7_isBad_104 ⟨(mis_t ho hop (fun h => by obtain ⟨j, hj, e⟩ := h.2.2.2.1 (by omega); have hN := nArg_le p; first | (rw [e] at k90; exact nI_pos (by omega) k90) | (rw [e] at k96; exact absurd (nI_le (show j ≤ 3 by omega) (by decide)) k96))), rfl⟩ (by decide) (by decide)
              · skip
                refine z_iload_n 84 C0 3 dX7_isBad_83 rfl rfl rfl ?_
                refine z_iconst 85 C0 (v := (nI 3)) dX7_isBad_84 rfl rfl ?_
                refine z_icmp_neN 88 105 C0 (by omega) (by decide) dX7_isBad_85 rfl (by decide) (fun k85 => ?_) (fun k85 => ?_)
                · skip
                  refine z_iload_n 106 C0 3 dX7_isBad_105 rfl rfl rfl ?_
                  refine z_bipush 108 C0 (v := (nI 14)) dX7_isBad_106 rfl rfl ?_
                  refine z_icmp_eqN 111 117 C0 (by omega) (by decide) dX7_isBad_108 rfl (by decide) (fun k108 => ?_) (fun k108 => ?_)
                  · skip
                    refine z_iload 119 C0 4 dX7_isBad_117 rfl rfl ?_
                    refine z_if_lt 122 133 C0 dX7_isBad_119 rfl (by decide) (fun k119 => ?_) (fun k119 => ?_)
                    · skip
                      refine z_iconst 134 C0 (v := (nI 1)) dX7_isBad_133 rfl rfl ?_
                      refine z_goto 138 C0 dX7_isBad_134 (by decide) ?_
                      exact z_zret C0 rfl rfl dX7_isBad_138 ⟨(mis_t ho hop (fun h => by obtain ⟨j, hj, e⟩ := h.2.2.2.2 (by omega); have hN := nArg_le p; first | (rw [e] at k119; exact nI_pos (by omega) k119) | (rw [e] at k130; exact k130 (nI_lt hj (by omega))))), rfl⟩ (by decide) (by decide)
                    · skip
                      refine z_iload 124 C0 4 dX7_isBad_122 rfl rfl ?_
                      refine z_aload_n 125 C0 0 dX7_isBad_124 rfl rfl rfl ?_
                      refine z_get 128 C0 0 6 wz_7 rfl (by decide) (zTs_in wk_454) dX7_isBad_125 rfl rfl rfl ?_
                      refine z_iload_n 129 C0 1 dX7_isBad_128 rfl rfl rfl ?_
                      refine z_ialdN 130 C0 5 (v := (nI (ln p))) dX7_isBad_129 rfl rfl (by omega) (by decide) rfl ?_
                      refine z_icmp_lt 133 137 C0 dX7_isBad_130 rfl (by decide) (fun k130 => ?_) (fun k130 => ?_)
                      · skip
                        refine z_iconst 138 C0 (v := (nI 0)) dX7_isBad_137 rfl rfl ?_
                        exact z_zret C0 rfl rfl dX7_isBad_138 ⟨(mis_f ho hop (by refine ⟨?_, ?_, ?_, ?_, ?_⟩ <;> intro q <;> first | exact nI_ltx (by omega) k119 k130 | omega)), rfl⟩ (by decide) (by decide)
                      · skip
                        refine z_iconst 134 C0 (v := (nI 1)) dX7_isBad_133 rfl rfl ?_
                        refine z_goto 138 C0 dX7_isBad_134 (by decide) ?_
                        exact z_zret C0 rfl rfl dX7_isBad_138 ⟨(mis_t ho hop (fun h => by obtain ⟨j, hj, e⟩ := h.2.2.2.2 (by omega); have hN := nArg_le p; first | (rw [e] at k119; exact nI_pos (by omega) k119) | (rw [e] at k130; exact k130 (nI_lt hj (by omega))))), rfl⟩ (by decide) (by decide)
                  · skip
                    refine z_iload_n 112 C0 3 dX7_isBad_111 rfl rfl rfl ?_
                    refine z_bipush 114 C0 (v := (nI 15)) dX7_isBad_112 rfl rfl ?_
                    refine z_icmp_neN 117 137 C0 (by omega) (by decide) dX7_isBad_114 rfl (by decide) (fun k114 => ?_) (fun k114 => ?_)
                    · skip
                      refine z_iconst 138 C0 (v := (nI 0)) dX7_isBad_137 rfl rfl ?_
                      exact z_zret C0 rfl rfl dX7_isBad_138 ⟨(mis_f ho hop (by refine ⟨?_, ?_, ?_, ?_, ?_⟩ <;> intro q <;> first | exact nI_ltx (by omega) k119 k130 | omega)), rfl⟩ (by decide) (by decide)
                    · skip
                      refine z_iload 119 C0 4 dX7_isBad_117 rfl rfl ?_
                      refine z_if_lt 122 133 C0 dX7_isBad_119 rfl (by decide) (fun k119 => ?_) (fun k119 => ?_)
                      · skip
                        refine z_iconst 134 C0 (v := (nI 1)) dX7_isBad_133 rfl rfl ?_
                        refine z_goto 138 C0 dX7_isBad_134 (by decide) ?_
                        exact z_zret C0 rfl rfl dX7_isBad_138 ⟨(mis_t ho hop (fun h => by obtain ⟨j, hj, e⟩ := h.2.2.2.2 (by omega); have hN := nArg_le p; first | (rw [e] at k119; exact nI_pos (by omega) k119) | (rw [e] at k130; exact k130 (nI_lt hj (by omega))))), rfl⟩ (by decide) (by decide)
                      · skip
                        refine z_iload 124 C0 4 dX7_isBad_122 rfl rfl ?_
                        refine z_aload_n 125 C0 0 dX7_isBad_124 rfl rfl rfl ?_
                        refine z_get 128 C0 0 6 wz_7 rfl (by decide) (zTs_in wk_454) dX7_isBad_125 rfl rfl rfl ?_
                        refine z_iload_n 129 C0 1 dX7_isBad_128 rfl rfl rfl ?_
                        refine z_ialdN 130 C0 5 (v := (nI (ln p))) dX7_isBad_129 rfl rfl (by omega) (by decide) rfl ?_
                        refine z_icmp_lt 133 137 C0 dX7_isBad_130 rfl (by decide) (fun k130 => ?_) (fun k130 => ?_)
                        · skip
                          refine z_iconst 138 C0 (v := (nI 0)) dX7_isBad_137 rfl rfl ?_
                          exact z_zret C0 rfl rfl dX7_isBad_138 ⟨(mis_f ho hop (by refine ⟨?_, ?_, ?_, ?_, ?_⟩ <;> intro q <;> first | exact nI_ltx (by omega) k119 k130 | omega)), rfl⟩ (by decide) (by decide)
                        · skip
                          refine z_iconst 134 C0 (v := (nI 1)) dX7_isBad_133 rfl rfl ?_
                          refine z_goto 138 C0 dX7_isBad_134 (by decide) ?_
                          exact z_zret C0 rfl rfl dX7_isBad_138 ⟨(mis_t ho hop (fun h => by obtain ⟨j, hj, e⟩ := h.2.2.2.2 (by omega); have hN := nArg_le p; first | (rw [e] at k119; exact nI_pos (by omega) k119) | (rw [e] at k130; exact k130 (nI_lt hj (by omega))))), rfl⟩ (by decide) (by decide)
                · skip
                  refine z_iload 90 C0 4 dX7_isBad_88 rfl rfl ?_
                  refine z_if_lt 93 99 C0 dX7_isBad_90 rfl (by decide) (fun k90 => ?_) (fun k90 => ?_)
                  · skip
                    refine z_iconst 100 C0 (v := (nI 1)) dX7_isBad_99 rfl rfl ?_
                    refine z_goto 104 C0 dX7_isBad_100 (by decide) ?_
                    exact z_zret C0 rfl rfl dX7_isBad_104 ⟨(mis_t ho hop (fun h => by obtain ⟨j, hj, e⟩ := h.2.2.2.1 (by omega); have hN := nArg_le p; first | (rw [e] at k90; exact nI_pos (by omega) k90) | (rw [e] at k96; exact absurd (nI_le (show j ≤ 3 by omega) (by decide)) k96))), rfl⟩ (by decide) (by decide)
                  · skip
                    refine z_iload 95 C0 4 dX7_isBad_93 rfl rfl ?_
                    refine z_iconst 96 C0 (v := (nI 3)) dX7_isBad_95 rfl rfl ?_
                    refine z_icmp_le 99 103 C0 dX7_isBad_96 rfl (by decide) (fun k96 => ?_) (fun k96 => ?_)
                    · skip
                      refine z_iconst 104 C0 (v := (nI 0)) dX7_isBad_103 rfl rfl ?_
                      exact z_zret C0 rfl rfl dX7_isBad_104 ⟨(mis_f ho hop (by obtain ⟨j, hj, e⟩ := nI_of2 (n := 3) (by decide) k90 k96; refine ⟨?_, ?_, ?_, ?_, ?_⟩ <;> intro q <;> first | exact ⟨j, by omega, e⟩ | omega)), rfl⟩ (by decide) (by decide)
                    · skip
                      refine z_iconst 100 C0 (v := (nI 1)) dX7_isBad_99 rfl rfl ?_
                      refine z_goto 104 C0 dX7_isBad_100 (by decide) ?_
                      exact z_zret C0 rfl rfl dX7_isBad_104 ⟨(mis_t ho hop (fun h => by obtain ⟨j, hj, e⟩ := h.2.2.2.1 (by omega); have hN := nArg_le p; first | (rw [e] at k90; exact nI_pos (by omega) k90) | (rw [e] at k96; exact absurd (nI_le (show j ≤ 3 by omega) (by decide)) k96))), rfl⟩ (by decide) (by decide)
            · skip
              refine z_iload 59 C0 4 dX7_isBad_57 rfl rfl ?_
              refine z_if_lt 62 72 C0 dX7_isBad_59 rfl (by decide) (fun k59 => ?_) (fun k59 => ?_)
              · skip
                refine z_iconst 73 C0 (v := (nI 1)) dX7_isBad_72 rfl rfl ?_
                refine z_goto 77 C0 dX7_isBad_73 (by decide) ?_
                exact z_zret C0 rfl rfl dX7_isBad_77 ⟨(mis_t ho hop (fun h => by obtain ⟨j, hj, e⟩ := h.2.2.1 (by omega); have hN := nArg_le p; first | (rw [e] at k59; exact nI_pos (by omega) k59) | (rw [e] at k69; exact k69 (nI_lt hj (by omega))))), rfl⟩ (by decide) (by decide)
              · skip
                refine z_iload 64 C0 4 dX7_isBad_62 rfl rfl ?_
                refine z_getsA 67 C0 (zTs_in wk_543) dX7_isBad_64 rfl ?_
                refine z_iload_n 68 C0 1 dX7_isBad_67 rfl rfl rfl ?_
                refine z_tabA 69 C0 (v := (nI (nArg p))) dX7_isBad_68 rfl (by omega) (zArgs_eq hp) ?_
                refine z_icmp_lt 72 76 C0 dX7_isBad_69 rfl (by decide) (fun k69 => ?_) (fun k69 => ?_)
                · skip
                  refine z_iconst 77 C0 (v := (nI 0)) dX7_isBad_76 rfl rfl ?_
                  exact z_zret C0 rfl rfl dX7_isBad_77 ⟨(mis_f ho hop (by have hN := nArg_le p; have hx := nI_ltx (by omega) k59 k69; refine ⟨?_, ?_, ?_, ?_, ?_⟩ <;> intro q <;> first | exact hx | omega)), rfl⟩ (by decide) (by decide)
                · skip
                  refine z_iconst 73 C0 (v := (nI 1)) dX7_isBad_72 rfl rfl ?_
                  refine z_goto 77 C0 dX7_isBad_73 (by decide) ?_
                  exact z_zret C0 rfl rfl dX7_isBad_77 ⟨(mis_t ho hop (fun h => by obtain ⟨j, hj, e⟩ := h.2.2.1 (by omega); have hN := nArg_le p; first | (rw [e] at k59; exact nI_pos (by omega) k59) | (rw [e] at k69; exact k69 (nI_lt hj (by omega))))), rfl⟩ (by decide) (by decide)
          · skip
            refine z_iload_n 46 C0 1 dX7_isBad_45 rfl rfl rfl ?_
            refine z_iconst 47 C0 (v := (nI 3)) dX7_isBad_46 rfl rfl ?_
            refine z_icmp_eqN 50 52 C0 (by omega) (by decide) dX7_isBad_47 rfl (by decide) (fun k47 => ?_) (fun k47 => ?_)
            · skip
              refine z_iload_n 53 C0 3 dX7_isBad_52 rfl rfl rfl ?_
              refine z_iconst 54 C0 (v := (nI 1)) dX7_isBad_53 rfl rfl ?_
              refine z_icmp_neN 57 78 C0 (by omega) (by decide) dX7_isBad_54 rfl (by decide) (fun k54 => ?_) (fun k54 => ?_)
              · skip
                refine z_iload_n 79 C0 3 dX7_isBad_78 rfl rfl rfl ?_
                refine z_iconst 80 C0 (v := (nI 2)) dX7_isBad_79 rfl rfl ?_
                refine z_icmp_eqN 83 88 C0 (by omega) (by decide) dX7_isBad_80 rfl (by decide) (fun k80 => ?_) (fun k80 => ?_)
                · skip
                  refine z_iload 90 C0 4 dX7_isBad_88 rfl rfl ?_
                  refine z_if_lt 93 99 C0 dX7_isBad_90 rfl (by decide) (fun k90 => ?_) (fun k90 => ?_)
                  · skip
                    refine z_iconst 100 C0 (v := (nI 1)) dX7_isBad_99 rfl rfl ?_
                    refine z_goto 104 C0 dX7_isBad_100 (by decide) ?_
                    exact z_zret C0 rfl rfl dX7_isBad_104 ⟨(mis_t ho hop (fun h => by obtain ⟨j, hj, e⟩ := h.2.2.2.1 (by omega); have hN := nArg_le p; first | (rw [e] at k90; exact nI_pos (by omega) k90) | (rw [e] at k96; exact absurd (nI_le (show j ≤ 3 by omega) (by decide)) k96))), rfl⟩ (by decide) (by decide)
                  · skip
                    refine z_iload 95 C0 4 dX7_isBad_93 rfl rfl ?_
                    refine z_iconst 96 C0 (v := (nI 3)) dX7_isBad_95 rfl rfl ?_
                    refine z_icmp_le 99 103 C0 dX7_isBad_96 rfl (by decide) (fun k96 => ?_) (fun k96 => ?_)
                    · skip
                      refine z_iconst 104 C0 (v := (nI 0)) dX7_isBad_103 rfl rfl ?_
                      exact z_zret C0 rfl rfl dX7_isBad_104 ⟨(mis_f ho hop (by obtain ⟨j, hj, e⟩ := nI_of2 (n := 3) (by decide) k90 k96; refine ⟨?_, ?_, ?_, ?_, ?_⟩ <;> intro q <;> first | exact ⟨j, by omega, e⟩ | omega)), rfl⟩ (by decide) (by decide)
                    · skip
                      refine z_iconst 100 C0 (v := (nI 1)) dX7_isBad_99 rfl rfl ?_
                      refine z_goto 104 C0 dX7_isBad_100 (by decide) ?_
                      exact z_zret C0 rfl rfl dX7_isBad_104 ⟨(mis_t ho hop (fun h => by obtain ⟨j, hj, e⟩ := h.2.2.2.1 (by omega); have hN := nArg_le p; first | (rw [e] at k90; exact nI_pos (by omega) k90) | (rw [e] at k96; exact absurd (nI_le (show j ≤ 3 by omega) (by decide)) k96))), rfl⟩ (by decide) (by decide)
                · skip
                  refine z_iload_n 84 C0 3 dX7_isBad_83 rfl rfl rfl ?_
                  refine z_iconst 85 C0 (v := (nI 3)) dX7_isBad_84 rfl rfl ?_
                  refine z_icmp_neN 88 105 C0 (by omega) (by decide) dX7_isBad_85 rfl (by decide) (fun k85 => ?_) (fun k85 => ?_)
                  · skip
                    refine z_iload_n 106 C0 3 dX7_isBad_105 rfl rfl rfl ?_
                    refine z_bipush 108 C0 (v := (nI 14)) dX7_isBad_106 rfl rfl ?_
                    refine z_icmp_eqN 111 117 C0 (by omega) (by decide) dX7_isBad_108 rfl (by decide) (fun k108 => ?_) (fun k108 => ?_)
                    · skip
                      refine z_iload 119 C0 4 dX7_isBad_117 rfl rfl ?_
                      refine z_if_lt 122 133 C0 dX7_isBad_119 rfl (by decide) (fun k119 => ?_) (fun k119 => ?_)
                      · skip
                        refine z_iconst 134 C0 (v := (nI 1)) dX7_isBad_133 rfl rfl ?_
                        refine z_goto 138 C0 dX7_isBad_134 (by decide) ?_
                        exact z_zret C0 rfl rfl dX7_isBad_138 ⟨(mis_t ho hop (fun h => by obtain ⟨j, hj, e⟩ := h.2.2.2.2 (by omega); have hN := nArg_le p; first | (rw [e] at k119; exact nI_pos (by omega) k119) | (rw [e] at k130; exact k130 (nI_lt hj (by omega))))), rfl⟩ (by decide) (by decide)
                      · skip
                        refine z_iload 124 C0 4 dX7_isBad_122 rfl rfl ?_
                        refine z_aload_n 125 C0 0 dX7_isBad_124 rfl rfl rfl ?_
                        refine z_get 128 C0 0 6 wz_7 rfl (by decide) (zTs_in wk_454) dX7_isBad_125 rfl rfl rfl ?_
                        refine z_iload_n 129 C0 1 dX7_isBad_128 rfl rfl rfl ?_
                        refine z_ialdN 130 C0 5 (v := (nI (ln p))) dX7_isBad_129 rfl rfl (by omega) (by decide) rfl ?_
                        refine z_icmp_lt 133 137 C0 dX7_isBad_130 rfl (by decide) (fun k130 => ?_) (fun k130 => ?_)
                        · skip
                          refine z_iconst 138 C0 (v := (nI 0)) dX7_isBad_137 rfl rfl ?_
                          exact z_zret C0 rfl rfl dX7_isBad_138 ⟨(mis_f ho hop (by refine ⟨?_, ?_, ?_, ?_, ?_⟩ <;> intro q <;> first | exact nI_ltx (by omega) k119 k130 | omega)), rfl⟩ (by decide) (by decide)
                        · skip
                          refine z_iconst 134 C0 (v := (nI 1)) dX7_isBad_133 rfl rfl ?_
                          refine z_goto 138 C0 dX7_isBad_134 (by decide) ?_
                          exact z_zret C0 rfl rfl dX7_isBad_138 ⟨(mis_t ho hop (fun h => by obtain ⟨j, hj, e⟩ := h.2.2.2.2 (by omega); have hN := nArg_le p; first | (rw [e] at k119; exact nI_pos (by omega) k119) | (rw [e] at k130; exact k130 (nI_lt hj (by omega))))), rfl⟩ (by decide) (by decide)
                    · skip
                      refine z_iload_n 112 C0 3 dX7_isBad_111 rfl rfl rfl ?_
                      refine z_bipush 114 C0 (v := (nI 15)) dX7_isBad_112 rfl rfl ?_
                      refine z_icmp_neN 117 137 C0 (by omega) (by decide) dX7_isBad_114 rfl (by decide) (fun k114 => ?_) (fun k114 => ?_)
                      · skip
                        refine z_iconst 138 C0 (v := (nI 0)) dX7_isBad_137 rfl rfl ?_
                        exact z_zret C0 rfl rfl dX7_isBad_138 ⟨(mis_f ho hop (by refine ⟨?_, ?_, ?_, ?_, ?_⟩ <;> intro q <;> first | exact nI_ltx (by omega) k119 k130 | omega)), rfl⟩ (by decide) (by decide)
                      · skip
                        refine z_iload 119 C0 4 dX7_isBad_117 rfl rfl ?_
                        refine z_if_lt 122 133 C0 dX7_isBad_119 rfl (by decide) (fun k119 => ?_) (fun k119 => ?_)
                        · skip
                          refine z_iconst 134 C0 (v := (nI 1)) dX7_isBad_133 rfl rfl ?_
                          refine z_goto 138 C0 dX7_isBad_134 (by decide) ?_
                          exact z_zret C0 rfl rfl dX7_isBad_138 ⟨(mis_t ho hop (fun h => by obtain ⟨j, hj, e⟩ := h.2.2.2.2 (by omega); have hN := nArg_le p; first | (rw [e] at k119; exact nI_pos (by omega) k119) | (rw [e] at k130; exact k130 (nI_lt hj (by omega))))), rfl⟩ (by decide) (by decide)
                        · skip
                          refine z_iload 124 C0 4 dX7_isBad_122 rfl rfl ?_
                          refine z_aload_n 125 C0 0 dX7_isBad_124 rfl rfl rfl ?_
                          refine z_get 128 C0 0 6 wz_7 rfl (by decide) (zTs_in wk_454) dX7_isBad_125 rfl rfl rfl ?_
                          refine z_iload_n 129 C0 1 dX7_isBad_128 rfl rfl rfl ?_
                          refine z_ialdN 130 C0 5 (v := (nI (ln p))) dX7_isBad_129 rfl rfl (by omega) (by decide) rfl ?_
                          refine z_icmp_lt 133 137 C0 dX7_isBad_130 rfl (by decide) (fun k130 => ?_) (fun k130 => ?_)
                          · skip
                            refine z_iconst 138 C0 (v := (nI 0)) dX7_isBad_137 rfl rfl ?_
                            exact z_zret C0 rfl rfl dX7_isBad_138 ⟨(mis_f ho hop (by refine ⟨?_, ?_, ?_, ?_, ?_⟩ <;> intro q <;> first | exact nI_ltx (by omega) k119 k130 | omega)), rfl⟩ (by decide) (by decide)
                          · skip
                            refine z_iconst 134 C0 (v := (nI 1)) dX7_isBad_133 rfl rfl ?_
                            refine z_goto 138 C0 dX7_isBad_134 (by decide) ?_
                            exact z_zret C0 rfl rfl dX7_isBad_138 ⟨(mis_t ho hop (fun h => by obtain ⟨j, hj, e⟩ := h.2.2.2.2 (by omega); have hN := nArg_le p; first | (rw [e] at k119; exact nI_pos (by omega) k119) | (rw [e] at k130; exact k130 (nI_lt hj (by omega))))), rfl⟩ (by decide) (by decide)
                  · skip
                    refine z_iload 90 C0 4 dX7_isBad_88 rfl rfl ?_
                    refine z_if_lt 93 99 C0 dX7_isBad_90 rfl (by decide) (fun k90 => ?_) (fun k90 => ?_)
                    · skip
                      refine z_iconst 100 C0 (v := (nI 1)) dX7_isBad_99 rfl rfl ?_
                      refine z_goto 104 C0 dX7_isBad_100 (by decide) ?_
                      exact z_zret C0 rfl rfl dX7_isBad_104 ⟨(mis_t ho hop (fun h => by obtain ⟨j, hj, e⟩ := h.2.2.2.1 (by omega); have hN := nArg_le p; first | (rw [e] at k90; exact nI_pos (by omega) k90) | (rw [e] at k96; exact absurd (nI_le (show j ≤ 3 by omega) (by decide)) k96))), rfl⟩ (by decide) (by decide)
                    · skip
                      refine z_iload 95 C0 4 dX7_isBad_93 rfl rfl ?_
                      refine z_iconst 96 C0 (v := (nI 3)) dX7_isBad_95 rfl rfl ?_
                      refine z_icmp_le 99 103 C0 dX7_isBad_96 rfl (by decide) (fun k96 => ?_) (fun k96 => ?_)
                      · skip
                        refine z_iconst 104 C0 (v := (nI 0)) dX7_isBad_103 rfl rfl ?_
                        exact z_zret C0 rfl rfl dX7_isBad_104 ⟨(mis_f ho hop (by obtain ⟨j, hj, e⟩ := nI_of2 (n := 3) (by decide) k90 k96; refine ⟨?_, ?_, ?_, ?_, ?_⟩ <;> intro q <;> first | exact ⟨j, by omega, e⟩ | omega)), rfl⟩ (by decide) (by decide)
                      · skip
                        refine z_iconst 100 C0 (v := (nI 1)) dX7_isBad_99 rfl rfl ?_
                        refine z_goto 104 C0 dX7_isBad_100 (by decide) ?_
                        exact z_zret C0 rfl rfl dX7_isBad_104 ⟨(mis_t ho hop (fun h => by obtain ⟨j, hj, e⟩ := h.2.2.2.1 (by omega); have hN := nArg_le p; first | (rw [e] at k90; exact nI_pos (by omega) k90) | (rw [e] at k96; exact absurd (nI_le (show j ≤ 3 by omega) (by decide)) k96))), rfl⟩ (by decide) (by decide)
              · skip
                refine z_iload 59 C0 4 dX7_isBad_57 rfl rfl ?_
                refine z_if_lt 62 72 C0 dX7_isBad_59 rfl (by decide) (fun k59 => ?_) (fun k59 => ?_)
                · skip
                  refine z_iconst 73 C0 (v := (nI 1)) dX7_isBad_72 rfl rfl ?_
                  refine z_goto 77 C0 dX7_isBad_73 (by decide) ?_
                  exact z_zret C0 rfl rfl dX7_isBad_77 ⟨(mis_t ho hop (fun h => by obtain ⟨j, hj, e⟩ := h.2.2.1 (by omega); have hN := nArg_le p; first | (rw [e] at k59; exact nI_pos (by omega) k59) | (rw [e] at k69; exact k69 (nI_lt hj (by omega))))), rfl⟩ (by decide) (by decide)
                · skip
                  refine z_iload 64 C0 4 dX7_isBad_62 rfl rfl ?_
                  refine z_getsA 67 C0 (zTs_in wk_543) dX7_isBad_64 rfl ?_
                  refine z_iload_n 68 C0 1 dX7_isBad_67 rfl rfl rfl ?_
                  refine z_tabA 69 C0 (v := (nI (nArg p))) dX7_isBad_68 rfl (by omega) (zArgs_eq hp) ?_
                  refine z_icmp_lt 72 76 C0 dX7_isBad_69 rfl (by decide) (fun k69 => ?_) (fun k69 => ?_)
                  · skip
                    refine z_iconst 77 C0 (v := (nI 0)) dX7_isBad_76 rfl rfl ?_
                    exact z_zret C0 rfl rfl dX7_isBad_77 ⟨(mis_f ho hop (by have hN := nArg_le p; have hx := nI_ltx (by omega) k59 k69; refine ⟨?_, ?_, ?_, ?_, ?_⟩ <;> intro q <;> first | exact hx | omega)), rfl⟩ (by decide) (by decide)
                  · skip
                    refine z_iconst 73 C0 (v := (nI 1)) dX7_isBad_72 rfl rfl ?_
                    refine z_goto 77 C0 dX7_isBad_73 (by decide) ?_
                    exact z_zret C0 rfl rfl dX7_isBad_77 ⟨(mis_t ho hop (fun h => by obtain ⟨j, hj, e⟩ := h.2.2.1 (by omega); have hN := nArg_le p; first | (rw [e] at k59; exact nI_pos (by omega) k59) | (rw [e] at k69; exact k69 (nI_lt hj (by omega))))), rfl⟩ (by decide) (by decide)
            · skip
              refine z_iconst 51 C0 (v := (nI 1)) dX7_isBad_50 rfl rfl ?_
              exact z_zret C0 rfl rfl dX7_isBad_51 ⟨(mis_t ho hop (fun h => by have h1 := h.1; have h2 := h.2.1; omega)), rfl⟩ (by decide) (by decide)

set_option maxHeartbeats 4000000 in
set_option maxRecDepth 100000 in
theorem needs (l_ : Launch) (E : zE) (p : Nat) (o : Nat) (ho : o ≤ 18) (hp : p < 4) : zMi l_ E yX7_needs (zTs yX7_needs cX7_needs 2 (some .int)) ({ frames := 0, cells := 0, slots := 0, locals := 0 } : Room) [.int (nI p), .int (nI o)] [] (fun r_ w_ => (r_ = (nI (pNeed p o)) ∧ w_ = [])) 0 0 := by
  refine zMi.of (cc := cX7_needs) (nL := 2) (ret := (some .int)) (by decide) rfl (Nat.le_of_ble_eq_true rfl) ?_
  intro p_ e_ s_ m_ args_ below_ meth_ c_ A_ C0 hin0
  have C0 : zC E p_ s_ m_ args_ meth_ c_ cX7_needs 2 (some .int) RX7 (zTs yX7_needs cX7_needs 2 (some .int)) A_ := C0
  refine z_eqL (L1 := [(0, .int (nI p)), (1, .int (nI o))]) rfl ?_
  rcases le18 ho with rfl | rfl | rfl | rfl | rfl | rfl | rfl | rfl | rfl | rfl | rfl | rfl | rfl | rfl | rfl | rfl | rfl | rfl | rfl
  · skip
    refine z_iload_n 1 C0 1 dX7_needs_0 rfl rfl rfl ?_
    refine z_iconst 2 C0 (v := (nI 5)) dX7_needs_1 rfl rfl ?_
    refine z_icmp_eqN 5 23 C0 (by decide) (by decide) dX7_needs_2 rfl (by decide) (fun k2 => absurd k2 (by omega)) (fun k2 => ?_)
    refine z_iload_n 6 C0 1 dX7_needs_5 rfl rfl rfl ?_
    refine z_bipush 8 C0 (v := (nI 7)) dX7_needs_6 rfl rfl ?_
    refine z_icmp_ltN 11 17 C0 (by decide) (by decide) dX7_needs_8 rfl (by decide) (fun k8 => ?_) (fun k8 => absurd k8 (by omega))
    refine z_iload_n 18 C0 1 dX7_needs_17 rfl rfl rfl ?_
    refine z_bipush 20 C0 (v := (nI 16)) dX7_needs_18 rfl rfl ?_
    refine z_icmp_neN 23 25 C0 (by decide) (by decide) dX7_needs_20 rfl (by decide) (fun k20 => ?_) (fun k20 => absurd k20 (by omega))
    refine z_iload_n 26 C0 1 dX7_needs_25 rfl rfl rfl ?_
    refine z_iconst 27 C0 (v := (nI 3)) dX7_needs_26 rfl rfl ?_
    refine z_icmp_eqN 30 47 C0 (by decide) (by decide) dX7_needs_27 rfl (by decide) (fun k27 => absurd k27 (by omega)) (fun k27 => ?_)
    refine z_iload_n 31 C0 1 dX7_needs_30 rfl rfl rfl ?_
    refine z_iconst 32 C0 (v := (nI 4)) dX7_needs_31 rfl rfl ?_
    refine z_icmp_eqN 35 47 C0 (by decide) (by decide) dX7_needs_32 rfl (by decide) (fun k32 => absurd k32 (by omega)) (fun k32 => ?_)
    refine z_iload_n 36 C0 1 dX7_needs_35 rfl rfl rfl ?_
    refine z_bipush 38 C0 (v := (nI 6)) dX7_needs_36 rfl rfl ?_
    refine z_icmp_eqN 41 47 C0 (by decide) (by decide) dX7_needs_38 rfl (by decide) (fun k38 => absurd k38 (by omega)) (fun k38 => ?_)
    refine z_iload_n 42 C0 1 dX7_needs_41 rfl rfl rfl ?_
    refine z_bipush 44 C0 (v := (nI 15)) dX7_needs_42 rfl rfl ?_
    refine z_icmp_neN 47 49 C0 (by decide) (by decide) dX7_needs_44 rfl (by decide) (fun k44 => ?_) (fun k44 => absurd k44 (by omega))
    refine z_iload_n 50 C0 1 dX7_needs_49 rfl rfl rfl ?_
    refine z_bipush 52 C0 (v := (nI 17)) dX7_needs_50 rfl rfl ?_
    refine z_icmp_neN 55 63 C0 (by decide) (by decide) dX7_needs_52 rfl (by decide) (fun k52 => ?_) (fun k52 => absurd k52 (by omega))
    refine z_iconst 64 C0 (v := (nI 0)) dX7_needs_63 rfl rfl ?_
    exact z_iret C0 rfl dX7_needs_64 ⟨(congrArg nI (by unfold pNeed nNeed; first | rfl | (rw [if_pos ⟨rfl, by omega⟩]) | (rw [if_neg (fun q => by omega)]; rfl))), rfl⟩ (by decide) (by decide)
  · skip
    refine z_iload_n 1 C0 1 dX7_needs_0 rfl rfl rfl ?_
    refine z_iconst 2 C0 (v := (nI 5)) dX7_needs_1 rfl rfl ?_
    refine z_icmp_eqN 5 23 C0 (by decide) (by decide) dX7_needs_2 rfl (by decide) (fun k2 => absurd k2 (by omega)) (fun k2 => ?_)
    refine z_iload_n 6 C0 1 dX7_needs_5 rfl rfl rfl ?_
    refine z_bipush 8 C0 (v := (nI 7)) dX7_needs_6 rfl rfl ?_
    refine z_icmp_ltN 11 17 C0 (by decide) (by decide) dX7_needs_8 rfl (by decide) (fun k8 => ?_) (fun k8 => absurd k8 (by omega))
    refine z_iload_n 18 C0 1 dX7_needs_17 rfl rfl rfl ?_
    refine z_bipush 20 C0 (v := (nI 16)) dX7_needs_18 rfl rfl ?_
    refine z_icmp_neN 23 25 C0 (by decide) (by decide) dX7_needs_20 rfl (by decide) (fun k20 => ?_) (fun k20 => absurd k20 (by omega))
    refine z_iload_n 26 C0 1 dX7_needs_25 rfl rfl rfl ?_
    refine z_iconst 27 C0 (v := (nI 3)) dX7_needs_26 rfl rfl ?_
    refine z_icmp_eqN 30 47 C0 (by decide) (by decide) dX7_needs_27 rfl (by decide) (fun k27 => absurd k27 (by omega)) (fun k27 => ?_)
    refine z_iload_n 31 C0 1 dX7_needs_30 rfl rfl rfl ?_
    refine z_iconst 32 C0 (v := (nI 4)) dX7_needs_31 rfl rfl ?_
    refine z_icmp_eqN 35 47 C0 (by decide) (by decide) dX7_needs_32 rfl (by decide) (fun k32 => absurd k32 (by omega)) (fun k32 => ?_)
    refine z_iload_n 36 C0 1 dX7_needs_35 rfl rfl rfl ?_
    refine z_bipush 38 C0 (v := (nI 6)) dX7_needs_36 rfl rfl ?_
    refine z_icmp_eqN 41 47 C0 (by decide) (by decide) dX7_needs_38 rfl (by decide) (fun k38 => absurd k38 (by omega)) (fun k38 => ?_)
    refine z_iload_n 42 C0 1 dX7_needs_41 rfl rfl rfl ?_
    refine z_bipush 44 C0 (v := (nI 15)) dX7_needs_42 rfl rfl ?_
    refine z_icmp_neN 47 49 C0 (by decide) (by decide) dX7_needs_44 rfl (by decide) (fun k44 => ?_) (fun k44 => absurd k44 (by omega))
    refine z_iload_n 50 C0 1 dX7_needs_49 rfl rfl rfl ?_
    refine z_bipush 52 C0 (v := (nI 17)) dX7_needs_50 rfl rfl ?_
    refine z_icmp_neN 55 63 C0 (by decide) (by decide) dX7_needs_52 rfl (by decide) (fun k52 => ?_) (fun k52 => absurd k52 (by omega))
    refine z_iconst 64 C0 (v := (nI 0)) dX7_needs_63 rfl rfl ?_
    exact z_iret C0 rfl dX7_needs_64 ⟨(congrArg nI (by unfold pNeed nNeed; first | rfl | (rw [if_pos ⟨rfl, by omega⟩]) | (rw [if_neg (fun q => by omega)]; rfl))), rfl⟩ (by decide) (by decide)
  · skip
    refine z_iload_n 1 C0 1 dX7_needs_0 rfl rfl rfl ?_
    refine z_iconst 2 C0 (v := (nI 5)) dX7_needs_1 rfl rfl ?_
    refine z_icmp_eqN 5 23 C0 (by decide) (by decide) dX7_needs_2 rfl (by decide) (fun k2 => absurd k2 (by omega)) (fun k2 => ?_)
    refine z_iload_n 6 C0 1 dX7_needs_5 rfl rfl rfl ?_
    refine z_bipush 8 C0 (v := (nI 7)) dX7_needs_6 rfl rfl ?_
    refine z_icmp_ltN 11 17 C0 (by decide) (by decide) dX7_needs_8 rfl (by decide) (fun k8 => ?_) (fun k8 => absurd k8 (by omega))
    refine z_iload_n 18 C0 1 dX7_needs_17 rfl rfl rfl ?_
    refine z_bipush 20 C0 (v := (nI 16)) dX7_needs_18 rfl rfl ?_
    refine z_icmp_neN 23 25 C0 (by decide) (by decide) dX7_needs_20 rfl (by decide) (fun k20 => ?_) (fun k20 => absurd k20 (by omega))
    refine z_iload_n 26 C0 1 dX7_needs_25 rfl rfl rfl ?_
    refine z_iconst 27 C0 (v := (nI 3)) dX7_needs_26 rfl rfl ?_
    refine z_icmp_eqN 30 47 C0 (by decide) (by decide) dX7_needs_27 rfl (by decide) (fun k27 => absurd k27 (by omega)) (fun k27 => ?_)
    refine z_iload_n 31 C0 1 dX7_needs_30 rfl rfl rfl ?_
    refine z_iconst 32 C0 (v := (nI 4)) dX7_needs_31 rfl rfl ?_
    refine z_icmp_eqN 35 47 C0 (by decide) (by decide) dX7_needs_32 rfl (by decide) (fun k32 => absurd k32 (by omega)) (fun k32 => ?_)
    refine z_iload_n 36 C0 1 dX7_needs_35 rfl rfl rfl ?_
    refine z_bipush 38 C0 (v := (nI 6)) dX7_needs_36 rfl rfl ?_
    refine z_icmp_eqN 41 47 C0 (by decide) (by decide) dX7_needs_38 rfl (by decide) (fun k38 => absurd k38 (by omega)) (fun k38 => ?_)
    refine z_iload_n 42 C0 1 dX7_needs_41 rfl rfl rfl ?_
    refine z_bipush 44 C0 (v := (nI 15)) dX7_needs_42 rfl rfl ?_
    refine z_icmp_neN 47 49 C0 (by decide) (by decide) dX7_needs_44 rfl (by decide) (fun k44 => ?_) (fun k44 => absurd k44 (by omega))
    refine z_iload_n 50 C0 1 dX7_needs_49 rfl rfl rfl ?_
    refine z_bipush 52 C0 (v := (nI 17)) dX7_needs_50 rfl rfl ?_
    refine z_icmp_neN 55 63 C0 (by decide) (by decide) dX7_needs_52 rfl (by decide) (fun k52 => ?_) (fun k52 => absurd k52 (by omega))
    refine z_iconst 64 C0 (v := (nI 0)) dX7_needs_63 rfl rfl ?_
    exact z_iret C0 rfl dX7_needs_64 ⟨(congrArg nI (by unfold pNeed nNeed; first | rfl | (rw [if_pos ⟨rfl, by omega⟩]) | (rw [if_neg (fun q => by omega)]; rfl))), rfl⟩ (by decide) (by decide)
  · skip
    refine z_iload_n 1 C0 1 dX7_needs_0 rfl rfl rfl ?_
    refine z_iconst 2 C0 (v := (nI 5)) dX7_needs_1 rfl rfl ?_
    refine z_icmp_eqN 5 23 C0 (by decide) (by decide) dX7_needs_2 rfl (by decide) (fun k2 => absurd k2 (by omega)) (fun k2 => ?_)
    refine z_iload_n 6 C0 1 dX7_needs_5 rfl rfl rfl ?_
    refine z_bipush 8 C0 (v := (nI 7)) dX7_needs_6 rfl rfl ?_
    refine z_icmp_ltN 11 17 C0 (by decide) (by decide) dX7_needs_8 rfl (by decide) (fun k8 => ?_) (fun k8 => absurd k8 (by omega))
    refine z_iload_n 18 C0 1 dX7_needs_17 rfl rfl rfl ?_
    refine z_bipush 20 C0 (v := (nI 16)) dX7_needs_18 rfl rfl ?_
    refine z_icmp_neN 23 25 C0 (by decide) (by decide) dX7_needs_20 rfl (by decide) (fun k20 => ?_) (fun k20 => absurd k20 (by omega))
    refine z_iload_n 26 C0 1 dX7_needs_25 rfl rfl rfl ?_
    refine z_iconst 27 C0 (v := (nI 3)) dX7_needs_26 rfl rfl ?_
    refine z_icmp_eqN 30 47 C0 (by decide) (by decide) dX7_needs_27 rfl (by decide) (fun k27 => ?_) (fun k27 => absurd k27 (by omega))
    refine z_iconst 48 C0 (v := (nI 1)) dX7_needs_47 rfl rfl ?_
    exact z_iret C0 rfl dX7_needs_48 ⟨(congrArg nI (by unfold pNeed nNeed; first | rfl | (rw [if_pos ⟨rfl, by omega⟩]) | (rw [if_neg (fun q => by omega)]; rfl))), rfl⟩ (by decide) (by decide)
  · skip
    refine z_iload_n 1 C0 1 dX7_needs_0 rfl rfl rfl ?_
    refine z_iconst 2 C0 (v := (nI 5)) dX7_needs_1 rfl rfl ?_
    refine z_icmp_eqN 5 23 C0 (by decide) (by decide) dX7_needs_2 rfl (by decide) (fun k2 => absurd k2 (by omega)) (fun k2 => ?_)
    refine z_iload_n 6 C0 1 dX7_needs_5 rfl rfl rfl ?_
    refine z_bipush 8 C0 (v := (nI 7)) dX7_needs_6 rfl rfl ?_
    refine z_icmp_ltN 11 17 C0 (by decide) (by decide) dX7_needs_8 rfl (by decide) (fun k8 => ?_) (fun k8 => absurd k8 (by omega))
    refine z_iload_n 18 C0 1 dX7_needs_17 rfl rfl rfl ?_
    refine z_bipush 20 C0 (v := (nI 16)) dX7_needs_18 rfl rfl ?_
    refine z_icmp_neN 23 25 C0 (by decide) (by decide) dX7_needs_20 rfl (by decide) (fun k20 => ?_) (fun k20 => absurd k20 (by omega))
    refine z_iload_n 26 C0 1 dX7_needs_25 rfl rfl rfl ?_
    refine z_iconst 27 C0 (v := (nI 3)) dX7_needs_26 rfl rfl ?_
    refine z_icmp_eqN 30 47 C0 (by decide) (by decide) dX7_needs_27 rfl (by decide) (fun k27 => absurd k27 (by omega)) (fun k27 => ?_)
    refine z_iload_n 31 C0 1 dX7_needs_30 rfl rfl rfl ?_
    refine z_iconst 32 C0 (v := (nI 4)) dX7_needs_31 rfl rfl ?_
    refine z_icmp_eqN 35 47 C0 (by decide) (by decide) dX7_needs_32 rfl (by decide) (fun k32 => ?_) (fun k32 => absurd k32 (by omega))
    refine z_iconst 48 C0 (v := (nI 1)) dX7_needs_47 rfl rfl ?_
    exact z_iret C0 rfl dX7_needs_48 ⟨(congrArg nI (by unfold pNeed nNeed; first | rfl | (rw [if_pos ⟨rfl, by omega⟩]) | (rw [if_neg (fun q => by omega)]; rfl))), rfl⟩ (by decide) (by decide)
  · skip
    refine z_iload_n 1 C0 1 dX7_needs_0 rfl rfl rfl ?_
    refine z_iconst 2 C0 (v := (nI 5)) dX7_needs_1 rfl rfl ?_
    refine z_icmp_eqN 5 23 C0 (by decide) (by decide) dX7_needs_2 rfl (by decide) (fun k2 => ?_) (fun k2 => absurd k2 (by omega))
    refine z_iconst 24 C0 (v := (nI 2)) dX7_needs_23 rfl rfl ?_
    exact z_iret C0 rfl dX7_needs_24 ⟨(congrArg nI (by unfold pNeed nNeed; first | rfl | (rw [if_pos ⟨rfl, by omega⟩]) | (rw [if_neg (fun q => by omega)]; rfl))), rfl⟩ (by decide) (by decide)
  · skip
    refine z_iload_n 1 C0 1 dX7_needs_0 rfl rfl rfl ?_
    refine z_iconst 2 C0 (v := (nI 5)) dX7_needs_1 rfl rfl ?_
    refine z_icmp_eqN 5 23 C0 (by decide) (by decide) dX7_needs_2 rfl (by decide) (fun k2 => absurd k2 (by omega)) (fun k2 => ?_)
    refine z_iload_n 6 C0 1 dX7_needs_5 rfl rfl rfl ?_
    refine z_bipush 8 C0 (v := (nI 7)) dX7_needs_6 rfl rfl ?_
    refine z_icmp_ltN 11 17 C0 (by decide) (by decide) dX7_needs_8 rfl (by decide) (fun k8 => ?_) (fun k8 => absurd k8 (by omega))
    refine z_iload_n 18 C0 1 dX7_needs_17 rfl rfl rfl ?_
    refine z_bipush 20 C0 (v := (nI 16)) dX7_needs_18 rfl rfl ?_
    refine z_icmp_neN 23 25 C0 (by decide) (by decide) dX7_needs_20 rfl (by decide) (fun k20 => ?_) (fun k20 => absurd k20 (by omega))
    refine z_iload_n 26 C0 1 dX7_needs_25 rfl rfl rfl ?_
    refine z_iconst 27 C0 (v := (nI 3)) dX7_needs_26 rfl rfl ?_
    refine z_icmp_eqN 30 47 C0 (by decide) (by decide) dX7_needs_27 rfl (by decide) (fun k27 => absurd k27 (by omega)) (fun k27 => ?_)
    refine z_iload_n 31 C0 1 dX7_needs_30 rfl rfl rfl ?_
    refine z_iconst 32 C0 (v := (nI 4)) dX7_needs_31 rfl rfl ?_
    refine z_icmp_eqN 35 47 C0 (by decide) (by decide) dX7_needs_32 rfl (by decide) (fun k32 => absurd k32 (by omega)) (fun k32 => ?_)
    refine z_iload_n 36 C0 1 dX7_needs_35 rfl rfl rfl ?_
    refine z_bipush 38 C0 (v := (nI 6)) dX7_needs_36 rfl rfl ?_
    refine z_icmp_eqN 41 47 C0 (by decide) (by decide) dX7_needs_38 rfl (by decide) (fun k38 => ?_) (fun k38 => absurd k38 (by omega))
    refine z_iconst 48 C0 (v := (nI 1)) dX7_needs_47 rfl rfl ?_
    exact z_iret C0 rfl dX7_needs_48 ⟨(congrArg nI (by unfold pNeed nNeed; first | rfl | (rw [if_pos ⟨rfl, by omega⟩]) | (rw [if_neg (fun q => by omega)]; rfl))), rfl⟩ (by decide) (by decide)
  · skip
    refine z_iload_n 1 C0 1 dX7_needs_0 rfl rfl rfl ?_
    refine z_iconst 2 C0 (v := (nI 5)) dX7_needs_1 rfl rfl ?_
    refine z_icmp_eqN 5 23 C0 (by decide) (by decide) dX7_needs_2 rfl (by decide) (fun k2 => absurd k2 (by omega)) (fun k2 => ?_)
    refine z_iload_n 6 C0 1 dX7_needs_5 rfl rfl rfl ?_
    refine z_bipush 8 C0 (v := (nI 7)) dX7_needs_6 rfl rfl ?_
    refine z_icmp_ltN 11 17 C0 (by decide) (by decide) dX7_needs_8 rfl (by decide) (fun k8 => absurd k8 (by omega)) (fun k8 => ?_)
    refine z_iload_n 12 C0 1 dX7_needs_11 rfl rfl rfl ?_
    refine z_bipush 14 C0 (v := (nI 13)) dX7_needs_12 rfl rfl ?_
    refine z_icmp_leN 17 23 C0 (by decide) (by decide) dX7_needs_14 rfl (by decide) (fun k14 => ?_) (fun k14 => absurd k14 (by omega))
    refine z_iconst 24 C0 (v := (nI 2)) dX7_needs_23 rfl rfl ?_
    exact z_iret C0 rfl dX7_needs_24 ⟨(congrArg nI (by unfold pNeed nNeed; first | rfl | (rw [if_pos ⟨rfl, by omega⟩]) | (rw [if_neg (fun q => by omega)]; rfl))), rfl⟩ (by decide) (by decide)
  · skip
    refine z_iload_n 1 C0 1 dX7_needs_0 rfl rfl rfl ?_
    refine z_iconst 2 C0 (v := (nI 5)) dX7_needs_1 rfl rfl ?_
    refine z_icmp_eqN 5 23 C0 (by decide) (by decide) dX7_needs_2 rfl (by decide) (fun k2 => absurd k2 (by omega)) (fun k2 => ?_)
    refine z_iload_n 6 C0 1 dX7_needs_5 rfl rfl rfl ?_
    refine z_bipush 8 C0 (v := (nI 7)) dX7_needs_6 rfl rfl ?_
    refine z_icmp_ltN 11 17 C0 (by decide) (by decide) dX7_needs_8 rfl (by decide) (fun k8 => absurd k8 (by omega)) (fun k8 => ?_)
    refine z_iload_n 12 C0 1 dX7_needs_11 rfl rfl rfl ?_
    refine z_bipush 14 C0 (v := (nI 13)) dX7_needs_12 rfl rfl ?_
    refine z_icmp_leN 17 23 C0 (by decide) (by decide) dX7_needs_14 rfl (by decide) (fun k14 => ?_) (fun k14 => absurd k14 (by omega))
    refine z_iconst 24 C0 (v := (nI 2)) dX7_needs_23 rfl rfl ?_
    exact z_iret C0 rfl dX7_needs_24 ⟨(congrArg nI (by unfold pNeed nNeed; first | rfl | (rw [if_pos ⟨rfl, by omega⟩]) | (rw [if_neg (fun q => by omega)]; rfl))), rfl⟩ (by decide) (by decide)
  · skip
    refine z_iload_n 1 C0 1 dX7_needs_0 rfl rfl rfl ?_
    refine z_iconst 2 C0 (v := (nI 5)) dX7_needs_1 rfl rfl ?_
    refine z_icmp_eqN 5 23 C0 (by decide) (by decide) dX7_needs_2 rfl (by decide) (fun k2 => absurd k2 (by omega)) (fun k2 => ?_)
    refine z_iload_n 6 C0 1 dX7_needs_5 rfl rfl rfl ?_
    refine z_bipush 8 C0 (v := (nI 7)) dX7_needs_6 rfl rfl ?_
    refine z_icmp_ltN 11 17 C0 (by decide) (by decide) dX7_needs_8 rfl (by decide) (fun k8 => absurd k8 (by omega)) (fun k8 => ?_)
    refine z_iload_n 12 C0 1 dX7_needs_11 rfl rfl rfl ?_
    refine z_bipush 14 C0 (v := (nI 13)) dX7_needs_12 rfl rfl ?_
    refine z_icmp_leN 17 23 C0 (by decide) (by decide) dX7_needs_14 rfl (by decide) (fun k14 => ?_) (fun k14 => absurd k14 (by omega))
    refine z_iconst 24 C0 (v := (nI 2)) dX7_needs_23 rfl rfl ?_
    exact z_iret C0 rfl dX7_needs_24 ⟨(congrArg nI (by unfold pNeed nNeed; first | rfl | (rw [if_pos ⟨rfl, by omega⟩]) | (rw [if_neg (fun q => by omega)]; rfl))), rfl⟩ (by decide) (by decide)
  · skip
    refine z_iload_n 1 C0 1 dX7_needs_0 rfl rfl rfl ?_
    refine z_iconst 2 C0 (v := (nI 5)) dX7_needs_1 rfl rfl ?_
    refine z_icmp_eqN 5 23 C0 (by decide) (by decide) dX7_needs_2 rfl (by decide) (fun k2 => absurd k2 (by omega)) (fun k2 => ?_)
    refine z_iload_n 6 C0 1 dX7_needs_5 rfl rfl rfl ?_
    refine z_bipush 8 C0 (v := (nI 7)) dX7_needs_6 rfl rfl ?_
    refine z_icmp_ltN 11 17 C0 (by decide) (by decide) dX7_needs_8 rfl (by decide) (fun k8 => absurd k8 (by omega)) (fun k8 => ?_)
    refine z_iload_n 12 C0 1 dX7_needs_11 rfl rfl rfl ?_
    refine z_bipush 14 C0 (v := (nI 13)) dX7_needs_12 rfl rfl ?_
    refine z_icmp_leN 17 23 C0 (by decide) (by decide) dX7_needs_14 rfl (by decide) (fun k14 => ?_) (fun k14 => absurd k14 (by omega))
    refine z_iconst 24 C0 (v := (nI 2)) dX7_needs_23 rfl rfl ?_
    exact z_iret C0 rfl dX7_needs_24 ⟨(congrArg nI (by unfold pNeed nNeed; first | rfl | (rw [if_pos ⟨rfl, by omega⟩]) | (rw [if_neg (fun q => by omega)]; rfl))), rfl⟩ (by decide) (by decide)
  · skip
    refine z_iload_n 1 C0 1 dX7_needs_0 rfl rfl rfl ?_
    refine z_iconst 2 C0 (v := (nI 5)) dX7_needs_1 rfl rfl ?_
    refine z_icmp_eqN 5 23 C0 (by decide) (by decide) dX7_needs_2 rfl (by decide) (fun k2 => absurd k2 (by omega)) (fun k2 => ?_)
    refine z_iload_n 6 C0 1 dX7_needs_5 rfl rfl rfl ?_
    refine z_bipush 8 C0 (v := (nI 7)) dX7_needs_6 rfl rfl ?_
    refine z_icmp_ltN 11 17 C0 (by decide) (by decide) dX7_needs_8 rfl (by decide) (fun k8 => absurd k8 (by omega)) (fun k8 => ?_)
    refine z_iload_n 12 C0 1 dX7_needs_11 rfl rfl rfl ?_
    refine z_bipush 14 C0 (v := (nI 13)) dX7_needs_12 rfl rfl ?_
    refine z_icmp_leN 17 23 C0 (by decide) (by decide) dX7_needs_14 rfl (by decide) (fun k14 => ?_) (fun k14 => absurd k14 (by omega))
    refine z_iconst 24 C0 (v := (nI 2)) dX7_needs_23 rfl rfl ?_
    exact z_iret C0 rfl dX7_needs_24 ⟨(congrArg nI (by unfold pNeed nNeed; first | rfl | (rw [if_pos ⟨rfl, by omega⟩]) | (rw [if_neg (fun q => by omega)]; rfl))), rfl⟩ (by decide) (by decide)
  · skip
    refine z_iload_n 1 C0 1 dX7_needs_0 rfl rfl rfl ?_
    refine z_iconst 2 C0 (v := (nI 5)) dX7_needs_1 rfl rfl ?_
    refine z_icmp_eqN 5 23 C0 (by decide) (by decide) dX7_needs_2 rfl (by decide) (fun k2 => absurd k2 (by omega)) (fun k2 => ?_)
    refine z_iload_n 6 C0 1 dX7_needs_5 rfl rfl rfl ?_
    refine z_bipush 8 C0 (v := (nI 7)) dX7_needs_6 rfl rfl ?_
    refine z_icmp_ltN 11 17 C0 (by decide) (by decide) dX7_needs_8 rfl (by decide) (fun k8 => absurd k8 (by omega)) (fun k8 => ?_)
    refine z_iload_n 12 C0 1 dX7_needs_11 rfl rfl rfl ?_
    refine z_bipush 14 C0 (v := (nI 13)) dX7_needs_12 rfl rfl ?_
    refine z_icmp_leN 17 23 C0 (by decide) (by decide) dX7_needs_14 rfl (by decide) (fun k14 => ?_) (fun k14 => absurd k14 (by omega))
    refine z_iconst 24 C0 (v := (nI 2)) dX7_needs_23 rfl rfl ?_
    exact z_iret C0 rfl dX7_needs_24 ⟨(congrArg nI (by unfold pNeed nNeed; first | rfl | (rw [if_pos ⟨rfl, by omega⟩]) | (rw [if_neg (fun q => by omega)]; rfl))), rfl⟩ (by decide) (by decide)
  · skip
    refine z_iload_n 1 C0 1 dX7_needs_0 rfl rfl rfl ?_
    refine z_iconst 2 C0 (v := (nI 5)) dX7_needs_1 rfl rfl ?_
    refine z_icmp_eqN 5 23 C0 (by decide) (by decide) dX7_needs_2 rfl (by decide) (fun k2 => absurd k2 (by omega)) (fun k2 => ?_)
    refine z_iload_n 6 C0 1 dX7_needs_5 rfl rfl rfl ?_
    refine z_bipush 8 C0 (v := (nI 7)) dX7_needs_6 rfl rfl ?_
    refine z_icmp_ltN 11 17 C0 (by decide) (by decide) dX7_needs_8 rfl (by decide) (fun k8 => absurd k8 (by omega)) (fun k8 => ?_)
    refine z_iload_n 12 C0 1 dX7_needs_11 rfl rfl rfl ?_
    refine z_bipush 14 C0 (v := (nI 13)) dX7_needs_12 rfl rfl ?_
    refine z_icmp_leN 17 23 C0 (by decide) (by decide) dX7_needs_14 rfl (by decide) (fun k14 => ?_) (fun k14 => absurd k14 (by omega))
    refine z_iconst 24 C0 (v := (nI 2)) dX7_needs_23 rfl rfl ?_
    exact z_iret C0 rfl dX7_needs_24 ⟨(congrArg nI (by unfold pNeed nNeed; first | rfl | (rw [if_pos ⟨rfl, by omega⟩]) | (rw [if_neg (fun q => by omega)]; rfl))), rfl⟩ (by decide) (by decide)
  · skip
    refine z_iload_n 1 C0 1 dX7_needs_0 rfl rfl rfl ?_
    refine z_iconst 2 C0 (v := (nI 5)) dX7_needs_1 rfl rfl ?_
    refine z_icmp_eqN 5 23 C0 (by decide) (by decide) dX7_needs_2 rfl (by decide) (fun k2 => absurd k2 (by omega)) (fun k2 => ?_)
    refine z_iload_n 6 C0 1 dX7_needs_5 rfl rfl rfl ?_
    refine z_bipush 8 C0 (v := (nI 7)) dX7_needs_6 rfl rfl ?_
    refine z_icmp_ltN 11 17 C0 (by decide) (by decide) dX7_needs_8 rfl (by decide) (fun k8 => absurd k8 (by omega)) (fun k8 => ?_)
    refine z_iload_n 12 C0 1 dX7_needs_11 rfl rfl rfl ?_
    refine z_bipush 14 C0 (v := (nI 13)) dX7_needs_12 rfl rfl ?_
    refine z_icmp_leN 17 23 C0 (by decide) (by decide) dX7_needs_14 rfl (by decide) (fun k14 => absurd k14 (by omega)) (fun k14 => ?_)
    refine z_iload_n 18 C0 1 dX7_needs_17 rfl rfl rfl ?_
    refine z_bipush 20 C0 (v := (nI 16)) dX7_needs_18 rfl rfl ?_
    refine z_icmp_neN 23 25 C0 (by decide) (by decide) dX7_needs_20 rfl (by decide) (fun k20 => ?_) (fun k20 => absurd k20 (by omega))
    refine z_iload_n 26 C0 1 dX7_needs_25 rfl rfl rfl ?_
    refine z_iconst 27 C0 (v := (nI 3)) dX7_needs_26 rfl rfl ?_
    refine z_icmp_eqN 30 47 C0 (by decide) (by decide) dX7_needs_27 rfl (by decide) (fun k27 => absurd k27 (by omega)) (fun k27 => ?_)
    refine z_iload_n 31 C0 1 dX7_needs_30 rfl rfl rfl ?_
    refine z_iconst 32 C0 (v := (nI 4)) dX7_needs_31 rfl rfl ?_
    refine z_icmp_eqN 35 47 C0 (by decide) (by decide) dX7_needs_32 rfl (by decide) (fun k32 => absurd k32 (by omega)) (fun k32 => ?_)
    refine z_iload_n 36 C0 1 dX7_needs_35 rfl rfl rfl ?_
    refine z_bipush 38 C0 (v := (nI 6)) dX7_needs_36 rfl rfl ?_
    refine z_icmp_eqN 41 47 C0 (by decide) (by decide) dX7_needs_38 rfl (by decide) (fun k38 => absurd k38 (by omega)) (fun k38 => ?_)
    refine z_iload_n 42 C0 1 dX7_needs_41 rfl rfl rfl ?_
    refine z_bipush 44 C0 (v := (nI 15)) dX7_needs_42 rfl rfl ?_
    refine z_icmp_neN 47 49 C0 (by decide) (by decide) dX7_needs_44 rfl (by decide) (fun k44 => ?_) (fun k44 => absurd k44 (by omega))
    refine z_iload_n 50 C0 1 dX7_needs_49 rfl rfl rfl ?_
    refine z_bipush 52 C0 (v := (nI 17)) dX7_needs_50 rfl rfl ?_
    refine z_icmp_neN 55 63 C0 (by decide) (by decide) dX7_needs_52 rfl (by decide) (fun k52 => ?_) (fun k52 => absurd k52 (by omega))
    refine z_iconst 64 C0 (v := (nI 0)) dX7_needs_63 rfl rfl ?_
    exact z_iret C0 rfl dX7_needs_64 ⟨(congrArg nI (by unfold pNeed nNeed; first | rfl | (rw [if_pos ⟨rfl, by omega⟩]) | (rw [if_neg (fun q => by omega)]; rfl))), rfl⟩ (by decide) (by decide)
  · skip
    refine z_iload_n 1 C0 1 dX7_needs_0 rfl rfl rfl ?_
    refine z_iconst 2 C0 (v := (nI 5)) dX7_needs_1 rfl rfl ?_
    refine z_icmp_eqN 5 23 C0 (by decide) (by decide) dX7_needs_2 rfl (by decide) (fun k2 => absurd k2 (by omega)) (fun k2 => ?_)
    refine z_iload_n 6 C0 1 dX7_needs_5 rfl rfl rfl ?_
    refine z_bipush 8 C0 (v := (nI 7)) dX7_needs_6 rfl rfl ?_
    refine z_icmp_ltN 11 17 C0 (by decide) (by decide) dX7_needs_8 rfl (by decide) (fun k8 => absurd k8 (by omega)) (fun k8 => ?_)
    refine z_iload_n 12 C0 1 dX7_needs_11 rfl rfl rfl ?_
    refine z_bipush 14 C0 (v := (nI 13)) dX7_needs_12 rfl rfl ?_
    refine z_icmp_leN 17 23 C0 (by decide) (by decide) dX7_needs_14 rfl (by decide) (fun k14 => absurd k14 (by omega)) (fun k14 => ?_)
    refine z_iload_n 18 C0 1 dX7_needs_17 rfl rfl rfl ?_
    refine z_bipush 20 C0 (v := (nI 16)) dX7_needs_18 rfl rfl ?_
    refine z_icmp_neN 23 25 C0 (by decide) (by decide) dX7_needs_20 rfl (by decide) (fun k20 => ?_) (fun k20 => absurd k20 (by omega))
    refine z_iload_n 26 C0 1 dX7_needs_25 rfl rfl rfl ?_
    refine z_iconst 27 C0 (v := (nI 3)) dX7_needs_26 rfl rfl ?_
    refine z_icmp_eqN 30 47 C0 (by decide) (by decide) dX7_needs_27 rfl (by decide) (fun k27 => absurd k27 (by omega)) (fun k27 => ?_)
    refine z_iload_n 31 C0 1 dX7_needs_30 rfl rfl rfl ?_
    refine z_iconst 32 C0 (v := (nI 4)) dX7_needs_31 rfl rfl ?_
    refine z_icmp_eqN 35 47 C0 (by decide) (by decide) dX7_needs_32 rfl (by decide) (fun k32 => absurd k32 (by omega)) (fun k32 => ?_)
    refine z_iload_n 36 C0 1 dX7_needs_35 rfl rfl rfl ?_
    refine z_bipush 38 C0 (v := (nI 6)) dX7_needs_36 rfl rfl ?_
    refine z_icmp_eqN 41 47 C0 (by decide) (by decide) dX7_needs_38 rfl (by decide) (fun k38 => absurd k38 (by omega)) (fun k38 => ?_)
    refine z_iload_n 42 C0 1 dX7_needs_41 rfl rfl rfl ?_
    refine z_bipush 44 C0 (v := (nI 15)) dX7_needs_42 rfl rfl ?_
    refine z_icmp_neN 47 49 C0 (by decide) (by decide) dX7_needs_44 rfl (by decide) (fun k44 => absurd k44 (by omega)) (fun k44 => ?_)
    refine z_iconst 48 C0 (v := (nI 1)) dX7_needs_47 rfl rfl ?_
    exact z_iret C0 rfl dX7_needs_48 ⟨(congrArg nI (by unfold pNeed nNeed; first | rfl | (rw [if_pos ⟨rfl, by omega⟩]) | (rw [if_neg (fun q => by omega)]; rfl))), rfl⟩ (by decide) (by decide)
  · skip
    refine z_iload_n 1 C0 1 dX7_needs_0 rfl rfl rfl ?_
    refine z_iconst 2 C0 (v := (nI 5)) dX7_needs_1 rfl rfl ?_
    refine z_icmp_eqN 5 23 C0 (by decide) (by decide) dX7_needs_2 rfl (by decide) (fun k2 => absurd k2 (by omega)) (fun k2 => ?_)
    refine z_iload_n 6 C0 1 dX7_needs_5 rfl rfl rfl ?_
    refine z_bipush 8 C0 (v := (nI 7)) dX7_needs_6 rfl rfl ?_
    refine z_icmp_ltN 11 17 C0 (by decide) (by decide) dX7_needs_8 rfl (by decide) (fun k8 => absurd k8 (by omega)) (fun k8 => ?_)
    refine z_iload_n 12 C0 1 dX7_needs_11 rfl rfl rfl ?_
    refine z_bipush 14 C0 (v := (nI 13)) dX7_needs_12 rfl rfl ?_
    refine z_icmp_leN 17 23 C0 (by decide) (by decide) dX7_needs_14 rfl (by decide) (fun k14 => absurd k14 (by omega)) (fun k14 => ?_)
    refine z_iload_n 18 C0 1 dX7_needs_17 rfl rfl rfl ?_
    refine z_bipush 20 C0 (v := (nI 16)) dX7_needs_18 rfl rfl ?_
    refine z_icmp_neN 23 25 C0 (by decide) (by decide) dX7_needs_20 rfl (by decide) (fun k20 => absurd k20 (by omega)) (fun k20 => ?_)
    refine z_iconst 24 C0 (v := (nI 2)) dX7_needs_23 rfl rfl ?_
    exact z_iret C0 rfl dX7_needs_24 ⟨(congrArg nI (by unfold pNeed nNeed; first | rfl | (rw [if_pos ⟨rfl, by omega⟩]) | (rw [if_neg (fun q => by omega)]; rfl))), rfl⟩ (by decide) (by decide)
  · skip
    refine z_iload_n 1 C0 1 dX7_needs_0 rfl rfl rfl ?_
    refine z_iconst 2 C0 (v := (nI 5)) dX7_needs_1 rfl rfl ?_
    refine z_icmp_eqN 5 23 C0 (by decide) (by decide) dX7_needs_2 rfl (by decide) (fun k2 => absurd k2 (by omega)) (fun k2 => ?_)
    refine z_iload_n 6 C0 1 dX7_needs_5 rfl rfl rfl ?_
    refine z_bipush 8 C0 (v := (nI 7)) dX7_needs_6 rfl rfl ?_
    refine z_icmp_ltN 11 17 C0 (by decide) (by decide) dX7_needs_8 rfl (by decide) (fun k8 => absurd k8 (by omega)) (fun k8 => ?_)
    refine z_iload_n 12 C0 1 dX7_needs_11 rfl rfl rfl ?_
    refine z_bipush 14 C0 (v := (nI 13)) dX7_needs_12 rfl rfl ?_
    refine z_icmp_leN 17 23 C0 (by decide) (by decide) dX7_needs_14 rfl (by decide) (fun k14 => absurd k14 (by omega)) (fun k14 => ?_)
    refine z_iload_n 18 C0 1 dX7_needs_17 rfl rfl rfl ?_
    refine z_bipush 20 C0 (v := (nI 16)) dX7_needs_18 rfl rfl ?_
    refine z_icmp_neN 23 25 C0 (by decide) (by decide) dX7_needs_20 rfl (by decide) (fun k20 => ?_) (fun k20 => absurd k20 (by omega))
    refine z_iload_n 26 C0 1 dX7_needs_25 rfl rfl rfl ?_
    refine z_iconst 27 C0 (v := (nI 3)) dX7_needs_26 rfl rfl ?_
    refine z_icmp_eqN 30 47 C0 (by decide) (by decide) dX7_needs_27 rfl (by decide) (fun k27 => absurd k27 (by omega)) (fun k27 => ?_)
    refine z_iload_n 31 C0 1 dX7_needs_30 rfl rfl rfl ?_
    refine z_iconst 32 C0 (v := (nI 4)) dX7_needs_31 rfl rfl ?_
    refine z_icmp_eqN 35 47 C0 (by decide) (by decide) dX7_needs_32 rfl (by decide) (fun k32 => absurd k32 (by omega)) (fun k32 => ?_)
    refine z_iload_n 36 C0 1 dX7_needs_35 rfl rfl rfl ?_
    refine z_bipush 38 C0 (v := (nI 6)) dX7_needs_36 rfl rfl ?_
    refine z_icmp_eqN 41 47 C0 (by decide) (by decide) dX7_needs_38 rfl (by decide) (fun k38 => absurd k38 (by omega)) (fun k38 => ?_)
    refine z_iload_n 42 C0 1 dX7_needs_41 rfl rfl rfl ?_
    refine z_bipush 44 C0 (v := (nI 15)) dX7_needs_42 rfl rfl ?_
    refine z_icmp_neN 47 49 C0 (by decide) (by decide) dX7_needs_44 rfl (by decide) (fun k44 => ?_) (fun k44 => absurd k44 (by omega))
    refine z_iload_n 50 C0 1 dX7_needs_49 rfl rfl rfl ?_
    refine z_bipush 52 C0 (v := (nI 17)) dX7_needs_50 rfl rfl ?_
    refine z_icmp_neN 55 63 C0 (by decide) (by decide) dX7_needs_52 rfl (by decide) (fun k52 => absurd k52 (by omega)) (fun k52 => ?_)
    refine z_iload_n 56 C0 0 dX7_needs_55 rfl rfl rfl ?_
    refine z_if_eqN 59 63 C0 (by omega) dX7_needs_56 rfl (by decide) (fun k56 => ?_) (fun k56 => ?_)
    · skip
      refine z_iconst 64 C0 (v := (nI 0)) dX7_needs_63 rfl rfl ?_
      exact z_iret C0 rfl dX7_needs_64 ⟨(congrArg nI (by unfold pNeed nNeed; first | rfl | (rw [if_pos ⟨rfl, by omega⟩]) | (rw [if_neg (fun q => by omega)]; rfl))), rfl⟩ (by decide) (by decide)
    · skip
      refine z_iconst 60 C0 (v := (nI 1)) dX7_needs_59 rfl rfl ?_
      refine z_goto 64 C0 dX7_needs_60 (by decide) ?_
      exact z_iret C0 rfl dX7_needs_64 ⟨(congrArg nI (by unfold pNeed nNeed; first | rfl | (rw [if_pos ⟨rfl, by omega⟩]) | (rw [if_neg (fun q => by omega)]; rfl))), rfl⟩ (by decide) (by decide)
  · skip
    refine z_iload_n 1 C0 1 dX7_needs_0 rfl rfl rfl ?_
    refine z_iconst 2 C0 (v := (nI 5)) dX7_needs_1 rfl rfl ?_
    refine z_icmp_eqN 5 23 C0 (by decide) (by decide) dX7_needs_2 rfl (by decide) (fun k2 => absurd k2 (by omega)) (fun k2 => ?_)
    refine z_iload_n 6 C0 1 dX7_needs_5 rfl rfl rfl ?_
    refine z_bipush 8 C0 (v := (nI 7)) dX7_needs_6 rfl rfl ?_
    refine z_icmp_ltN 11 17 C0 (by decide) (by decide) dX7_needs_8 rfl (by decide) (fun k8 => absurd k8 (by omega)) (fun k8 => ?_)
    refine z_iload_n 12 C0 1 dX7_needs_11 rfl rfl rfl ?_
    refine z_bipush 14 C0 (v := (nI 13)) dX7_needs_12 rfl rfl ?_
    refine z_icmp_leN 17 23 C0 (by decide) (by decide) dX7_needs_14 rfl (by decide) (fun k14 => absurd k14 (by omega)) (fun k14 => ?_)
    refine z_iload_n 18 C0 1 dX7_needs_17 rfl rfl rfl ?_
    refine z_bipush 20 C0 (v := (nI 16)) dX7_needs_18 rfl rfl ?_
    refine z_icmp_neN 23 25 C0 (by decide) (by decide) dX7_needs_20 rfl (by decide) (fun k20 => ?_) (fun k20 => absurd k20 (by omega))
    refine z_iload_n 26 C0 1 dX7_needs_25 rfl rfl rfl ?_
    refine z_iconst 27 C0 (v := (nI 3)) dX7_needs_26 rfl rfl ?_
    refine z_icmp_eqN 30 47 C0 (by decide) (by decide) dX7_needs_27 rfl (by decide) (fun k27 => absurd k27 (by omega)) (fun k27 => ?_)
    refine z_iload_n 31 C0 1 dX7_needs_30 rfl rfl rfl ?_
    refine z_iconst 32 C0 (v := (nI 4)) dX7_needs_31 rfl rfl ?_
    refine z_icmp_eqN 35 47 C0 (by decide) (by decide) dX7_needs_32 rfl (by decide) (fun k32 => absurd k32 (by omega)) (fun k32 => ?_)
    refine z_iload_n 36 C0 1 dX7_needs_35 rfl rfl rfl ?_
    refine z_bipush 38 C0 (v := (nI 6)) dX7_needs_36 rfl rfl ?_
    refine z_icmp_eqN 41 47 C0 (by decide) (by decide) dX7_needs_38 rfl (by decide) (fun k38 => absurd k38 (by omega)) (fun k38 => ?_)
    refine z_iload_n 42 C0 1 dX7_needs_41 rfl rfl rfl ?_
    refine z_bipush 44 C0 (v := (nI 15)) dX7_needs_42 rfl rfl ?_
    refine z_icmp_neN 47 49 C0 (by decide) (by decide) dX7_needs_44 rfl (by decide) (fun k44 => ?_) (fun k44 => absurd k44 (by omega))
    refine z_iload_n 50 C0 1 dX7_needs_49 rfl rfl rfl ?_
    refine z_bipush 52 C0 (v := (nI 17)) dX7_needs_50 rfl rfl ?_
    refine z_icmp_neN 55 63 C0 (by decide) (by decide) dX7_needs_52 rfl (by decide) (fun k52 => ?_) (fun k52 => absurd k52 (by omega))
    refine z_iconst 64 C0 (v := (nI 0)) dX7_needs_63 rfl rfl ?_
    exact z_iret C0 rfl dX7_needs_64 ⟨(congrArg nI (by unfold pNeed nNeed; first | rfl | (rw [if_pos ⟨rfl, by omega⟩]) | (rw [if_neg (fun q => by omega)]; rfl))), rfl⟩ (by decide) (by decide)

set_option maxHeartbeats 4000000 in
set_option maxRecDepth 100000 in
theorem grows (l_ : Launch) (E : zE) (o : Nat) (ho : o ≤ 18) : zMi l_ E yX7_grows (zTs yX7_grows cX7_grows 1 (some .int)) ({ frames := 0, cells := 0, slots := 0, locals := 0 } : Room) [.int (nI o)] [] (fun r_ w_ => (r_ = (zGrow o) ∧ w_ = [])) 0 0 := by
  refine zMi.of (cc := cX7_grows) (nL := 1) (ret := (some .int)) (by decide) rfl (Nat.le_of_ble_eq_true rfl) ?_
  intro p_ e_ s_ m_ args_ below_ meth_ c_ A_ C0 hin0
  have C0 : zC E p_ s_ m_ args_ meth_ c_ cX7_grows 1 (some .int) RX7 (zTs yX7_grows cX7_grows 1 (some .int)) A_ := C0
  refine z_eqL (L1 := [(0, .int (nI o))]) rfl ?_
  rcases le18 ho with rfl | rfl | rfl | rfl | rfl | rfl | rfl | rfl | rfl | rfl | rfl | rfl | rfl | rfl | rfl | rfl | rfl | rfl | rfl
  · skip
    refine z_iload_n 1 C0 0 dX7_grows_0 rfl rfl rfl ?_
    refine z_iconst 2 C0 (v := (nI 2)) dX7_grows_1 rfl rfl ?_
    refine z_icmp_leN 5 10 C0 (by decide) (by decide) dX7_grows_2 rfl (by decide) (fun k2 => ?_) (fun k2 => absurd k2 (by omega))
    refine z_iconst 11 C0 (v := (nI 1)) dX7_grows_10 rfl rfl ?_
    exact z_iret C0 rfl dX7_grows_11 ⟨(by decide), rfl⟩ (by decide) (by decide)
  · skip
    refine z_iload_n 1 C0 0 dX7_grows_0 rfl rfl rfl ?_
    refine z_iconst 2 C0 (v := (nI 2)) dX7_grows_1 rfl rfl ?_
    refine z_icmp_leN 5 10 C0 (by decide) (by decide) dX7_grows_2 rfl (by decide) (fun k2 => ?_) (fun k2 => absurd k2 (by omega))
    refine z_iconst 11 C0 (v := (nI 1)) dX7_grows_10 rfl rfl ?_
    exact z_iret C0 rfl dX7_grows_11 ⟨(by decide), rfl⟩ (by decide) (by decide)
  · skip
    refine z_iload_n 1 C0 0 dX7_grows_0 rfl rfl rfl ?_
    refine z_iconst 2 C0 (v := (nI 2)) dX7_grows_1 rfl rfl ?_
    refine z_icmp_leN 5 10 C0 (by decide) (by decide) dX7_grows_2 rfl (by decide) (fun k2 => ?_) (fun k2 => absurd k2 (by omega))
    refine z_iconst 11 C0 (v := (nI 1)) dX7_grows_10 rfl rfl ?_
    exact z_iret C0 rfl dX7_grows_11 ⟨(by decide), rfl⟩ (by decide) (by decide)
  · skip
    refine z_iload_n 1 C0 0 dX7_grows_0 rfl rfl rfl ?_
    refine z_iconst 2 C0 (v := (nI 2)) dX7_grows_1 rfl rfl ?_
    refine z_icmp_leN 5 10 C0 (by decide) (by decide) dX7_grows_2 rfl (by decide) (fun k2 => absurd k2 (by omega)) (fun k2 => ?_)
    refine z_iload_n 6 C0 0 dX7_grows_5 rfl rfl rfl ?_
    refine z_iconst 7 C0 (v := (nI 4)) dX7_grows_6 rfl rfl ?_
    refine z_icmp_neN 10 12 C0 (by decide) (by decide) dX7_grows_7 rfl (by decide) (fun k7 => ?_) (fun k7 => absurd k7 (by omega))
    refine z_iload_n 13 C0 0 dX7_grows_12 rfl rfl rfl ?_
    refine z_iconst 14 C0 (v := (nI 3)) dX7_grows_13 rfl rfl ?_
    refine z_icmp_eqN 17 41 C0 (by decide) (by decide) dX7_grows_14 rfl (by decide) (fun k14 => ?_) (fun k14 => absurd k14 (by omega))
    refine z_iconst 42 C0 (v := (-1)) dX7_grows_41 rfl (by decide) ?_
    exact z_iret C0 rfl dX7_grows_42 ⟨(by decide), rfl⟩ (by decide) (by decide)
  · skip
    refine z_iload_n 1 C0 0 dX7_grows_0 rfl rfl rfl ?_
    refine z_iconst 2 C0 (v := (nI 2)) dX7_grows_1 rfl rfl ?_
    refine z_icmp_leN 5 10 C0 (by decide) (by decide) dX7_grows_2 rfl (by decide) (fun k2 => absurd k2 (by omega)) (fun k2 => ?_)
    refine z_iload_n 6 C0 0 dX7_grows_5 rfl rfl rfl ?_
    refine z_iconst 7 C0 (v := (nI 4)) dX7_grows_6 rfl rfl ?_
    refine z_icmp_neN 10 12 C0 (by decide) (by decide) dX7_grows_7 rfl (by decide) (fun k7 => absurd k7 (by omega)) (fun k7 => ?_)
    refine z_iconst 11 C0 (v := (nI 1)) dX7_grows_10 rfl rfl ?_
    exact z_iret C0 rfl dX7_grows_11 ⟨(by decide), rfl⟩ (by decide) (by decide)
  · skip
    refine z_iload_n 1 C0 0 dX7_grows_0 rfl rfl rfl ?_
    refine z_iconst 2 C0 (v := (nI 2)) dX7_grows_1 rfl rfl ?_
    refine z_icmp_leN 5 10 C0 (by decide) (by decide) dX7_grows_2 rfl (by decide) (fun k2 => absurd k2 (by omega)) (fun k2 => ?_)
    refine z_iload_n 6 C0 0 dX7_grows_5 rfl rfl rfl ?_
    refine z_iconst 7 C0 (v := (nI 4)) dX7_grows_6 rfl rfl ?_
    refine z_icmp_neN 10 12 C0 (by decide) (by decide) dX7_grows_7 rfl (by decide) (fun k7 => ?_) (fun k7 => absurd k7 (by omega))
    refine z_iload_n 13 C0 0 dX7_grows_12 rfl rfl rfl ?_
    refine z_iconst 14 C0 (v := (nI 3)) dX7_grows_13 rfl rfl ?_
    refine z_icmp_eqN 17 41 C0 (by decide) (by decide) dX7_grows_14 rfl (by decide) (fun k14 => absurd k14 (by omega)) (fun k14 => ?_)
    refine z_iload_n 18 C0 0 dX7_grows_17 rfl rfl rfl ?_
    refine z_bipush 20 C0 (v := (nI 6)) dX7_grows_18 rfl rfl ?_
    refine z_icmp_eqN 23 41 C0 (by decide) (by decide) dX7_grows_20 rfl (by decide) (fun k20 => absurd k20 (by omega)) (fun k20 => ?_)
    refine z_iload_n 24 C0 0 dX7_grows_23 rfl rfl rfl ?_
    refine z_bipush 26 C0 (v := (nI 7)) dX7_grows_24 rfl rfl ?_
    refine z_icmp_ltN 29 35 C0 (by decide) (by decide) dX7_grows_26 rfl (by decide) (fun k26 => ?_) (fun k26 => absurd k26 (by omega))
    refine z_iload_n 36 C0 0 dX7_grows_35 rfl rfl rfl ?_
    refine z_bipush 38 C0 (v := (nI 15)) dX7_grows_36 rfl rfl ?_
    refine z_icmp_neN 41 43 C0 (by decide) (by decide) dX7_grows_38 rfl (by decide) (fun k38 => ?_) (fun k38 => absurd k38 (by omega))
    refine z_iload_n 44 C0 0 dX7_grows_43 rfl rfl rfl ?_
    refine z_bipush 46 C0 (v := (nI 16)) dX7_grows_44 rfl rfl ?_
    refine z_icmp_neN 49 54 C0 (by decide) (by decide) dX7_grows_46 rfl (by decide) (fun k46 => ?_) (fun k46 => absurd k46 (by omega))
    refine z_iconst 55 C0 (v := (nI 0)) dX7_grows_54 rfl rfl ?_
    exact z_iret C0 rfl dX7_grows_55 ⟨(by decide), rfl⟩ (by decide) (by decide)
  · skip
    refine z_iload_n 1 C0 0 dX7_grows_0 rfl rfl rfl ?_
    refine z_iconst 2 C0 (v := (nI 2)) dX7_grows_1 rfl rfl ?_
    refine z_icmp_leN 5 10 C0 (by decide) (by decide) dX7_grows_2 rfl (by decide) (fun k2 => absurd k2 (by omega)) (fun k2 => ?_)
    refine z_iload_n 6 C0 0 dX7_grows_5 rfl rfl rfl ?_
    refine z_iconst 7 C0 (v := (nI 4)) dX7_grows_6 rfl rfl ?_
    refine z_icmp_neN 10 12 C0 (by decide) (by decide) dX7_grows_7 rfl (by decide) (fun k7 => ?_) (fun k7 => absurd k7 (by omega))
    refine z_iload_n 13 C0 0 dX7_grows_12 rfl rfl rfl ?_
    refine z_iconst 14 C0 (v := (nI 3)) dX7_grows_13 rfl rfl ?_
    refine z_icmp_eqN 17 41 C0 (by decide) (by decide) dX7_grows_14 rfl (by decide) (fun k14 => absurd k14 (by omega)) (fun k14 => ?_)
    refine z_iload_n 18 C0 0 dX7_grows_17 rfl rfl rfl ?_
    refine z_bipush 20 C0 (v := (nI 6)) dX7_grows_18 rfl rfl ?_
    refine z_icmp_eqN 23 41 C0 (by decide) (by decide) dX7_grows_20 rfl (by decide) (fun k20 => ?_) (fun k20 => absurd k20 (by omega))
    refine z_iconst 42 C0 (v := (-1)) dX7_grows_41 rfl (by decide) ?_
    exact z_iret C0 rfl dX7_grows_42 ⟨(by decide), rfl⟩ (by decide) (by decide)
  · skip
    refine z_iload_n 1 C0 0 dX7_grows_0 rfl rfl rfl ?_
    refine z_iconst 2 C0 (v := (nI 2)) dX7_grows_1 rfl rfl ?_
    refine z_icmp_leN 5 10 C0 (by decide) (by decide) dX7_grows_2 rfl (by decide) (fun k2 => absurd k2 (by omega)) (fun k2 => ?_)
    refine z_iload_n 6 C0 0 dX7_grows_5 rfl rfl rfl ?_
    refine z_iconst 7 C0 (v := (nI 4)) dX7_grows_6 rfl rfl ?_
    refine z_icmp_neN 10 12 C0 (by decide) (by decide) dX7_grows_7 rfl (by decide) (fun k7 => ?_) (fun k7 => absurd k7 (by omega))
    refine z_iload_n 13 C0 0 dX7_grows_12 rfl rfl rfl ?_
    refine z_iconst 14 C0 (v := (nI 3)) dX7_grows_13 rfl rfl ?_
    refine z_icmp_eqN 17 41 C0 (by decide) (by decide) dX7_grows_14 rfl (by decide) (fun k14 => absurd k14 (by omega)) (fun k14 => ?_)
    refine z_iload_n 18 C0 0 dX7_grows_17 rfl rfl rfl ?_
    refine z_bipush 20 C0 (v := (nI 6)) dX7_grows_18 rfl rfl ?_
    refine z_icmp_eqN 23 41 C0 (by decide) (by decide) dX7_grows_20 rfl (by decide) (fun k20 => absurd k20 (by omega)) (fun k20 => ?_)
    refine z_iload_n 24 C0 0 dX7_grows_23 rfl rfl rfl ?_
    refine z_bipush 26 C0 (v := (nI 7)) dX7_grows_24 rfl rfl ?_
    refine z_icmp_ltN 29 35 C0 (by decide) (by decide) dX7_grows_26 rfl (by decide) (fun k26 => absurd k26 (by omega)) (fun k26 => ?_)
    refine z_iload_n 30 C0 0 dX7_grows_29 rfl rfl rfl ?_
    refine z_bipush 32 C0 (v := (nI 13)) dX7_grows_30 rfl rfl ?_
    refine z_icmp_leN 35 41 C0 (by decide) (by decide) dX7_grows_32 rfl (by decide) (fun k32 => ?_) (fun k32 => absurd k32 (by omega))
    refine z_iconst 42 C0 (v := (-1)) dX7_grows_41 rfl (by decide) ?_
    exact z_iret C0 rfl dX7_grows_42 ⟨(by decide), rfl⟩ (by decide) (by decide)
  · skip
    refine z_iload_n 1 C0 0 dX7_grows_0 rfl rfl rfl ?_
    refine z_iconst 2 C0 (v := (nI 2)) dX7_grows_1 rfl rfl ?_
    refine z_icmp_leN 5 10 C0 (by decide) (by decide) dX7_grows_2 rfl (by decide) (fun k2 => absurd k2 (by omega)) (fun k2 => ?_)
    refine z_iload_n 6 C0 0 dX7_grows_5 rfl rfl rfl ?_
    refine z_iconst 7 C0 (v := (nI 4)) dX7_grows_6 rfl rfl ?_
    refine z_icmp_neN 10 12 C0 (by decide) (by decide) dX7_grows_7 rfl (by decide) (fun k7 => ?_) (fun k7 => absurd k7 (by omega))
    refine z_iload_n 13 C0 0 dX7_grows_12 rfl rfl rfl ?_
    refine z_iconst 14 C0 (v := (nI 3)) dX7_grows_13 rfl rfl ?_
    refine z_icmp_eqN 17 41 C0 (by decide) (by decide) dX7_grows_14 rfl (by decide) (fun k14 => absurd k14 (by omega)) (fun k14 => ?_)
    refine z_iload_n 18 C0 0 dX7_grows_17 rfl rfl rfl ?_
    refine z_bipush 20 C0 (v := (nI 6)) dX7_grows_18 rfl rfl ?_
    refine z_icmp_eqN 23 41 C0 (by decide) (by decide) dX7_grows_20 rfl (by decide) (fun k20 => absurd k20 (by omega)) (fun k20 => ?_)
    refine z_iload_n 24 C0 0 dX7_grows_23 rfl rfl rfl ?_
    refine z_bipush 26 C0 (v := (nI 7)) dX7_grows_24 rfl rfl ?_
    refine z_icmp_ltN 29 35 C0 (by decide) (by decide) dX7_grows_26 rfl (by decide) (fun k26 => absurd k26 (by omega)) (fun k26 => ?_)
    refine z_iload_n 30 C0 0 dX7_grows_29 rfl rfl rfl ?_
    refine z_bipush 32 C0 (v := (nI 13)) dX7_grows_30 rfl rfl ?_
    refine z_icmp_leN 35 41 C0 (by decide) (by decide) dX7_grows_32 rfl (by decide) (fun k32 => ?_) (fun k32 => absurd k32 (by omega))
    refine z_iconst 42 C0 (v := (-1)) dX7_grows_41 rfl (by decide) ?_
    exact z_iret C0 rfl dX7_grows_42 ⟨(by decide), rfl⟩ (by decide) (by decide)
  · skip
    refine z_iload_n 1 C0 0 dX7_grows_0 rfl rfl rfl ?_
    refine z_iconst 2 C0 (v := (nI 2)) dX7_grows_1 rfl rfl ?_
    refine z_icmp_leN 5 10 C0 (by decide) (by decide) dX7_grows_2 rfl (by decide) (fun k2 => absurd k2 (by omega)) (fun k2 => ?_)
    refine z_iload_n 6 C0 0 dX7_grows_5 rfl rfl rfl ?_
    refine z_iconst 7 C0 (v := (nI 4)) dX7_grows_6 rfl rfl ?_
    refine z_icmp_neN 10 12 C0 (by decide) (by decide) dX7_grows_7 rfl (by decide) (fun k7 => ?_) (fun k7 => absurd k7 (by omega))
    refine z_iload_n 13 C0 0 dX7_grows_12 rfl rfl rfl ?_
    refine z_iconst 14 C0 (v := (nI 3)) dX7_grows_13 rfl rfl ?_
    refine z_icmp_eqN 17 41 C0 (by decide) (by decide) dX7_grows_14 rfl (by decide) (fun k14 => absurd k14 (by omega)) (fun k14 => ?_)
    refine z_iload_n 18 C0 0 dX7_grows_17 rfl rfl rfl ?_
    refine z_bipush 20 C0 (v := (nI 6)) dX7_grows_18 rfl rfl ?_
    refine z_icmp_eqN 23 41 C0 (by decide) (by decide) dX7_grows_20 rfl (by decide) (fun k20 => absurd k20 (by omega)) (fun k20 => ?_)
    refine z_iload_n 24 C0 0 dX7_grows_23 rfl rfl rfl ?_
    refine z_bipush 26 C0 (v := (nI 7)) dX7_grows_24 rfl rfl ?_
    refine z_icmp_ltN 29 35 C0 (by decide) (by decide) dX7_grows_26 rfl (by decide) (fun k26 => absurd k26 (by omega)) (fun k26 => ?_)
    refine z_iload_n 30 C0 0 dX7_grows_29 rfl rfl rfl ?_
    refine z_bipush 32 C0 (v := (nI 13)) dX7_grows_30 rfl rfl ?_
    refine z_icmp_leN 35 41 C0 (by decide) (by decide) dX7_grows_32 rfl (by decide) (fun k32 => ?_) (fun k32 => absurd k32 (by omega))
    refine z_iconst 42 C0 (v := (-1)) dX7_grows_41 rfl (by decide) ?_
    exact z_iret C0 rfl dX7_grows_42 ⟨(by decide), rfl⟩ (by decide) (by decide)
  · skip
    refine z_iload_n 1 C0 0 dX7_grows_0 rfl rfl rfl ?_
    refine z_iconst 2 C0 (v := (nI 2)) dX7_grows_1 rfl rfl ?_
    refine z_icmp_leN 5 10 C0 (by decide) (by decide) dX7_grows_2 rfl (by decide) (fun k2 => absurd k2 (by omega)) (fun k2 => ?_)
    refine z_iload_n 6 C0 0 dX7_grows_5 rfl rfl rfl ?_
    refine z_iconst 7 C0 (v := (nI 4)) dX7_grows_6 rfl rfl ?_
    refine z_icmp_neN 10 12 C0 (by decide) (by decide) dX7_grows_7 rfl (by decide) (fun k7 => ?_) (fun k7 => absurd k7 (by omega))
    refine z_iload_n 13 C0 0 dX7_grows_12 rfl rfl rfl ?_
    refine z_iconst 14 C0 (v := (nI 3)) dX7_grows_13 rfl rfl ?_
    refine z_icmp_eqN 17 41 C0 (by decide) (by decide) dX7_grows_14 rfl (by decide) (fun k14 => absurd k14 (by omega)) (fun k14 => ?_)
    refine z_iload_n 18 C0 0 dX7_grows_17 rfl rfl rfl ?_
    refine z_bipush 20 C0 (v := (nI 6)) dX7_grows_18 rfl rfl ?_
    refine z_icmp_eqN 23 41 C0 (by decide) (by decide) dX7_grows_20 rfl (by decide) (fun k20 => absurd k20 (by omega)) (fun k20 => ?_)
    refine z_iload_n 24 C0 0 dX7_grows_23 rfl rfl rfl ?_
    refine z_bipush 26 C0 (v := (nI 7)) dX7_grows_24 rfl rfl ?_
    refine z_icmp_ltN 29 35 C0 (by decide) (by decide) dX7_grows_26 rfl (by decide) (fun k26 => absurd k26 (by omega)) (fun k26 => ?_)
    refine z_iload_n 30 C0 0 dX7_grows_29 rfl rfl rfl ?_
    refine z_bipush 32 C0 (v := (nI 13)) dX7_grows_30 rfl rfl ?_
    refine z_icmp_leN 35 41 C0 (by decide) (by decide) dX7_grows_32 rfl (by decide) (fun k32 => ?_) (fun k32 => absurd k32 (by omega))
    refine z_iconst 42 C0 (v := (-1)) dX7_grows_41 rfl (by decide) ?_
    exact z_iret C0 rfl dX7_grows_42 ⟨(by decide), rfl⟩ (by decide) (by decide)
  · skip
    refine z_iload_n 1 C0 0 dX7_grows_0 rfl rfl rfl ?_
    refine z_iconst 2 C0 (v := (nI 2)) dX7_grows_1 rfl rfl ?_
    refine z_icmp_leN 5 10 C0 (by decide) (by decide) dX7_grows_2 rfl (by decide) (fun k2 => absurd k2 (by omega)) (fun k2 => ?_)
    refine z_iload_n 6 C0 0 dX7_grows_5 rfl rfl rfl ?_
    refine z_iconst 7 C0 (v := (nI 4)) dX7_grows_6 rfl rfl ?_
    refine z_icmp_neN 10 12 C0 (by decide) (by decide) dX7_grows_7 rfl (by decide) (fun k7 => ?_) (fun k7 => absurd k7 (by omega))
    refine z_iload_n 13 C0 0 dX7_grows_12 rfl rfl rfl ?_
    refine z_iconst 14 C0 (v := (nI 3)) dX7_grows_13 rfl rfl ?_
    refine z_icmp_eqN 17 41 C0 (by decide) (by decide) dX7_grows_14 rfl (by decide) (fun k14 => absurd k14 (by omega)) (fun k14 => ?_)
    refine z_iload_n 18 C0 0 dX7_grows_17 rfl rfl rfl ?_
    refine z_bipush 20 C0 (v := (nI 6)) dX7_grows_18 rfl rfl ?_
    refine z_icmp_eqN 23 41 C0 (by decide) (by decide) dX7_grows_20 rfl (by decide) (fun k20 => absurd k20 (by omega)) (fun k20 => ?_)
    refine z_iload_n 24 C0 0 dX7_grows_23 rfl rfl rfl ?_
    refine z_bipush 26 C0 (v := (nI 7)) dX7_grows_24 rfl rfl ?_
    refine z_icmp_ltN 29 35 C0 (by decide) (by decide) dX7_grows_26 rfl (by decide) (fun k26 => absurd k26 (by omega)) (fun k26 => ?_)
    refine z_iload_n 30 C0 0 dX7_grows_29 rfl rfl rfl ?_
    refine z_bipush 32 C0 (v := (nI 13)) dX7_grows_30 rfl rfl ?_
    refine z_icmp_leN 35 41 C0 (by decide) (by decide) dX7_grows_32 rfl (by decide) (fun k32 => ?_) (fun k32 => absurd k32 (by omega))
    refine z_iconst 42 C0 (v := (-1)) dX7_grows_41 rfl (by decide) ?_
    exact z_iret C0 rfl dX7_grows_42 ⟨(by decide), rfl⟩ (by decide) (by decide)
  · skip
    refine z_iload_n 1 C0 0 dX7_grows_0 rfl rfl rfl ?_
    refine z_iconst 2 C0 (v := (nI 2)) dX7_grows_1 rfl rfl ?_
    refine z_icmp_leN 5 10 C0 (by decide) (by decide) dX7_grows_2 rfl (by decide) (fun k2 => absurd k2 (by omega)) (fun k2 => ?_)
    refine z_iload_n 6 C0 0 dX7_grows_5 rfl rfl rfl ?_
    refine z_iconst 7 C0 (v := (nI 4)) dX7_grows_6 rfl rfl ?_
    refine z_icmp_neN 10 12 C0 (by decide) (by decide) dX7_grows_7 rfl (by decide) (fun k7 => ?_) (fun k7 => absurd k7 (by omega))
    refine z_iload_n 13 C0 0 dX7_grows_12 rfl rfl rfl ?_
    refine z_iconst 14 C0 (v := (nI 3)) dX7_grows_13 rfl rfl ?_
    refine z_icmp_eqN 17 41 C0 (by decide) (by decide) dX7_grows_14 rfl (by decide) (fun k14 => absurd k14 (by omega)) (fun k14 => ?_)
    refine z_iload_n 18 C0 0 dX7_grows_17 rfl rfl rfl ?_
    refine z_bipush 20 C0 (v := (nI 6)) dX7_grows_18 rfl rfl ?_
    refine z_icmp_eqN 23 41 C0 (by decide) (by decide) dX7_grows_20 rfl (by decide) (fun k20 => absurd k20 (by omega)) (fun k20 => ?_)
    refine z_iload_n 24 C0 0 dX7_grows_23 rfl rfl rfl ?_
    refine z_bipush 26 C0 (v := (nI 7)) dX7_grows_24 rfl rfl ?_
    refine z_icmp_ltN 29 35 C0 (by decide) (by decide) dX7_grows_26 rfl (by decide) (fun k26 => absurd k26 (by omega)) (fun k26 => ?_)
    refine z_iload_n 30 C0 0 dX7_grows_29 rfl rfl rfl ?_
    refine z_bipush 32 C0 (v := (nI 13)) dX7_grows_30 rfl rfl ?_
    refine z_icmp_leN 35 41 C0 (by decide) (by decide) dX7_grows_32 rfl (by decide) (fun k32 => ?_) (fun k32 => absurd k32 (by omega))
    refine z_iconst 42 C0 (v := (-1)) dX7_grows_41 rfl (by decide) ?_
    exact z_iret C0 rfl dX7_grows_42 ⟨(by decide), rfl⟩ (by decide) (by decide)
  · skip
    refine z_iload_n 1 C0 0 dX7_grows_0 rfl rfl rfl ?_
    refine z_iconst 2 C0 (v := (nI 2)) dX7_grows_1 rfl rfl ?_
    refine z_icmp_leN 5 10 C0 (by decide) (by decide) dX7_grows_2 rfl (by decide) (fun k2 => absurd k2 (by omega)) (fun k2 => ?_)
    refine z_iload_n 6 C0 0 dX7_grows_5 rfl rfl rfl ?_
    refine z_iconst 7 C0 (v := (nI 4)) dX7_grows_6 rfl rfl ?_
    refine z_icmp_neN 10 12 C0 (by decide) (by decide) dX7_grows_7 rfl (by decide) (fun k7 => ?_) (fun k7 => absurd k7 (by omega))
    refine z_iload_n 13 C0 0 dX7_grows_12 rfl rfl rfl ?_
    refine z_iconst 14 C0 (v := (nI 3)) dX7_grows_13 rfl rfl ?_
    refine z_icmp_eqN 17 41 C0 (by decide) (by decide) dX7_grows_14 rfl (by decide) (fun k14 => absurd k14 (by omega)) (fun k14 => ?_)
    refine z_iload_n 18 C0 0 dX7_grows_17 rfl rfl rfl ?_
    refine z_bipush 20 C0 (v := (nI 6)) dX7_grows_18 rfl rfl ?_
    refine z_icmp_eqN 23 41 C0 (by decide) (by decide) dX7_grows_20 rfl (by decide) (fun k20 => absurd k20 (by omega)) (fun k20 => ?_)
    refine z_iload_n 24 C0 0 dX7_grows_23 rfl rfl rfl ?_
    refine z_bipush 26 C0 (v := (nI 7)) dX7_grows_24 rfl rfl ?_
    refine z_icmp_ltN 29 35 C0 (by decide) (by decide) dX7_grows_26 rfl (by decide) (fun k26 => absurd k26 (by omega)) (fun k26 => ?_)
    refine z_iload_n 30 C0 0 dX7_grows_29 rfl rfl rfl ?_
    refine z_bipush 32 C0 (v := (nI 13)) dX7_grows_30 rfl rfl ?_
    refine z_icmp_leN 35 41 C0 (by decide) (by decide) dX7_grows_32 rfl (by decide) (fun k32 => ?_) (fun k32 => absurd k32 (by omega))
    refine z_iconst 42 C0 (v := (-1)) dX7_grows_41 rfl (by decide) ?_
    exact z_iret C0 rfl dX7_grows_42 ⟨(by decide), rfl⟩ (by decide) (by decide)
  · skip
    refine z_iload_n 1 C0 0 dX7_grows_0 rfl rfl rfl ?_
    refine z_iconst 2 C0 (v := (nI 2)) dX7_grows_1 rfl rfl ?_
    refine z_icmp_leN 5 10 C0 (by decide) (by decide) dX7_grows_2 rfl (by decide) (fun k2 => absurd k2 (by omega)) (fun k2 => ?_)
    refine z_iload_n 6 C0 0 dX7_grows_5 rfl rfl rfl ?_
    refine z_iconst 7 C0 (v := (nI 4)) dX7_grows_6 rfl rfl ?_
    refine z_icmp_neN 10 12 C0 (by decide) (by decide) dX7_grows_7 rfl (by decide) (fun k7 => ?_) (fun k7 => absurd k7 (by omega))
    refine z_iload_n 13 C0 0 dX7_grows_12 rfl rfl rfl ?_
    refine z_iconst 14 C0 (v := (nI 3)) dX7_grows_13 rfl rfl ?_
    refine z_icmp_eqN 17 41 C0 (by decide) (by decide) dX7_grows_14 rfl (by decide) (fun k14 => absurd k14 (by omega)) (fun k14 => ?_)
    refine z_iload_n 18 C0 0 dX7_grows_17 rfl rfl rfl ?_
    refine z_bipush 20 C0 (v := (nI 6)) dX7_grows_18 rfl rfl ?_
    refine z_icmp_eqN 23 41 C0 (by decide) (by decide) dX7_grows_20 rfl (by decide) (fun k20 => absurd k20 (by omega)) (fun k20 => ?_)
    refine z_iload_n 24 C0 0 dX7_grows_23 rfl rfl rfl ?_
    refine z_bipush 26 C0 (v := (nI 7)) dX7_grows_24 rfl rfl ?_
    refine z_icmp_ltN 29 35 C0 (by decide) (by decide) dX7_grows_26 rfl (by decide) (fun k26 => absurd k26 (by omega)) (fun k26 => ?_)
    refine z_iload_n 30 C0 0 dX7_grows_29 rfl rfl rfl ?_
    refine z_bipush 32 C0 (v := (nI 13)) dX7_grows_30 rfl rfl ?_
    refine z_icmp_leN 35 41 C0 (by decide) (by decide) dX7_grows_32 rfl (by decide) (fun k32 => absurd k32 (by omega)) (fun k32 => ?_)
    refine z_iload_n 36 C0 0 dX7_grows_35 rfl rfl rfl ?_
    refine z_bipush 38 C0 (v := (nI 15)) dX7_grows_36 rfl rfl ?_
    refine z_icmp_neN 41 43 C0 (by decide) (by decide) dX7_grows_38 rfl (by decide) (fun k38 => ?_) (fun k38 => absurd k38 (by omega))
    refine z_iload_n 44 C0 0 dX7_grows_43 rfl rfl rfl ?_
    refine z_bipush 46 C0 (v := (nI 16)) dX7_grows_44 rfl rfl ?_
    refine z_icmp_neN 49 54 C0 (by decide) (by decide) dX7_grows_46 rfl (by decide) (fun k46 => ?_) (fun k46 => absurd k46 (by omega))
    refine z_iconst 55 C0 (v := (nI 0)) dX7_grows_54 rfl rfl ?_
    exact z_iret C0 rfl dX7_grows_55 ⟨(by decide), rfl⟩ (by decide) (by decide)
  · skip
    refine z_iload_n 1 C0 0 dX7_grows_0 rfl rfl rfl ?_
    refine z_iconst 2 C0 (v := (nI 2)) dX7_grows_1 rfl rfl ?_
    refine z_icmp_leN 5 10 C0 (by decide) (by decide) dX7_grows_2 rfl (by decide) (fun k2 => absurd k2 (by omega)) (fun k2 => ?_)
    refine z_iload_n 6 C0 0 dX7_grows_5 rfl rfl rfl ?_
    refine z_iconst 7 C0 (v := (nI 4)) dX7_grows_6 rfl rfl ?_
    refine z_icmp_neN 10 12 C0 (by decide) (by decide) dX7_grows_7 rfl (by decide) (fun k7 => ?_) (fun k7 => absurd k7 (by omega))
    refine z_iload_n 13 C0 0 dX7_grows_12 rfl rfl rfl ?_
    refine z_iconst 14 C0 (v := (nI 3)) dX7_grows_13 rfl rfl ?_
    refine z_icmp_eqN 17 41 C0 (by decide) (by decide) dX7_grows_14 rfl (by decide) (fun k14 => absurd k14 (by omega)) (fun k14 => ?_)
    refine z_iload_n 18 C0 0 dX7_grows_17 rfl rfl rfl ?_
    refine z_bipush 20 C0 (v := (nI 6)) dX7_grows_18 rfl rfl ?_
    refine z_icmp_eqN 23 41 C0 (by decide) (by decide) dX7_grows_20 rfl (by decide) (fun k20 => absurd k20 (by omega)) (fun k20 => ?_)
    refine z_iload_n 24 C0 0 dX7_grows_23 rfl rfl rfl ?_
    refine z_bipush 26 C0 (v := (nI 7)) dX7_grows_24 rfl rfl ?_
    refine z_icmp_ltN 29 35 C0 (by decide) (by decide) dX7_grows_26 rfl (by decide) (fun k26 => absurd k26 (by omega)) (fun k26 => ?_)
    refine z_iload_n 30 C0 0 dX7_grows_29 rfl rfl rfl ?_
    refine z_bipush 32 C0 (v := (nI 13)) dX7_grows_30 rfl rfl ?_
    refine z_icmp_leN 35 41 C0 (by decide) (by decide) dX7_grows_32 rfl (by decide) (fun k32 => absurd k32 (by omega)) (fun k32 => ?_)
    refine z_iload_n 36 C0 0 dX7_grows_35 rfl rfl rfl ?_
    refine z_bipush 38 C0 (v := (nI 15)) dX7_grows_36 rfl rfl ?_
    refine z_icmp_neN 41 43 C0 (by decide) (by decide) dX7_grows_38 rfl (by decide) (fun k38 => absurd k38 (by omega)) (fun k38 => ?_)
    refine z_iconst 42 C0 (v := (-1)) dX7_grows_41 rfl (by decide) ?_
    exact z_iret C0 rfl dX7_grows_42 ⟨(by decide), rfl⟩ (by decide) (by decide)
  · skip
    refine z_iload_n 1 C0 0 dX7_grows_0 rfl rfl rfl ?_
    refine z_iconst 2 C0 (v := (nI 2)) dX7_grows_1 rfl rfl ?_
    refine z_icmp_leN 5 10 C0 (by decide) (by decide) dX7_grows_2 rfl (by decide) (fun k2 => absurd k2 (by omega)) (fun k2 => ?_)
    refine z_iload_n 6 C0 0 dX7_grows_5 rfl rfl rfl ?_
    refine z_iconst 7 C0 (v := (nI 4)) dX7_grows_6 rfl rfl ?_
    refine z_icmp_neN 10 12 C0 (by decide) (by decide) dX7_grows_7 rfl (by decide) (fun k7 => ?_) (fun k7 => absurd k7 (by omega))
    refine z_iload_n 13 C0 0 dX7_grows_12 rfl rfl rfl ?_
    refine z_iconst 14 C0 (v := (nI 3)) dX7_grows_13 rfl rfl ?_
    refine z_icmp_eqN 17 41 C0 (by decide) (by decide) dX7_grows_14 rfl (by decide) (fun k14 => absurd k14 (by omega)) (fun k14 => ?_)
    refine z_iload_n 18 C0 0 dX7_grows_17 rfl rfl rfl ?_
    refine z_bipush 20 C0 (v := (nI 6)) dX7_grows_18 rfl rfl ?_
    refine z_icmp_eqN 23 41 C0 (by decide) (by decide) dX7_grows_20 rfl (by decide) (fun k20 => absurd k20 (by omega)) (fun k20 => ?_)
    refine z_iload_n 24 C0 0 dX7_grows_23 rfl rfl rfl ?_
    refine z_bipush 26 C0 (v := (nI 7)) dX7_grows_24 rfl rfl ?_
    refine z_icmp_ltN 29 35 C0 (by decide) (by decide) dX7_grows_26 rfl (by decide) (fun k26 => absurd k26 (by omega)) (fun k26 => ?_)
    refine z_iload_n 30 C0 0 dX7_grows_29 rfl rfl rfl ?_
    refine z_bipush 32 C0 (v := (nI 13)) dX7_grows_30 rfl rfl ?_
    refine z_icmp_leN 35 41 C0 (by decide) (by decide) dX7_grows_32 rfl (by decide) (fun k32 => absurd k32 (by omega)) (fun k32 => ?_)
    refine z_iload_n 36 C0 0 dX7_grows_35 rfl rfl rfl ?_
    refine z_bipush 38 C0 (v := (nI 15)) dX7_grows_36 rfl rfl ?_
    refine z_icmp_neN 41 43 C0 (by decide) (by decide) dX7_grows_38 rfl (by decide) (fun k38 => ?_) (fun k38 => absurd k38 (by omega))
    refine z_iload_n 44 C0 0 dX7_grows_43 rfl rfl rfl ?_
    refine z_bipush 46 C0 (v := (nI 16)) dX7_grows_44 rfl rfl ?_
    refine z_icmp_neN 49 54 C0 (by decide) (by decide) dX7_grows_46 rfl (by decide) (fun k46 => absurd k46 (by omega)) (fun k46 => ?_)
    refine z_bipush 51 C0 (v := (-2)) dX7_grows_49 rfl (by decide) ?_
    refine z_goto 55 C0 dX7_grows_51 (by decide) ?_
    exact z_iret C0 rfl dX7_grows_55 ⟨(by decide), rfl⟩ (by decide) (by decide)
  · skip
    refine z_iload_n 1 C0 0 dX7_grows_0 rfl rfl rfl ?_
    refine z_iconst 2 C0 (v := (nI 2)) dX7_grows_1 rfl rfl ?_
    refine z_icmp_leN 5 10 C0 (by decide) (by decide) dX7_grows_2 rfl (by decide) (fun k2 => absurd k2 (by omega)) (fun k2 => ?_)
    refine z_iload_n 6 C0 0 dX7_grows_5 rfl rfl rfl ?_
    refine z_iconst 7 C0 (v := (nI 4)) dX7_grows_6 rfl rfl ?_
    refine z_icmp_neN 10 12 C0 (by decide) (by decide) dX7_grows_7 rfl (by decide) (fun k7 => ?_) (fun k7 => absurd k7 (by omega))
    refine z_iload_n 13 C0 0 dX7_grows_12 rfl rfl rfl ?_
    refine z_iconst 14 C0 (v := (nI 3)) dX7_grows_13 rfl rfl ?_
    refine z_icmp_eqN 17 41 C0 (by decide) (by decide) dX7_grows_14 rfl (by decide) (fun k14 => absurd k14 (by omega)) (fun k14 => ?_)
    refine z_iload_n 18 C0 0 dX7_grows_17 rfl rfl rfl ?_
    refine z_bipush 20 C0 (v := (nI 6)) dX7_grows_18 rfl rfl ?_
    refine z_icmp_eqN 23 41 C0 (by decide) (by decide) dX7_grows_20 rfl (by decide) (fun k20 => absurd k20 (by omega)) (fun k20 => ?_)
    refine z_iload_n 24 C0 0 dX7_grows_23 rfl rfl rfl ?_
    refine z_bipush 26 C0 (v := (nI 7)) dX7_grows_24 rfl rfl ?_
    refine z_icmp_ltN 29 35 C0 (by decide) (by decide) dX7_grows_26 rfl (by decide) (fun k26 => absurd k26 (by omega)) (fun k26 => ?_)
    refine z_iload_n 30 C0 0 dX7_grows_29 rfl rfl rfl ?_
    refine z_bipush 32 C0 (v := (nI 13)) dX7_grows_30 rfl rfl ?_
    refine z_icmp_leN 35 41 C0 (by decide) (by decide) dX7_grows_32 rfl (by decide) (fun k32 => absurd k32 (by omega)) (fun k32 => ?_)
    refine z_iload_n 36 C0 0 dX7_grows_35 rfl rfl rfl ?_
    refine z_bipush 38 C0 (v := (nI 15)) dX7_grows_36 rfl rfl ?_
    refine z_icmp_neN 41 43 C0 (by decide) (by decide) dX7_grows_38 rfl (by decide) (fun k38 => ?_) (fun k38 => absurd k38 (by omega))
    refine z_iload_n 44 C0 0 dX7_grows_43 rfl rfl rfl ?_
    refine z_bipush 46 C0 (v := (nI 16)) dX7_grows_44 rfl rfl ?_
    refine z_icmp_neN 49 54 C0 (by decide) (by decide) dX7_grows_46 rfl (by decide) (fun k46 => ?_) (fun k46 => absurd k46 (by omega))
    refine z_iconst 55 C0 (v := (nI 0)) dX7_grows_54 rfl rfl ?_
    exact z_iret C0 rfl dX7_grows_55 ⟨(by decide), rfl⟩ (by decide) (by decide)
  · skip
    refine z_iload_n 1 C0 0 dX7_grows_0 rfl rfl rfl ?_
    refine z_iconst 2 C0 (v := (nI 2)) dX7_grows_1 rfl rfl ?_
    refine z_icmp_leN 5 10 C0 (by decide) (by decide) dX7_grows_2 rfl (by decide) (fun k2 => absurd k2 (by omega)) (fun k2 => ?_)
    refine z_iload_n 6 C0 0 dX7_grows_5 rfl rfl rfl ?_
    refine z_iconst 7 C0 (v := (nI 4)) dX7_grows_6 rfl rfl ?_
    refine z_icmp_neN 10 12 C0 (by decide) (by decide) dX7_grows_7 rfl (by decide) (fun k7 => ?_) (fun k7 => absurd k7 (by omega))
    refine z_iload_n 13 C0 0 dX7_grows_12 rfl rfl rfl ?_
    refine z_iconst 14 C0 (v := (nI 3)) dX7_grows_13 rfl rfl ?_
    refine z_icmp_eqN 17 41 C0 (by decide) (by decide) dX7_grows_14 rfl (by decide) (fun k14 => absurd k14 (by omega)) (fun k14 => ?_)
    refine z_iload_n 18 C0 0 dX7_grows_17 rfl rfl rfl ?_
    refine z_bipush 20 C0 (v := (nI 6)) dX7_grows_18 rfl rfl ?_
    refine z_icmp_eqN 23 41 C0 (by decide) (by decide) dX7_grows_20 rfl (by decide) (fun k20 => absurd k20 (by omega)) (fun k20 => ?_)
    refine z_iload_n 24 C0 0 dX7_grows_23 rfl rfl rfl ?_
    refine z_bipush 26 C0 (v := (nI 7)) dX7_grows_24 rfl rfl ?_
    refine z_icmp_ltN 29 35 C0 (by decide) (by decide) dX7_grows_26 rfl (by decide) (fun k26 => absurd k26 (by omega)) (fun k26 => ?_)
    refine z_iload_n 30 C0 0 dX7_grows_29 rfl rfl rfl ?_
    refine z_bipush 32 C0 (v := (nI 13)) dX7_grows_30 rfl rfl ?_
    refine z_icmp_leN 35 41 C0 (by decide) (by decide) dX7_grows_32 rfl (by decide) (fun k32 => absurd k32 (by omega)) (fun k32 => ?_)
    refine z_iload_n 36 C0 0 dX7_grows_35 rfl rfl rfl ?_
    refine z_bipush 38 C0 (v := (nI 15)) dX7_grows_36 rfl rfl ?_
    refine z_icmp_neN 41 43 C0 (by decide) (by decide) dX7_grows_38 rfl (by decide) (fun k38 => ?_) (fun k38 => absurd k38 (by omega))
    refine z_iload_n 44 C0 0 dX7_grows_43 rfl rfl rfl ?_
    refine z_bipush 46 C0 (v := (nI 16)) dX7_grows_44 rfl rfl ?_
    refine z_icmp_neN 49 54 C0 (by decide) (by decide) dX7_grows_46 rfl (by decide) (fun k46 => ?_) (fun k46 => absurd k46 (by omega))
    refine z_iconst 55 C0 (v := (nI 0)) dX7_grows_54 rfl rfl ?_
    exact z_iret C0 rfl dX7_grows_55 ⟨(by decide), rfl⟩ (by decide) (by decide)

set_option maxHeartbeats 4000000 in
set_option maxRecDepth 100000 in
theorem reckoned (l_ : Launch) (E : zE) (o : Nat) (a : Int32) (b : Int32) (h7 : 7 ≤ o) (h13 : o ≤ 13) : zMi l_ E yX7_reckoned (zTs yX7_reckoned cX7_reckoned 3 (some .int)) ({ frames := 0, cells := 0, slots := 0, locals := 0 } : Room) [.int (nI o), .int a, .int b] [] (fun r_ w_ => (r_ = (cmb o a b) ∧ w_ = [])) 0 0 := by
  refine zMi.of (cc := cX7_reckoned) (nL := 3) (ret := (some .int)) (by decide) rfl (Nat.le_of_ble_eq_true rfl) ?_
  intro p_ e_ s_ m_ args_ below_ meth_ c_ A_ C0 hin0
  have C0 : zC E p_ s_ m_ args_ meth_ c_ cX7_reckoned 3 (some .int) RX7 (zTs yX7_reckoned cX7_reckoned 3 (some .int)) A_ := C0
  refine z_eqL (L1 := [(0, .int (nI o)), (1, .int a), (2, .int b)]) rfl ?_
  rcases (show o = 7 ∨ o = 8 ∨ o = 9 ∨ o = 10 ∨ o = 11 ∨ o = 12 ∨ o = 13 by omega) with rfl | rfl | rfl | rfl | rfl | rfl | rfl
  · skip
    refine z_iload_n 1 C0 0 dX7_reckoned_0 rfl rfl rfl ?_
    refine z_switch 40 C0 dX7_reckoned_1 (by decide) (by decide) rfl (by decide) ?_
    refine z_iload_n 41 C0 1 dX7_reckoned_40 rfl rfl rfl ?_
    refine z_iload_n 42 C0 2 dX7_reckoned_41 rfl rfl rfl ?_
    refine z_iadd 43 C0 (v := (a + b)) dX7_reckoned_42 rfl rfl ?_
    exact z_iret C0 rfl dX7_reckoned_43 ⟨rfl, rfl⟩ (by decide) (by decide)
  · skip
    refine z_iload_n 1 C0 0 dX7_reckoned_0 rfl rfl rfl ?_
    refine z_switch 44 C0 dX7_reckoned_1 (by decide) (by decide) rfl (by decide) ?_
    refine z_iload_n 45 C0 1 dX7_reckoned_44 rfl rfl rfl ?_
    refine z_iload_n 46 C0 2 dX7_reckoned_45 rfl rfl rfl ?_
    refine z_isub 47 C0 (v := (a - b)) dX7_reckoned_46 rfl rfl ?_
    exact z_iret C0 rfl dX7_reckoned_47 ⟨rfl, rfl⟩ (by decide) (by decide)
  · skip
    refine z_iload_n 1 C0 0 dX7_reckoned_0 rfl rfl rfl ?_
    refine z_switch 48 C0 dX7_reckoned_1 (by decide) (by decide) rfl (by decide) ?_
    refine z_iload_n 49 C0 1 dX7_reckoned_48 rfl rfl rfl ?_
    refine z_iload_n 50 C0 2 dX7_reckoned_49 rfl rfl rfl ?_
    refine z_imul 51 C0 (v := (a * b)) dX7_reckoned_50 rfl rfl ?_
    exact z_iret C0 rfl dX7_reckoned_51 ⟨rfl, rfl⟩ (by decide) (by decide)
  · skip
    refine z_iload_n 1 C0 0 dX7_reckoned_0 rfl rfl rfl ?_
    refine z_switch 52 C0 dX7_reckoned_1 (by decide) (by decide) rfl (by decide) ?_
    refine z_iload_n 53 C0 2 dX7_reckoned_52 rfl rfl rfl ?_
    refine z_if_ne 56 60 C0 dX7_reckoned_53 rfl (by decide) (fun k53 => ?_) (fun k53 => ?_)
    · skip
      refine z_iload_n 61 C0 1 dX7_reckoned_60 rfl rfl rfl ?_
      refine z_iload_n 62 C0 2 dX7_reckoned_61 rfl rfl rfl ?_
      refine z_idiv 63 C0 (v := (a / b)) dX7_reckoned_62 rfl k53 rfl ?_
      exact z_iret C0 rfl dX7_reckoned_63 ⟨(cmb_div k53), rfl⟩ (by decide) (by decide)
    · skip
      refine z_iconst 57 C0 (v := (nI 0)) dX7_reckoned_56 rfl rfl ?_
      refine z_goto 63 C0 dX7_reckoned_57 (by decide) ?_
      exact z_iret C0 rfl dX7_reckoned_63 ⟨(by rw [k53]; rfl), rfl⟩ (by decide) (by decide)
  · skip
    refine z_iload_n 1 C0 0 dX7_reckoned_0 rfl rfl rfl ?_
    refine z_switch 64 C0 dX7_reckoned_1 (by decide) (by decide) rfl (by decide) ?_
    refine z_iload_n 65 C0 2 dX7_reckoned_64 rfl rfl rfl ?_
    refine z_if_ne 68 72 C0 dX7_reckoned_65 rfl (by decide) (fun k65 => ?_) (fun k65 => ?_)
    · skip
      refine z_iload_n 73 C0 1 dX7_reckoned_72 rfl rfl rfl ?_
      refine z_iload_n 74 C0 2 dX7_reckoned_73 rfl rfl rfl ?_
      refine z_irem 75 C0 (v := (a - a / b * b)) dX7_reckoned_74 rfl k65 rfl ?_
      exact z_iret C0 rfl dX7_reckoned_75 ⟨(cmb_rem k65), rfl⟩ (by decide) (by decide)
    · skip
      refine z_iconst 69 C0 (v := (nI 0)) dX7_reckoned_68 rfl rfl ?_
      refine z_goto 75 C0 dX7_reckoned_69 (by decide) ?_
      exact z_iret C0 rfl dX7_reckoned_75 ⟨(by rw [k65]; rfl), rfl⟩ (by decide) (by decide)
  · skip
    refine z_iload_n 1 C0 0 dX7_reckoned_0 rfl rfl rfl ?_
    refine z_switch 76 C0 dX7_reckoned_1 (by decide) (by decide) rfl (by decide) ?_
    refine z_iload_n 77 C0 1 dX7_reckoned_76 rfl rfl rfl ?_
    refine z_iload_n 78 C0 2 dX7_reckoned_77 rfl rfl rfl ?_
    refine z_icmp_ge 81 85 C0 dX7_reckoned_78 rfl (by decide) (fun k78 => ?_) (fun k78 => ?_)
    · skip
      refine z_iconst 86 C0 (v := (nI 0)) dX7_reckoned_85 rfl rfl ?_
      exact z_iret C0 rfl dX7_reckoned_86 ⟨(cmb_nlt k78), rfl⟩ (by decide) (by decide)
    · skip
      refine z_iconst 82 C0 (v := (nI 1)) dX7_reckoned_81 rfl rfl ?_
      refine z_goto 86 C0 dX7_reckoned_82 (by decide) ?_
      exact z_iret C0 rfl dX7_reckoned_86 ⟨(cmb_lt k78), rfl⟩ (by decide) (by decide)
  · skip
    refine z_iload_n 1 C0 0 dX7_reckoned_0 rfl rfl rfl ?_
    refine z_switchO 87 C0 dX7_reckoned_1 (by decide) (by decide) ?_
    refine z_iload_n 88 C0 1 dX7_reckoned_87 rfl rfl rfl ?_
    refine z_iload_n 89 C0 2 dX7_reckoned_88 rfl rfl rfl ?_
    refine z_icmp_ne 92 96 C0 dX7_reckoned_89 rfl (by decide) (fun k89 => ?_) (fun k89 => ?_)
    · skip
      refine z_iconst 97 C0 (v := (nI 0)) dX7_reckoned_96 rfl rfl ?_
      exact z_iret C0 rfl dX7_reckoned_97 ⟨(cmb_ne k89), rfl⟩ (by decide) (by decide)
    · skip
      refine z_iconst 93 C0 (v := (nI 1)) dX7_reckoned_92 rfl rfl ?_
      refine z_goto 97 C0 dX7_reckoned_93 (by decide) ?_
      exact z_iret C0 rfl dX7_reckoned_97 ⟨(cmb_eq k89), rfl⟩ (by decide) (by decide)

set_option maxHeartbeats 4000000 in
set_option maxRecDepth 100000 in
theorem call7 (l_ : Launch) (E : zE) (y : Nat) (sz : Nat) (yrk : Nat) (yrv : Nat) (rn : Nat) (yop : Nat) (ynu : Nat) (yle : Nat) (yk : Nat) (yv : Nat) (ysp : Nat) (prs : Nat) (yxk : Nat) (yxv : Nat) (rs : Nat) (err : Int32) (yto : Nat) (yst : Nat) (ylo : Nat) (stp : Nat) (res : Int32) (wo : Nat) (p : Nat) (oo : Nat → Option Nat) (nu : Nat → Option Nat) (ra : Nat) (rb : Nat) (op : Nat → Int32) (nn : Nat → Int32) (kf : Nat → Int32) (vf : Nat → Int32) (sp : Nat → Nat) (st : Nat → Int32) (lo : Nat → Int32) (len : Nat) (a : Int32) (b : Int32) (d : Int32) (of : Nat) (hp : p < 4) (hoo : oo p = some ra) (hnu : nu p = some rb) (hG : Good p op nn len) (hlen : len ≤ 64) (hprs : prs < 1000000) : zMi l_ E yX7_call (zTs yX7_call cX7_call 12 (some .boolean)) ({ frames := 1, cells := 0, slots := 0, locals := 23 } : Room) [.ref y, .int (nI p), .int a, .int b, .int d, .int (nI of)] [(y, zo 7 [.int (nI sz), .ref yrk, .ref yrv, .int (nI rn), .ref yop, .ref ynu, .ref yle, .ref yk, .ref yv, .ref ysp, .int (nI prs), .ref yxk, .ref yxv, .int (nI rs), .int err, .ref yto, .ref yst, .ref ylo, .int (nI stp), .int res, .int (nI wo)]), (yop, zg E 4 oo), (ra, zi E 64 op), (ynu, zg E 4 nu), (rb, zi E 64 nn), (yk, zi E 620 kf), (yv, zi E 620 vf), (ysp, zi E 620 (zn sp)), (yst, zi E 8 st), (ylo, zi E 4 lo)] (fun r_ w_ => ∃ stp2 : Nat, ∃ res2 : Int32, ∃ wo2 : Nat, ∃ st2 : Nat → Int32, ∃ lo2 : Nat → Int32, (r_ = (zb ((callR op nn a b d).1 ≠ 0)) ∧ w_ = [(y, zo 7 [.int (nI sz), .ref yrk, .ref yrv, .int (nI rn), .ref yop, .ref ynu, .ref yle, .ref yk, .ref yv, .ref ysp, .int (nI (prs + (callR op nn a b d).2.2.2.length)), .ref yxk, .ref yxv, .int (nI rs), .int err, .ref yto, .ref yst, .ref ylo, .int (nI stp2), .int res2, .int (nI wo2)]), (yop, zg E 4 oo), (ra, zi E 64 op), (ynu, zg E 4 nu), (rb, zi E 64 nn), (yk, zi E 620 (rwK 620 prs kf (callR op nn a b d).2.2.2)), (yv, zi E 620 (rwV 620 prs vf (callR op nn a b d).2.2.2)), (ysp, zi E 620 (zn (rwS 620 prs sp of (callR op nn a b d).2.2.2))), (yst, zi E 8 st2), (ylo, zi E 4 lo2)]) ∧ ((callR op nn a b d).1 ≠ 0 → stp2 = (callR op nn a b d).2.2.1 ∧ wo2 = (if (callR op nn a b d).1 = 2 then 1 else 0)) ∧ ((callR op nn a b d).1 = 1 → p ≠ 0 → res2 = (callR op nn a b d).2.1)) 0 0 := by
  refine zMi.of (cc := cX7_call) (nL := 12) (ret := (some .boolean)) (by decide) rfl (Nat.le_of_ble_eq_true rfl) ?_
  intro p_ e_ s_ m_ args_ below_ meth_ c_ A_ C0 hin0
  have C0 : zC E p_ s_ m_ args_ meth_ c_ cX7_call 12 (some .boolean) RX7 (zTs yX7_call cX7_call 12 (some .boolean)) A_ := C0
  refine z_eqL (L1 := [(0, .ref y), (1, .int (nI p)), (2, .int a), (3, .int b), (4, .int d), (5, .int (nI of))]) rfl ?_
  refine z_aload_n 1 C0 0 dX7_call_0 rfl rfl rfl ?_
  refine z_get 4 C0 0 17 wz_7 rfl (by decide) (zTs_in wk_465) dX7_call_1 rfl rfl rfl ?_
  refine z_iconst 5 C0 (v := (nI 0)) dX7_call_4 rfl rfl ?_
  refine z_callSv 8 C0 [9] [0, 1, 2, 3, 4, 5, 6, 7, 8] [(y, zo 7 [.int (nI sz), .ref yrk, .ref yrv, .int (nI rn), .ref yop, .ref ynu, .ref yle, .ref yk, .ref yv, .ref ysp, .int (nI prs), .ref yxk, .ref yxv, .int (nI rs), .int err, .ref yto, .ref yst, .ref ylo, .int (nI stp), .int res, .int (nI wo)]), (yop, zg E 4 oo), (ra, zi E 64 op), (ynu, zg E 4 nu), (rb, zi E 64 nn), (yk, zi E 620 kf), (yv, zi E 620 vf), (ysp, zi E 620 (zn sp)), (yst, zi E 8 st)] 0 0 (As := [.ref ylo, .int (nI 0)]) (n := 2) (fill l_ E ylo 4 lo (nI 0) (by omega)) (zGIS (fun _ => zTs_in) wk_253 wk_559 wk_252 wk_21) rfl ⟨by decide, by decide, by decide +kernel⟩ rfl rfl (by decide) rfl rfl (Nat.le_of_ble_eq_true rfl) ⟨by decide, by decide⟩ rfl rfl ⟨by decide, by decide⟩ ⟨by decide, by decide⟩ dX7_call_5 rfl (fun w5 hB5 => ?_)
  obtain rfl := hB5
  refine z_perm [0, 1, 2, 3, 4, 5, 6, 7, 8, 9] [(y, zo 7 [.int (nI sz), .ref yrk, .ref yrv, .int (nI rn), .ref yop, .ref ynu, .ref yle, .ref yk, .ref yv, .ref ysp, .int (nI prs), .ref yxk, .ref yxv, .int (nI rs), .int err, .ref yto, .ref yst, .ref ylo, .int (nI stp), .int res, .int (nI wo)]), (yop, zg E 4 oo), (ra, zi E 64 op), (ynu, zg E 4 nu), (rb, zi E 64 nn), (yk, zi E 620 kf), (yv, zi E 620 vf), (ysp, zi E 620 (zn sp)), (yst, zi E 8 st), (ylo, zi E 4 (fun _ => (nI 0)))] (by decide) rfl ?_
  refine z_eq (L1 := [(0, .ref y), (1, .int (nI p)), (2, .int a), (3, .int b), (4, .int d), (5, .int (nI of))]) (st1 := []) (w1 := [(y, zo 7 [.int (nI sz), .ref yrk, .ref yrv, .int (nI rn), .ref yop, .ref ynu, .ref yle, .ref yk, .ref yv, .ref ysp, .int (nI prs), .ref yxk, .ref yxv, .int (nI rs), .int err, .ref yto, .ref yst, .ref ylo, .int (nI stp), .int res, .int (nI wo)]), (yop, zg E 4 oo), (ra, zi E 64 op), (ynu, zg E 4 nu), (rb, zi E 64 nn), (yk, zi E 620 (rwK 620 prs kf ([] : List (Int32 × Int32)))), (yv, zi E 620 (rwV 620 prs vf ([] : List (Int32 × Int32)))), (ysp, zi E 620 (zn (rwS 620 prs sp of ([] : List (Int32 × Int32))))), (yst, zi E 8 st), (ylo, zi E 4 (fun _ => (nI 0)))]) rfl rfl (by rw [rwK_0, rwV_0, rwS_0]) ?_
  refine z_iconst 9 C0 (v := (nI 0)) dX7_call_8 rfl rfl ?_
  refine z_istore 11 C0 [1, 2, 3, 4, 5, 6, 0] [(0, .ref y), (1, .int (nI p)), (2, .int a), (3, .int b), (4, .int d), (5, .int (nI of)), (6, .int (nI 0))] dX7_call_9 rfl (by decide) rfl ?_
  refine z_iconst 12 C0 (v := (nI 0)) dX7_call_11 rfl rfl ?_
  refine z_istore 14 C0 [1, 2, 3, 4, 5, 6, 7, 0] [(0, .ref y), (1, .int (nI p)), (2, .int a), (3, .int b), (4, .int d), (5, .int (nI of)), (6, .int (nI 0)), (7, .int (nI 0))] dX7_call_12 rfl (by decide) rfl ?_
  refine z_iconst 15 C0 (v := (nI 0)) dX7_call_14 rfl rfl ?_
  refine z_istore 17 C0 [1, 2, 3, 4, 5, 6, 7, 8, 0] [(0, .ref y), (1, .int (nI p)), (2, .int a), (3, .int b), (4, .int d), (5, .int (nI of)), (6, .int (nI 0)), (7, .int (nI 0)), (8, .int (nI 0))] dX7_call_15 rfl (by decide) rfl ?_
  refine z_aload_n 18 C0 0 dX7_call_17 rfl rfl rfl ?_
  refine z_iconst 19 C0 (v := (nI 0)) dX7_call_18 rfl rfl ?_
  refine z_put 22 C0 0 18 [(y, zo 7 [.int (nI sz), .ref yrk, .ref yrv, .int (nI rn), .ref yop, .ref ynu, .ref yle, .ref yk, .ref yv, .ref ysp, .int (nI prs), .ref yxk, .ref yxv, .int (nI rs), .int err, .ref yto, .ref yst, .ref ylo, .int (nI 0), .int res, .int (nI wo)]), (yop, zg E 4 oo), (ra, zi E 64 op), (ynu, zg E 4 nu), (rb, zi E 64 nn), (yk, zi E 620 (rwK 620 prs kf ([] : List (Int32 × Int32)))), (yv, zi E 620 (rwV 620 prs vf ([] : List (Int32 × Int32)))), (ysp, zi E 620 (zn (rwS 620 prs sp of ([] : List (Int32 × Int32))))), (yst, zi E 8 st), (ylo, zi E 4 (fun _ => (nI 0)))] wz_7 rfl (by decide) (zTs_in wk_466) tyX7 tyX7_ok nmX7 rfl rfl rfl rfl dX7_call_19 rfl rfl (Nat.le_of_ble_eq_true rfl) rfl ?_
  refine z_eq (L1 := [(0, .ref y), (1, .int (nI p)), (2, .int a), (3, .int b), (4, .int d), (5, .int (nI of)), (6, .int (nI 0)), (7, .int (nI 0)), (8, .int (nI (([] : List (Int32 × Int32)).length)))]) (st1 := []) (w1 := [(y, zo 7 [.int (nI sz), .ref yrk, .ref yrv, .int (nI rn), .ref yop, .ref ynu, .ref yle, .ref yk, .ref yv, .ref ysp, .int (nI (prs + ([] : List (Int32 × Int32)).length)), .ref yxk, .ref yxv, .int (nI rs), .int err, .ref yto, .ref yst, .ref ylo, .int (nI 0), .int res, .int (nI wo)]), (yop, zg E 4 oo), (ra, zi E 64 op), (ynu, zg E 4 nu), (rb, zi E 64 nn), (yk, zi E 620 (rwK 620 prs kf ([] : List (Int32 × Int32)))), (yv, zi E 620 (rwV 620 prs vf ([] : List (Int32 × Int32)))), (ysp, zi E 620 (zn (rwS 620 prs sp of ([] : List (Int32 × Int32))))), (yst, zi E 8 st), (ylo, zi E 4 (fun _ => (nI 0)))]) rfl rfl rfl ?_
  refine z_aload_n 23 C0 0 dX7_call_22 rfl rfl rfl ?_
  refine z_iconst 24 C0 (v := (nI 0)) dX7_call_23 rfl rfl ?_
  refine z_put 27 C0 0 20 [(y, zo 7 [.int (nI sz), .ref yrk, .ref yrv, .int (nI rn), .ref yop, .ref ynu, .ref yle, .ref yk, .ref yv, .ref ysp, .int (nI (prs + ([] : List (Int32 × Int32)).length)), .ref yxk, .ref yxv, .int (nI rs), .int err, .ref yto, .ref yst, .ref ylo, .int (nI 0), .int res, .int (nI 0)]), (yop, zg E 4 oo), (ra, zi E 64 op), (ynu, zg E 4 nu), (rb, zi E 64 nn), (yk, zi E 620 (rwK 620 prs kf ([] : List (Int32 × Int32)))), (yv, zi E 620 (rwV 620 prs vf ([] : List (Int32 × Int32)))), (ysp, zi E 620 (zn (rwS 620 prs sp of ([] : List (Int32 × Int32))))), (yst, zi E 8 st), (ylo, zi E 4 (fun _ => (nI 0)))] wz_7 rfl (by decide) (zTs_in wk_468) tyX7 tyX7_ok nmX7 rfl rfl rfl rfl dX7_call_24 rfl rfl (Nat.le_of_ble_eq_true rfl) rfl ?_
  have CUT27 : ∀ (N27 : Nat) (k : Nat) (fu : Nat) (i : Nat) (h : Nat) (lo : Nat → Int32) (st : Nat → Int32) (P : List (Int32 × Int32)), (fu + k = 300) → (Rch p op nn len i h) → (P.length ≤ 20) → (mRun op nn (argV a b d) fu k i h st lo P = (callR op nn a b d)) → fu + 1 < N27 → Z E p_ l_ e_ ({ frames := 1, cells := 0, slots := 0, locals := 23 } : Room) s_ m_ args_ below_ meth_ c_ (MQ below_ (va_Qi (fun r_ w_ => ∃ stp2 : Nat, ∃ res2 : Int32, ∃ wo2 : Nat, ∃ st2 : Nat → Int32, ∃ lo2 : Nat → Int32, (r_ = (zb ((callR op nn a b d).1 ≠ 0)) ∧ w_ = [(y, zo 7 [.int (nI sz), .ref yrk, .ref yrv, .int (nI rn), .ref yop, .ref ynu, .ref yle, .ref yk, .ref yv, .ref ysp, .int (nI (prs + (callR op nn a b d).2.2.2.length)), .ref yxk, .ref yxv, .int (nI rs), .int err, .ref yto, .ref yst, .ref ylo, .int (nI stp2), .int res2, .int (nI wo2)]), (yop, zg E 4 oo), (ra, zi E 64 op), (ynu, zg E 4 nu), (rb, zi E 64 nn), (yk, zi E 620 (rwK 620 prs kf (callR op nn a b d).2.2.2)), (yv, zi E 620 (rwV 620 prs vf (callR op nn a b d).2.2.2)), (ysp, zi E 620 (zn (rwS 620 prs sp of (callR op nn a b d).2.2.2))), (yst, zi E 8 st2), (ylo, zi E 4 lo2)]) ∧ ((callR op nn a b d).1 ≠ 0 → stp2 = (callR op nn a b d).2.2.1 ∧ wo2 = (if (callR op nn a b d).1 = 2 then 1 else 0)) ∧ ((callR op nn a b d).1 = 1 → p ≠ 0 → res2 = (callR op nn a b d).2.1)) (zPost E A_) A_) args_ s_ 0 0 A_) A_ 12 27 [(0, .ref y), (1, .int (nI p)), (2, .int a), (3, .int b), (4, .int d), (5, .int (nI of)), (6, .int (nI h)), (7, .int (nI i)), (8, .int (nI (P.length)))] [] [(y, zo 7 [.int (nI sz), .ref yrk, .ref yrv, .int (nI rn), .ref yop, .ref ynu, .ref yle, .ref yk, .ref yv, .ref ysp, .int (nI (prs + P.length)), .ref yxk, .ref yxv, .int (nI rs), .int err, .ref yto, .ref yst, .ref ylo, .int (nI k), .int res, .int (nI 0)]), (yop, zg E 4 oo), (ra, zi E 64 op), (ynu, zg E 4 nu), (rb, zi E 64 nn), (yk, zi E 620 (rwK 620 prs kf P)), (yv, zi E 620 (rwV 620 prs vf P)), (ysp, zi E 620 (zn (rwS 620 prs sp of P))), (yst, zi E 8 st), (ylo, zi E 4 lo)] 0 0 := by
    intro N27
    induction N27 with
    | zero => intro k fu i h lo st P hfu hR hP hM hm27; exact absurd hm27 (Nat.not_lt_zero _)
    | succ N27 ih27 =>
      intro k fu i h lo st P hfu hR hP hM hm27
      refine z_aload_n 28 C0 0 dX7_call_27 rfl rfl rfl ?_
      refine z_get 31 C0 0 18 wz_7 rfl (by decide) (zTs_in wk_466) dX7_call_28 rfl rfl rfl ?_
      refine z_sipush 34 C0 (v := (nI 300)) dX7_call_31 rfl rfl ?_
      refine z_icmp_neN 37 39 C0 (by omega) (by decide) dX7_call_34 rfl (by decide) (fun k34 => ?_) (fun k34 => ?_)
      · skip
        obtain ⟨fu, rfl⟩ : ∃ z, fu = z + 1 := ⟨fu - 1, by omega⟩
        refine z_aload_n 40 C0 0 dX7_call_39 rfl rfl rfl ?_
        refine z_dup 41 C0 dX7_call_40 rfl rfl ?_
        refine z_get 44 C0 0 18 wz_7 rfl (by decide) (zTs_in wk_466) dX7_call_41 rfl rfl rfl ?_
        refine z_iconst 45 C0 (v := (nI 1)) dX7_call_44 rfl rfl ?_
        refine z_iadd 46 C0 (v := (nI (k + 1))) dX7_call_45 rfl (nI_add _ _) ?_
        refine z_put 49 C0 0 18 [(y, zo 7 [.int (nI sz), .ref yrk, .ref yrv, .int (nI rn), .ref yop, .ref ynu, .ref yle, .ref yk, .ref yv, .ref ysp, .int (nI (prs + P.length)), .ref yxk, .ref yxv, .int (nI rs), .int err, .ref yto, .ref yst, .ref ylo, .int (nI (k + 1)), .int res, .int (nI 0)]), (yop, zg E 4 oo), (ra, zi E 64 op), (ynu, zg E 4 nu), (rb, zi E 64 nn), (yk, zi E 620 (rwK 620 prs kf P)), (yv, zi E 620 (rwV 620 prs vf P)), (ysp, zi E 620 (zn (rwS 620 prs sp of P))), (yst, zi E 8 st), (ylo, zi E 4 lo)] wz_7 rfl (by decide) (zTs_in wk_466) tyX7 tyX7_ok nmX7 rfl rfl rfl rfl dX7_call_46 rfl rfl (Nat.le_of_ble_eq_true rfl) rfl ?_
        obtain ⟨hi, hh8, o, ho⟩ := hG.at hR
        have hop := ho.1.2.1
        rcases le18 ho.1.1 with rfl | rfl | rfl | rfl | rfl | rfl | rfl | rfl | rfl | rfl | rfl | rfl | rfl | rfl | rfl | rfl | rfl | rfl | rfl
        · skip
          have hnd : 0 ≤ h := by have := ho.2.2.1; simpa [pNeed, nNeed] using this
          have hup : h + 1 - 0 ≤ 8 := ho.2.2.2
          have hcl : (nn i).toNatClampNeg = (nn i).toNatClampNeg := rfl
          refine z_aload_n 50 C0 0 dX7_call_49 rfl rfl rfl ?_
          refine z_get 53 C0 0 4 wz_7 rfl (by decide) (zTs_in wk_452) dX7_call_50 rfl rfl rfl ?_
          refine z_iload_n 54 C0 1 dX7_call_53 rfl rfl rfl ?_
          refine z_aald 55 C0 1 2 dX7_call_54 rfl rfl rfl rfl (by omega) (by decide) (v := .ref ra) (by rw [hoo]; rfl) ?_
          refine z_iload 57 C0 7 dX7_call_55 rfl rfl ?_
          refine z_ialdN 58 C0 2 (v := (nI 0)) dX7_call_57 rfl rfl (by omega) (by decide) hop ?_
          refine z_istore 60 C0 [1, 2, 3, 4, 5, 6, 7, 8, 9, 0] [(0, .ref y), (1, .int (nI p)), (2, .int a), (3, .int b), (4, .int d), (5, .int (nI of)), (6, .int (nI h)), (7, .int (nI i)), (8, .int (nI (P.length))), (9, .int (nI 0))] dX7_call_58 rfl (by decide) rfl ?_
          refine z_aload_n 61 C0 0 dX7_call_60 rfl rfl rfl ?_
          refine z_get 64 C0 0 5 wz_7 rfl (by decide) (zTs_in wk_453) dX7_call_61 rfl rfl rfl ?_
          refine z_iload_n 65 C0 1 dX7_call_64 rfl rfl rfl ?_
          refine z_aald 66 C0 3 2 dX7_call_65 rfl rfl rfl rfl (by omega) (by decide) (v := .ref rb) (by rw [hnu]; rfl) ?_
          refine z_iload 68 C0 7 dX7_call_66 rfl rfl ?_
          refine z_ialdN 69 C0 4 (v := (nn i)) dX7_call_68 rfl rfl (by omega) (by decide) rfl ?_
          refine z_istore 71 C0 [1, 2, 3, 4, 5, 6, 7, 8, 9, 10, 0] [(0, .ref y), (1, .int (nI p)), (2, .int a), (3, .int b), (4, .int d), (5, .int (nI of)), (6, .int (nI h)), (7, .int (nI i)), (8, .int (nI (P.length))), (9, .int (nI 0)), (10, .int (nn i))] dX7_call_69 rfl (by decide) rfl ?_
          refine z_iinc 74 C0 7 [1, 2, 3, 4, 5, 6, 7, 0, 8, 9, 10] [(0, .ref y), (1, .int (nI p)), (2, .int a), (3, .int b), (4, .int d), (5, .int (nI of)), (6, .int (nI h)), (7, .int (nI (i + 1))), (8, .int (nI (P.length))), (9, .int (nI 0)), (10, .int (nn i))] (v := (nI (i + 1))) dX7_call_71 rfl rfl (z_incN _ _) (by decide) rfl ?_
          refine z_iload 76 C0 9 dX7_call_74 rfl rfl ?_
          refine z_switch 168 C0 dX7_call_76 (by decide) (by decide) rfl (by decide) ?_
          refine z_aload_n 169 C0 0 dX7_call_168 rfl rfl rfl ?_
          refine z_get 172 C0 0 16 wz_7 rfl (by decide) (zTs_in wk_464) dX7_call_169 rfl rfl rfl ?_
          refine z_iload 174 C0 6 dX7_call_172 rfl rfl ?_
          refine z_iinc 177 C0 6 [1, 2, 3, 4, 5, 6, 0, 7, 8, 9, 10] [(0, .ref y), (1, .int (nI p)), (2, .int a), (3, .int b), (4, .int d), (5, .int (nI of)), (6, .int (nI (h + 1))), (7, .int (nI (i + 1))), (8, .int (nI (P.length))), (9, .int (nI 0)), (10, .int (nn i))] (v := (nI (h + 1))) dX7_call_174 rfl rfl (z_incN _ _) (by decide) rfl ?_
          refine z_iload 179 C0 10 dX7_call_177 rfl rfl ?_
          refine z_iastN 180 C0 8 [(y, zo 7 [.int (nI sz), .ref yrk, .ref yrv, .int (nI rn), .ref yop, .ref ynu, .ref yle, .ref yk, .ref yv, .ref ysp, .int (nI (prs + P.length)), .ref yxk, .ref yxv, .int (nI rs), .int err, .ref yto, .ref yst, .ref ylo, .int (nI (k + 1)), .int res, .int (nI 0)]), (yop, zg E 4 oo), (ra, zi E 64 op), (ynu, zg E 4 nu), (rb, zi E 64 nn), (yk, zi E 620 (rwK 620 prs kf P)), (yv, zi E 620 (rwV 620 prs vf P)), (ysp, zi E 620 (zn (rwS 620 prs sp of P))), (yst, zi E 8 (upd st h (nn i))), (ylo, zi E 4 lo)] dX7_call_179 rfl rfl (by omega) (by decide) rfl ?_
          refine z_goto 497 C0 dX7_call_180 (by decide) ?_
          refine z_goto 27 C0 dX7_call_497 (by decide) ?_
          refine z_loc [0, 1, 2, 3, 4, 5, 6, 7, 8] [(0, .ref y), (1, .int (nI p)), (2, .int a), (3, .int b), (4, .int d), (5, .int (nI of)), (6, .int (nI (h + 1))), (7, .int (nI (i + 1))), (8, .int (nI (P.length)))] rfl ?_
          exact ih27 (k + 1) fu (i + 1) (h + 1) lo (upd st h (nn i)) P (by omega) (hR.next ho ⟨by decide, by decide, by decide⟩) hP ((mRun_step hop (by decide) (by decide) (by decide) (fun q => absurd q.1 (by decide)) hcl).symm.trans hM) (by omega)
        · skip
          have hnd : 0 ≤ h := by have := ho.2.2.1; simpa [pNeed, nNeed] using this
          have hup : h + 1 - 0 ≤ 8 := ho.2.2.2
          obtain ⟨j, hj, hnn⟩ := ho.1.2.2.2.2.1 rfl
          have hj3 : j < 3 := by have := nArg_le p; omega
          have hcl : (nn i).toNatClampNeg = j := by rw [hnn]; exact nI_clamp (by omega)
          refine z_aload_n 50 C0 0 dX7_call_49 rfl rfl rfl ?_
          refine z_get 53 C0 0 4 wz_7 rfl (by decide) (zTs_in wk_452) dX7_call_50 rfl rfl rfl ?_
          refine z_iload_n 54 C0 1 dX7_call_53 rfl rfl rfl ?_
          refine z_aald 55 C0 1 2 dX7_call_54 rfl rfl rfl rfl (by omega) (by decide) (v := .ref ra) (by rw [hoo]; rfl) ?_
          refine z_iload 57 C0 7 dX7_call_55 rfl rfl ?_
          refine z_ialdN 58 C0 2 (v := (nI 1)) dX7_call_57 rfl rfl (by omega) (by decide) hop ?_
          refine z_istore 60 C0 [1, 2, 3, 4, 5, 6, 7, 8, 9, 0] [(0, .ref y), (1, .int (nI p)), (2, .int a), (3, .int b), (4, .int d), (5, .int (nI of)), (6, .int (nI h)), (7, .int (nI i)), (8, .int (nI (P.length))), (9, .int (nI 1))] dX7_call_58 rfl (by decide) rfl ?_
          refine z_aload_n 61 C0 0 dX7_call_60 rfl rfl rfl ?_
          refine z_get 64 C0 0 5 wz_7 rfl (by decide) (zTs_in wk_453) dX7_call_61 rfl rfl rfl ?_
          refine z_iload_n 65 C0 1 dX7_call_64 rfl rfl rfl ?_
          refine z_aald 66 C0 3 2 dX7_call_65 rfl rfl rfl rfl (by omega) (by decide) (v := .ref rb) (by rw [hnu]; rfl) ?_
          refine z_iload 68 C0 7 dX7_call_66 rfl rfl ?_
          refine z_ialdN 69 C0 4 (v := (nI j)) dX7_call_68 rfl rfl (by omega) (by decide) hnn ?_
          refine z_istore 71 C0 [1, 2, 3, 4, 5, 6, 7, 8, 9, 10, 0] [(0, .ref y), (1, .int (nI p)), (2, .int a), (3, .int b), (4, .int d), (5, .int (nI of)), (6, .int (nI h)), (7, .int (nI i)), (8, .int (nI (P.length))), (9, .int (nI 1)), (10, .int (nI j))] dX7_call_69 rfl (by decide) rfl ?_
          refine z_iinc 74 C0 7 [1, 2, 3, 4, 5, 6, 7, 0, 8, 9, 10] [(0, .ref y), (1, .int (nI p)), (2, .int a), (3, .int b), (4, .int d), (5, .int (nI of)), (6, .int (nI h)), (7, .int (nI (i + 1))), (8, .int (nI (P.length))), (9, .int (nI 1)), (10, .int (nI j))] (v := (nI (i + 1))) dX7_call_71 rfl rfl (z_incN _ _) (by decide) rfl ?_
          refine z_iload 76 C0 9 dX7_call_74 rfl rfl ?_
          refine z_switch 183 C0 dX7_call_76 (by decide) (by decide) rfl (by decide) ?_
          refine z_aload_n 184 C0 0 dX7_call_183 rfl rfl rfl ?_
          refine z_get 187 C0 0 16 wz_7 rfl (by decide) (zTs_in wk_464) dX7_call_184 rfl rfl rfl ?_
          refine z_iload 189 C0 6 dX7_call_187 rfl rfl ?_
          refine z_iinc 192 C0 6 [1, 2, 3, 4, 5, 6, 0, 7, 8, 9, 10] [(0, .ref y), (1, .int (nI p)), (2, .int a), (3, .int b), (4, .int d), (5, .int (nI of)), (6, .int (nI (h + 1))), (7, .int (nI (i + 1))), (8, .int (nI (P.length))), (9, .int (nI 1)), (10, .int (nI j))] (v := (nI (h + 1))) dX7_call_189 rfl rfl (z_incN _ _) (by decide) rfl ?_
          refine z_iload 194 C0 10 dX7_call_192 rfl rfl ?_
          refine z_if_neN 197 201 C0 (by omega) dX7_call_194 rfl (by decide) (fun k194 => ?_) (fun k194 => ?_)
          · skip
            refine z_iload 203 C0 10 dX7_call_201 rfl rfl ?_
            refine z_iconst 204 C0 (v := (nI 1)) dX7_call_203 rfl rfl ?_
            refine z_icmp_neN 207 211 C0 (by omega) (by decide) dX7_call_204 rfl (by decide) (fun k204 => ?_) (fun k204 => ?_)
            · skip
              refine z_iload 213 C0 4 dX7_call_211 rfl rfl ?_
              refine z_eq (L1 := [(0, .ref y), (1, .int (nI p)), (2, .int a), (3, .int b), (4, .int d), (5, .int (nI of)), (6, .int (nI (h + 1))), (7, .int (nI (i + 1))), (8, .int (nI (P.length))), (9, .int (nI 1)), (10, .int (nI j))]) (st1 := [.int (argV a b d j), .int (nI h), .ref yst]) (w1 := [(y, zo 7 [.int (nI sz), .ref yrk, .ref yrv, .int (nI rn), .ref yop, .ref ynu, .ref yle, .ref yk, .ref yv, .ref ysp, .int (nI (prs + P.length)), .ref yxk, .ref yxv, .int (nI rs), .int err, .ref yto, .ref yst, .ref ylo, .int (nI (k + 1)), .int res, .int (nI 0)]), (yop, zg E 4 oo), (ra, zi E 64 op), (ynu, zg E 4 nu), (rb, zi E 64 nn), (yk, zi E 620 (rwK 620 prs kf P)), (yv, zi E 620 (rwV 620 prs vf P)), (ysp, zi E 620 (zn (rwS 620 prs sp of P))), (yst, zi E 8 st), (ylo, zi E 4 lo)]) rfl (by unfold argV; first | rw [if_pos k194] | rw [if_neg k194, if_pos k204] | rw [if_neg k194, if_neg k204]) rfl ?_
              refine z_iastN 214 C0 8 [(y, zo 7 [.int (nI sz), .ref yrk, .ref yrv, .int (nI rn), .ref yop, .ref ynu, .ref yle, .ref yk, .ref yv, .ref ysp, .int (nI (prs + P.length)), .ref yxk, .ref yxv, .int (nI rs), .int err, .ref yto, .ref yst, .ref ylo, .int (nI (k + 1)), .int res, .int (nI 0)]), (yop, zg E 4 oo), (ra, zi E 64 op), (ynu, zg E 4 nu), (rb, zi E 64 nn), (yk, zi E 620 (rwK 620 prs kf P)), (yv, zi E 620 (rwV 620 prs vf P)), (ysp, zi E 620 (zn (rwS 620 prs sp of P))), (yst, zi E 8 (upd st h (argV a b d j))), (ylo, zi E 4 lo)] dX7_call_213 rfl rfl (by omega) (by decide) rfl ?_
              refine z_goto 497 C0 dX7_call_214 (by decide) ?_
              refine z_goto 27 C0 dX7_call_497 (by decide) ?_
              refine z_loc [0, 1, 2, 3, 4, 5, 6, 7, 8] [(0, .ref y), (1, .int (nI p)), (2, .int a), (3, .int b), (4, .int d), (5, .int (nI of)), (6, .int (nI (h + 1))), (7, .int (nI (i + 1))), (8, .int (nI (P.length)))] rfl ?_
              exact ih27 (k + 1) fu (i + 1) (h + 1) lo (upd st h (argV a b d j)) P (by omega) (hR.next ho ⟨by decide, by decide, by decide⟩) hP ((mRun_step hop (by decide) (by decide) (by decide) (fun q => absurd q.1 (by decide)) hcl).symm.trans hM) (by omega)
            · skip
              refine z_iload_n 208 C0 3 dX7_call_207 rfl rfl rfl ?_
              refine z_goto 213 C0 dX7_call_208 (by decide) ?_
              refine z_eq (L1 := [(0, .ref y), (1, .int (nI p)), (2, .int a), (3, .int b), (4, .int d), (5, .int (nI of)), (6, .int (nI (h + 1))), (7, .int (nI (i + 1))), (8, .int (nI (P.length))), (9, .int (nI 1)), (10, .int (nI j))]) (st1 := [.int (argV a b d j), .int (nI h), .ref yst]) (w1 := [(y, zo 7 [.int (nI sz), .ref yrk, .ref yrv, .int (nI rn), .ref yop, .ref ynu, .ref yle, .ref yk, .ref yv, .ref ysp, .int (nI (prs + P.length)), .ref yxk, .ref yxv, .int (nI rs), .int err, .ref yto, .ref yst, .ref ylo, .int (nI (k + 1)), .int res, .int (nI 0)]), (yop, zg E 4 oo), (ra, zi E 64 op), (ynu, zg E 4 nu), (rb, zi E 64 nn), (yk, zi E 620 (rwK 620 prs kf P)), (yv, zi E 620 (rwV 620 prs vf P)), (ysp, zi E 620 (zn (rwS 620 prs sp of P))), (yst, zi E 8 st), (ylo, zi E 4 lo)]) rfl (by unfold argV; first | rw [if_pos k194] | rw [if_neg k194, if_pos k204] | rw [if_neg k194, if_neg k204]) rfl ?_
              refine z_iastN 214 C0 8 [(y, zo 7 [.int (nI sz), .ref yrk, .ref yrv, .int (nI rn), .ref yop, .ref ynu, .ref yle, .ref yk, .ref yv, .ref ysp, .int (nI (prs + P.length)), .ref yxk, .ref yxv, .int (nI rs), .int err, .ref yto, .ref yst, .ref ylo, .int (nI (k + 1)), .int res, .int (nI 0)]), (yop, zg E 4 oo), (ra, zi E 64 op), (ynu, zg E 4 nu), (rb, zi E 64 nn), (yk, zi E 620 (rwK 620 prs kf P)), (yv, zi E 620 (rwV 620 prs vf P)), (ysp, zi E 620 (zn (rwS 620 prs sp of P))), (yst, zi E 8 (upd st h (argV a b d j))), (ylo, zi E 4 lo)] dX7_call_213 rfl rfl (by omega) (by decide) rfl ?_
              refine z_goto 497 C0 dX7_call_214 (by decide) ?_
              refine z_goto 27 C0 dX7_call_497 (by decide) ?_
              refine z_loc [0, 1, 2, 3, 4, 5, 6, 7, 8] [(0, .ref y), (1, .int (nI p)), (2, .int a), (3, .int b), (4, .int d), (5, .int (nI of)), (6, .int (nI (h + 1))), (7, .int (nI (i + 1))), (8, .int (nI (P.length)))] rfl ?_
              exact ih27 (k + 1) fu (i + 1) (h + 1) lo (upd st h (argV a b d j)) P (by omega) (hR.next ho ⟨by decide, by decide, by decide⟩) hP ((mRun_step hop (by decide) (by decide) (by decide) (fun q => absurd q.1 (by decide)) hcl).symm.trans hM) (by omega)
          · skip
            refine z_iload_n 198 C0 2 dX7_call_197 rfl rfl rfl ?_
            refine z_goto 213 C0 dX7_call_198 (by decide) ?_
            refine z_eq (L1 := [(0, .ref y), (1, .int (nI p)), (2, .int a), (3, .int b), (4, .int d), (5, .int (nI of)), (6, .int (nI (h + 1))), (7, .int (nI (i + 1))), (8, .int (nI (P.length))), (9, .int (nI 1)), (10, .int (nI j))]) (st1 := [.int (argV a b d j), .int (nI h), .ref yst]) (w1 := [(y, zo 7 [.int (nI sz), .ref yrk, .ref yrv, .int (nI rn), .ref yop, .ref ynu, .ref yle, .ref yk, .ref yv, .ref ysp, .int (nI (prs + P.length)), .ref yxk, .ref yxv, .int (nI rs), .int err, .ref yto, .ref yst, .ref ylo, .int (nI (k + 1)), .int res, .int (nI 0)]), (yop, zg E 4 oo), (ra, zi E 64 op), (ynu, zg E 4 nu), (rb, zi E 64 nn), (yk, zi E 620 (rwK 620 prs kf P)), (yv, zi E 620 (rwV 620 prs vf P)), (ysp, zi E 620 (zn (rwS 620 prs sp of P))), (yst, zi E 8 st), (ylo, zi E 4 lo)]) rfl (by unfold argV; first | rw [if_pos k194] | rw [if_neg k194, if_pos k204] | rw [if_neg k194, if_neg k204]) rfl ?_
            refine z_iastN 214 C0 8 [(y, zo 7 [.int (nI sz), .ref yrk, .ref yrv, .int (nI rn), .ref yop, .ref ynu, .ref yle, .ref yk, .ref yv, .ref ysp, .int (nI (prs + P.length)), .ref yxk, .ref yxv, .int (nI rs), .int err, .ref yto, .ref yst, .ref ylo, .int (nI (k + 1)), .int res, .int (nI 0)]), (yop, zg E 4 oo), (ra, zi E 64 op), (ynu, zg E 4 nu), (rb, zi E 64 nn), (yk, zi E 620 (rwK 620 prs kf P)), (yv, zi E 620 (rwV 620 prs vf P)), (ysp, zi E 620 (zn (rwS 620 prs sp of P))), (yst, zi E 8 (upd st h (argV a b d j))), (ylo, zi E 4 lo)] dX7_call_213 rfl rfl (by omega) (by decide) rfl ?_
            refine z_goto 497 C0 dX7_call_214 (by decide) ?_
            refine z_goto 27 C0 dX7_call_497 (by decide) ?_
            refine z_loc [0, 1, 2, 3, 4, 5, 6, 7, 8] [(0, .ref y), (1, .int (nI p)), (2, .int a), (3, .int b), (4, .int d), (5, .int (nI of)), (6, .int (nI (h + 1))), (7, .int (nI (i + 1))), (8, .int (nI (P.length)))] rfl ?_
            exact ih27 (k + 1) fu (i + 1) (h + 1) lo (upd st h (argV a b d j)) P (by omega) (hR.next ho ⟨by decide, by decide, by decide⟩) hP ((mRun_step hop (by decide) (by decide) (by decide) (fun q => absurd q.1 (by decide)) hcl).symm.trans hM) (by omega)
        · skip
          have hnd : 0 ≤ h := by have := ho.2.2.1; simpa [pNeed, nNeed] using this
          have hup : h + 1 - 0 ≤ 8 := ho.2.2.2
          obtain ⟨j, hj, hnn⟩ := ho.1.2.2.2.2.2.1 (by omega)
          have hcl : (nn i).toNatClampNeg = j := by rw [hnn]; exact nI_clamp (by omega)
          refine z_aload_n 50 C0 0 dX7_call_49 rfl rfl rfl ?_
          refine z_get 53 C0 0 4 wz_7 rfl (by decide) (zTs_in wk_452) dX7_call_50 rfl rfl rfl ?_
          refine z_iload_n 54 C0 1 dX7_call_53 rfl rfl rfl ?_
          refine z_aald 55 C0 1 2 dX7_call_54 rfl rfl rfl rfl (by omega) (by decide) (v := .ref ra) (by rw [hoo]; rfl) ?_
          refine z_iload 57 C0 7 dX7_call_55 rfl rfl ?_
          refine z_ialdN 58 C0 2 (v := (nI 2)) dX7_call_57 rfl rfl (by omega) (by decide) hop ?_
          refine z_istore 60 C0 [1, 2, 3, 4, 5, 6, 7, 8, 9, 0] [(0, .ref y), (1, .int (nI p)), (2, .int a), (3, .int b), (4, .int d), (5, .int (nI of)), (6, .int (nI h)), (7, .int (nI i)), (8, .int (nI (P.length))), (9, .int (nI 2))] dX7_call_58 rfl (by decide) rfl ?_
          refine z_aload_n 61 C0 0 dX7_call_60 rfl rfl rfl ?_
          refine z_get 64 C0 0 5 wz_7 rfl (by decide) (zTs_in wk_453) dX7_call_61 rfl rfl rfl ?_
          refine z_iload_n 65 C0 1 dX7_call_64 rfl rfl rfl ?_
          refine z_aald 66 C0 3 2 dX7_call_65 rfl rfl rfl rfl (by omega) (by decide) (v := .ref rb) (by rw [hnu]; rfl) ?_
          refine z_iload 68 C0 7 dX7_call_66 rfl rfl ?_
          refine z_ialdN 69 C0 4 (v := (nI j)) dX7_call_68 rfl rfl (by omega) (by decide) hnn ?_
          refine z_istore 71 C0 [1, 2, 3, 4, 5, 6, 7, 8, 9, 10, 0] [(0, .ref y), (1, .int (nI p)), (2, .int a), (3, .int b), (4, .int d), (5, .int (nI of)), (6, .int (nI h)), (7, .int (nI i)), (8, .int (nI (P.length))), (9, .int (nI 2)), (10, .int (nI j))] dX7_call_69 rfl (by decide) rfl ?_
          refine z_iinc 74 C0 7 [1, 2, 3, 4, 5, 6, 7, 0, 8, 9, 10] [(0, .ref y), (1, .int (nI p)), (2, .int a), (3, .int b), (4, .int d), (5, .int (nI of)), (6, .int (nI h)), (7, .int (nI (i + 1))), (8, .int (nI (P.length))), (9, .int (nI 2)), (10, .int (nI j))] (v := (nI (i + 1))) dX7_call_71 rfl rfl (z_incN _ _) (by decide) rfl ?_
          refine z_iload 76 C0 9 dX7_call_74 rfl rfl ?_
          refine z_switch 217 C0 dX7_call_76 (by decide) (by decide) rfl (by decide) ?_
          refine z_aload_n 218 C0 0 dX7_call_217 rfl rfl rfl ?_
          refine z_get 221 C0 0 16 wz_7 rfl (by decide) (zTs_in wk_464) dX7_call_218 rfl rfl rfl ?_
          refine z_iload 223 C0 6 dX7_call_221 rfl rfl ?_
          refine z_iinc 226 C0 6 [1, 2, 3, 4, 5, 6, 0, 7, 8, 9, 10] [(0, .ref y), (1, .int (nI p)), (2, .int a), (3, .int b), (4, .int d), (5, .int (nI of)), (6, .int (nI (h + 1))), (7, .int (nI (i + 1))), (8, .int (nI (P.length))), (9, .int (nI 2)), (10, .int (nI j))] (v := (nI (h + 1))) dX7_call_223 rfl rfl (z_incN _ _) (by decide) rfl ?_
          refine z_aload_n 227 C0 0 dX7_call_226 rfl rfl rfl ?_
          refine z_get 230 C0 0 17 wz_7 rfl (by decide) (zTs_in wk_465) dX7_call_227 rfl rfl rfl ?_
          refine z_iload 232 C0 10 dX7_call_230 rfl rfl ?_
          refine z_ialdN 233 C0 9 (v := (lo j)) dX7_call_232 rfl rfl (by omega) (by decide) rfl ?_
          refine z_iastN 234 C0 8 [(y, zo 7 [.int (nI sz), .ref yrk, .ref yrv, .int (nI rn), .ref yop, .ref ynu, .ref yle, .ref yk, .ref yv, .ref ysp, .int (nI (prs + P.length)), .ref yxk, .ref yxv, .int (nI rs), .int err, .ref yto, .ref yst, .ref ylo, .int (nI (k + 1)), .int res, .int (nI 0)]), (yop, zg E 4 oo), (ra, zi E 64 op), (ynu, zg E 4 nu), (rb, zi E 64 nn), (yk, zi E 620 (rwK 620 prs kf P)), (yv, zi E 620 (rwV 620 prs vf P)), (ysp, zi E 620 (zn (rwS 620 prs sp of P))), (yst, zi E 8 (upd st h (lo j))), (ylo, zi E 4 lo)] dX7_call_233 rfl rfl (by omega) (by decide) rfl ?_
          refine z_goto 497 C0 dX7_call_234 (by decide) ?_
          refine z_goto 27 C0 dX7_call_497 (by decide) ?_
          refine z_loc [0, 1, 2, 3, 4, 5, 6, 7, 8] [(0, .ref y), (1, .int (nI p)), (2, .int a), (3, .int b), (4, .int d), (5, .int (nI of)), (6, .int (nI (h + 1))), (7, .int (nI (i + 1))), (8, .int (nI (P.length)))] rfl ?_
          exact ih27 (k + 1) fu (i + 1) (h + 1) lo (upd st h (lo j)) P (by omega) (hR.next ho ⟨by decide, by decide, by decide⟩) hP ((mRun_step hop (by decide) (by decide) (by decide) (fun q => absurd q.1 (by decide)) hcl).symm.trans hM) (by omega)
        · skip
          have hnd : 1 ≤ h := by have := ho.2.2.1; simpa [pNeed, nNeed] using this
          have hup : h + 0 - 1 ≤ 8 := ho.2.2.2
          obtain ⟨j, hj, hnn⟩ := ho.1.2.2.2.2.2.1 (by omega)
          have hcl : (nn i).toNatClampNeg = j := by rw [hnn]; exact nI_clamp (by omega)
          refine z_aload_n 50 C0 0 dX7_call_49 rfl rfl rfl ?_
          refine z_get 53 C0 0 4 wz_7 rfl (by decide) (zTs_in wk_452) dX7_call_50 rfl rfl rfl ?_
          refine z_iload_n 54 C0 1 dX7_call_53 rfl rfl rfl ?_
          refine z_aald 55 C0 1 2 dX7_call_54 rfl rfl rfl rfl (by omega) (by decide) (v := .ref ra) (by rw [hoo]; rfl) ?_
          refine z_iload 57 C0 7 dX7_call_55 rfl rfl ?_
          refine z_ialdN 58 C0 2 (v := (nI 3)) dX7_call_57 rfl rfl (by omega) (by decide) hop ?_
          refine z_istore 60 C0 [1, 2, 3, 4, 5, 6, 7, 8, 9, 0] [(0, .ref y), (1, .int (nI p)), (2, .int a), (3, .int b), (4, .int d), (5, .int (nI of)), (6, .int (nI h)), (7, .int (nI i)), (8, .int (nI (P.length))), (9, .int (nI 3))] dX7_call_58 rfl (by decide) rfl ?_
          refine z_aload_n 61 C0 0 dX7_call_60 rfl rfl rfl ?_
          refine z_get 64 C0 0 5 wz_7 rfl (by decide) (zTs_in wk_453) dX7_call_61 rfl rfl rfl ?_
          refine z_iload_n 65 C0 1 dX7_call_64 rfl rfl rfl ?_
          refine z_aald 66 C0 3 2 dX7_call_65 rfl rfl rfl rfl (by omega) (by decide) (v := .ref rb) (by rw [hnu]; rfl) ?_
          refine z_iload 68 C0 7 dX7_call_66 rfl rfl ?_
          refine z_ialdN 69 C0 4 (v := (nI j)) dX7_call_68 rfl rfl (by omega) (by decide) hnn ?_
          refine z_istore 71 C0 [1, 2, 3, 4, 5, 6, 7, 8, 9, 10, 0] [(0, .ref y), (1, .int (nI p)), (2, .int a), (3, .int b), (4, .int d), (5, .int (nI of)), (6, .int (nI h)), (7, .int (nI i)), (8, .int (nI (P.length))), (9, .int (nI 3)), (10, .int (nI j))] dX7_call_69 rfl (by decide) rfl ?_
          refine z_iinc 74 C0 7 [1, 2, 3, 4, 5, 6, 7, 0, 8, 9, 10] [(0, .ref y), (1, .int (nI p)), (2, .int a), (3, .int b), (4, .int d), (5, .int (nI of)), (6, .int (nI h)), (7, .int (nI (i + 1))), (8, .int (nI (P.length))), (9, .int (nI 3)), (10, .int (nI j))] (v := (nI (i + 1))) dX7_call_71 rfl rfl (z_incN _ _) (by decide) rfl ?_
          refine z_iload 76 C0 9 dX7_call_74 rfl rfl ?_
          refine z_switch 237 C0 dX7_call_76 (by decide) (by decide) rfl (by decide) ?_
          refine z_aload_n 238 C0 0 dX7_call_237 rfl rfl rfl ?_
          refine z_get 241 C0 0 17 wz_7 rfl (by decide) (zTs_in wk_465) dX7_call_238 rfl rfl rfl ?_
          refine z_iload 243 C0 10 dX7_call_241 rfl rfl ?_
          refine z_aload_n 244 C0 0 dX7_call_243 rfl rfl rfl ?_
          refine z_get 247 C0 0 16 wz_7 rfl (by decide) (zTs_in wk_464) dX7_call_244 rfl rfl rfl ?_
          refine z_iinc 250 C0 6 [1, 2, 3, 4, 5, 6, 0, 7, 8, 9, 10] [(0, .ref y), (1, .int (nI p)), (2, .int a), (3, .int b), (4, .int d), (5, .int (nI of)), (6, .int (nI (h - 1))), (7, .int (nI (i + 1))), (8, .int (nI (P.length))), (9, .int (nI 3)), (10, .int (nI j))] (v := (nI (h - 1))) dX7_call_247 rfl rfl (z_decC (a := h) (c := 1) (b := (h - 1)) (by omega) (by omega)) (by decide) rfl ?_
          refine z_iload 252 C0 6 dX7_call_250 rfl rfl ?_
          refine z_ialdN 253 C0 8 (v := (st (h - 1))) dX7_call_252 rfl rfl (by omega) (by decide) rfl ?_
          refine z_iastN 254 C0 9 [(y, zo 7 [.int (nI sz), .ref yrk, .ref yrv, .int (nI rn), .ref yop, .ref ynu, .ref yle, .ref yk, .ref yv, .ref ysp, .int (nI (prs + P.length)), .ref yxk, .ref yxv, .int (nI rs), .int err, .ref yto, .ref yst, .ref ylo, .int (nI (k + 1)), .int res, .int (nI 0)]), (yop, zg E 4 oo), (ra, zi E 64 op), (ynu, zg E 4 nu), (rb, zi E 64 nn), (yk, zi E 620 (rwK 620 prs kf P)), (yv, zi E 620 (rwV 620 prs vf P)), (ysp, zi E 620 (zn (rwS 620 prs sp of P))), (yst, zi E 8 st), (ylo, zi E 4 (upd lo j (st (h - 1))))] dX7_call_253 rfl rfl (by omega) (by decide) rfl ?_
          refine z_goto 497 C0 dX7_call_254 (by decide) ?_
          refine z_goto 27 C0 dX7_call_497 (by decide) ?_
          refine z_loc [0, 1, 2, 3, 4, 5, 6, 7, 8] [(0, .ref y), (1, .int (nI p)), (2, .int a), (3, .int b), (4, .int d), (5, .int (nI of)), (6, .int (nI (h - 1))), (7, .int (nI (i + 1))), (8, .int (nI (P.length)))] rfl ?_
          exact ih27 (k + 1) fu (i + 1) (h - 1) (upd lo j (st (h - 1))) st P (by omega) (hR.next ho ⟨by decide, by decide, by decide⟩) hP ((mRun_step hop (by decide) (by decide) (by decide) (fun q => absurd q.1 (by decide)) hcl).symm.trans hM) (by omega)
        · skip
          have hnd : 1 ≤ h := by have := ho.2.2.1; simpa [pNeed, nNeed] using this
          have hup : h + 1 - 0 ≤ 8 := ho.2.2.2
          have hcl : (nn i).toNatClampNeg = (nn i).toNatClampNeg := rfl
          refine z_aload_n 50 C0 0 dX7_call_49 rfl rfl rfl ?_
          refine z_get 53 C0 0 4 wz_7 rfl (by decide) (zTs_in wk_452) dX7_call_50 rfl rfl rfl ?_
          refine z_iload_n 54 C0 1 dX7_call_53 rfl rfl rfl ?_
          refine z_aald 55 C0 1 2 dX7_call_54 rfl rfl rfl rfl (by omega) (by decide) (v := .ref ra) (by rw [hoo]; rfl) ?_
          refine z_iload 57 C0 7 dX7_call_55 rfl rfl ?_
          refine z_ialdN 58 C0 2 (v := (nI 4)) dX7_call_57 rfl rfl (by omega) (by decide) hop ?_
          refine z_istore 60 C0 [1, 2, 3, 4, 5, 6, 7, 8, 9, 0] [(0, .ref y), (1, .int (nI p)), (2, .int a), (3, .int b), (4, .int d), (5, .int (nI of)), (6, .int (nI h)), (7, .int (nI i)), (8, .int (nI (P.length))), (9, .int (nI 4))] dX7_call_58 rfl (by decide) rfl ?_
          refine z_aload_n 61 C0 0 dX7_call_60 rfl rfl rfl ?_
          refine z_get 64 C0 0 5 wz_7 rfl (by decide) (zTs_in wk_453) dX7_call_61 rfl rfl rfl ?_
          refine z_iload_n 65 C0 1 dX7_call_64 rfl rfl rfl ?_
          refine z_aald 66 C0 3 2 dX7_call_65 rfl rfl rfl rfl (by omega) (by decide) (v := .ref rb) (by rw [hnu]; rfl) ?_
          refine z_iload 68 C0 7 dX7_call_66 rfl rfl ?_
          refine z_ialdN 69 C0 4 (v := (nn i)) dX7_call_68 rfl rfl (by omega) (by decide) rfl ?_
          refine z_istore 71 C0 [1, 2, 3, 4, 5, 6, 7, 8, 9, 10, 0] [(0, .ref y), (1, .int (nI p)), (2, .int a), (3, .int b), (4, .int d), (5, .int (nI of)), (6, .int (nI h)), (7, .int (nI i)), (8, .int (nI (P.length))), (9, .int (nI 4)), (10, .int (nn i))] dX7_call_69 rfl (by decide) rfl ?_
          refine z_iinc 74 C0 7 [1, 2, 3, 4, 5, 6, 7, 0, 8, 9, 10] [(0, .ref y), (1, .int (nI p)), (2, .int a), (3, .int b), (4, .int d), (5, .int (nI of)), (6, .int (nI h)), (7, .int (nI (i + 1))), (8, .int (nI (P.length))), (9, .int (nI 4)), (10, .int (nn i))] (v := (nI (i + 1))) dX7_call_71 rfl rfl (z_incN _ _) (by decide) rfl ?_
          refine z_iload 76 C0 9 dX7_call_74 rfl rfl ?_
          refine z_switch 257 C0 dX7_call_76 (by decide) (by decide) rfl (by decide) ?_
          refine z_aload_n 258 C0 0 dX7_call_257 rfl rfl rfl ?_
          refine z_get 261 C0 0 16 wz_7 rfl (by decide) (zTs_in wk_464) dX7_call_258 rfl rfl rfl ?_
          refine z_iload 263 C0 6 dX7_call_261 rfl rfl ?_
          refine z_aload_n 264 C0 0 dX7_call_263 rfl rfl rfl ?_
          refine z_get 267 C0 0 16 wz_7 rfl (by decide) (zTs_in wk_464) dX7_call_264 rfl rfl rfl ?_
          refine z_iload 269 C0 6 dX7_call_267 rfl rfl ?_
          refine z_iconst 270 C0 (v := (nI 1)) dX7_call_269 rfl rfl ?_
          refine z_isub 271 C0 (v := (nI (h - 1))) dX7_call_270 rfl (z_subN (by omega)) ?_
          refine z_ialdN 272 C0 8 (v := (st (h - 1))) dX7_call_271 rfl rfl (by omega) (by decide) rfl ?_
          refine z_iastN 273 C0 8 [(y, zo 7 [.int (nI sz), .ref yrk, .ref yrv, .int (nI rn), .ref yop, .ref ynu, .ref yle, .ref yk, .ref yv, .ref ysp, .int (nI (prs + P.length)), .ref yxk, .ref yxv, .int (nI rs), .int err, .ref yto, .ref yst, .ref ylo, .int (nI (k + 1)), .int res, .int (nI 0)]), (yop, zg E 4 oo), (ra, zi E 64 op), (ynu, zg E 4 nu), (rb, zi E 64 nn), (yk, zi E 620 (rwK 620 prs kf P)), (yv, zi E 620 (rwV 620 prs vf P)), (ysp, zi E 620 (zn (rwS 620 prs sp of P))), (yst, zi E 8 (upd st h (st (h - 1)))), (ylo, zi E 4 lo)] dX7_call_272 rfl rfl (by omega) (by decide) rfl ?_
          refine z_iinc 276 C0 6 [1, 2, 3, 4, 5, 6, 0, 7, 8, 9, 10] [(0, .ref y), (1, .int (nI p)), (2, .int a), (3, .int b), (4, .int d), (5, .int (nI of)), (6, .int (nI (h + 1))), (7, .int (nI (i + 1))), (8, .int (nI (P.length))), (9, .int (nI 4)), (10, .int (nn i))] (v := (nI (h + 1))) dX7_call_273 rfl rfl (z_incN _ _) (by decide) rfl ?_
          refine z_goto 497 C0 dX7_call_276 (by decide) ?_
          refine z_goto 27 C0 dX7_call_497 (by decide) ?_
          refine z_loc [0, 1, 2, 3, 4, 5, 6, 7, 8] [(0, .ref y), (1, .int (nI p)), (2, .int a), (3, .int b), (4, .int d), (5, .int (nI of)), (6, .int (nI (h + 1))), (7, .int (nI (i + 1))), (8, .int (nI (P.length)))] rfl ?_
          exact ih27 (k + 1) fu (i + 1) (h + 1) lo (upd st h (st (h - 1))) P (by omega) (hR.next ho ⟨by decide, by decide, by decide⟩) hP ((mRun_step hop (by decide) (by decide) (by decide) (fun q => absurd q.1 (by decide)) hcl).symm.trans hM) (by omega)
        · skip
          have hnd : 2 ≤ h := by have := ho.2.2.1; simpa [pNeed, nNeed] using this
          have hup : h + 0 - 0 ≤ 8 := ho.2.2.2
          have hcl : (nn i).toNatClampNeg = (nn i).toNatClampNeg := rfl
          refine z_aload_n 50 C0 0 dX7_call_49 rfl rfl rfl ?_
          refine z_get 53 C0 0 4 wz_7 rfl (by decide) (zTs_in wk_452) dX7_call_50 rfl rfl rfl ?_
          refine z_iload_n 54 C0 1 dX7_call_53 rfl rfl rfl ?_
          refine z_aald 55 C0 1 2 dX7_call_54 rfl rfl rfl rfl (by omega) (by decide) (v := .ref ra) (by rw [hoo]; rfl) ?_
          refine z_iload 57 C0 7 dX7_call_55 rfl rfl ?_
          refine z_ialdN 58 C0 2 (v := (nI 5)) dX7_call_57 rfl rfl (by omega) (by decide) hop ?_
          refine z_istore 60 C0 [1, 2, 3, 4, 5, 6, 7, 8, 9, 0] [(0, .ref y), (1, .int (nI p)), (2, .int a), (3, .int b), (4, .int d), (5, .int (nI of)), (6, .int (nI h)), (7, .int (nI i)), (8, .int (nI (P.length))), (9, .int (nI 5))] dX7_call_58 rfl (by decide) rfl ?_
          refine z_aload_n 61 C0 0 dX7_call_60 rfl rfl rfl ?_
          refine z_get 64 C0 0 5 wz_7 rfl (by decide) (zTs_in wk_453) dX7_call_61 rfl rfl rfl ?_
          refine z_iload_n 65 C0 1 dX7_call_64 rfl rfl rfl ?_
          refine z_aald 66 C0 3 2 dX7_call_65 rfl rfl rfl rfl (by omega) (by decide) (v := .ref rb) (by rw [hnu]; rfl) ?_
          refine z_iload 68 C0 7 dX7_call_66 rfl rfl ?_
          refine z_ialdN 69 C0 4 (v := (nn i)) dX7_call_68 rfl rfl (by omega) (by decide) rfl ?_
          refine z_istore 71 C0 [1, 2, 3, 4, 5, 6, 7, 8, 9, 10, 0] [(0, .ref y), (1, .int (nI p)), (2, .int a), (3, .int b), (4, .int d), (5, .int (nI of)), (6, .int (nI h)), (7, .int (nI i)), (8, .int (nI (P.length))), (9, .int (nI 5)), (10, .int (nn i))] dX7_call_69 rfl (by decide) rfl ?_
          refine z_iinc 74 C0 7 [1, 2, 3, 4, 5, 6, 7, 0, 8, 9, 10] [(0, .ref y), (1, .int (nI p)), (2, .int a), (3, .int b), (4, .int d), (5, .int (nI of)), (6, .int (nI h)), (7, .int (nI (i + 1))), (8, .int (nI (P.length))), (9, .int (nI 5)), (10, .int (nn i))] (v := (nI (i + 1))) dX7_call_71 rfl rfl (z_incN _ _) (by decide) rfl ?_
          refine z_iload 76 C0 9 dX7_call_74 rfl rfl ?_
          refine z_switch 279 C0 dX7_call_76 (by decide) (by decide) rfl (by decide) ?_
          refine z_aload_n 280 C0 0 dX7_call_279 rfl rfl rfl ?_
          refine z_get 283 C0 0 16 wz_7 rfl (by decide) (zTs_in wk_464) dX7_call_280 rfl rfl rfl ?_
          refine z_iload 285 C0 6 dX7_call_283 rfl rfl ?_
          refine z_iconst 286 C0 (v := (nI 1)) dX7_call_285 rfl rfl ?_
          refine z_isub 287 C0 (v := (nI (h - 1))) dX7_call_286 rfl (z_subN (by omega)) ?_
          refine z_ialdN 288 C0 8 (v := (st (h - 1))) dX7_call_287 rfl rfl (by omega) (by decide) rfl ?_
          refine z_istore 290 C0 [1, 2, 3, 4, 5, 6, 7, 8, 9, 10, 11, 0] [(0, .ref y), (1, .int (nI p)), (2, .int a), (3, .int b), (4, .int d), (5, .int (nI of)), (6, .int (nI h)), (7, .int (nI (i + 1))), (8, .int (nI (P.length))), (9, .int (nI 5)), (10, .int (nn i)), (11, .int (st (h - 1)))] dX7_call_288 rfl (by decide) rfl ?_
          refine z_aload_n 291 C0 0 dX7_call_290 rfl rfl rfl ?_
          refine z_get 294 C0 0 16 wz_7 rfl (by decide) (zTs_in wk_464) dX7_call_291 rfl rfl rfl ?_
          refine z_iload 296 C0 6 dX7_call_294 rfl rfl ?_
          refine z_iconst 297 C0 (v := (nI 1)) dX7_call_296 rfl rfl ?_
          refine z_isub 298 C0 (v := (nI (h - 1))) dX7_call_297 rfl (z_subN (by omega)) ?_
          refine z_aload_n 299 C0 0 dX7_call_298 rfl rfl rfl ?_
          refine z_get 302 C0 0 16 wz_7 rfl (by decide) (zTs_in wk_464) dX7_call_299 rfl rfl rfl ?_
          refine z_iload 304 C0 6 dX7_call_302 rfl rfl ?_
          refine z_iconst 305 C0 (v := (nI 2)) dX7_call_304 rfl rfl ?_
          refine z_isub 306 C0 (v := (nI (h - 2))) dX7_call_305 rfl (z_subN (by omega)) ?_
          refine z_ialdN 307 C0 8 (v := (st (h - 2))) dX7_call_306 rfl rfl (by omega) (by decide) rfl ?_
          refine z_iastN 308 C0 8 [(y, zo 7 [.int (nI sz), .ref yrk, .ref yrv, .int (nI rn), .ref yop, .ref ynu, .ref yle, .ref yk, .ref yv, .ref ysp, .int (nI (prs + P.length)), .ref yxk, .ref yxv, .int (nI rs), .int err, .ref yto, .ref yst, .ref ylo, .int (nI (k + 1)), .int res, .int (nI 0)]), (yop, zg E 4 oo), (ra, zi E 64 op), (ynu, zg E 4 nu), (rb, zi E 64 nn), (yk, zi E 620 (rwK 620 prs kf P)), (yv, zi E 620 (rwV 620 prs vf P)), (ysp, zi E 620 (zn (rwS 620 prs sp of P))), (yst, zi E 8 (upd st (h - 1) (st (h - 2)))), (ylo, zi E 4 lo)] dX7_call_307 rfl rfl (by omega) (by decide) rfl ?_
          refine z_aload_n 309 C0 0 dX7_call_308 rfl rfl rfl ?_
          refine z_get 312 C0 0 16 wz_7 rfl (by decide) (zTs_in wk_464) dX7_call_309 rfl rfl rfl ?_
          refine z_iload 314 C0 6 dX7_call_312 rfl rfl ?_
          refine z_iconst 315 C0 (v := (nI 2)) dX7_call_314 rfl rfl ?_
          refine z_isub 316 C0 (v := (nI (h - 2))) dX7_call_315 rfl (z_subN (by omega)) ?_
          refine z_iload 318 C0 11 dX7_call_316 rfl rfl ?_
          refine z_iastN 319 C0 8 [(y, zo 7 [.int (nI sz), .ref yrk, .ref yrv, .int (nI rn), .ref yop, .ref ynu, .ref yle, .ref yk, .ref yv, .ref ysp, .int (nI (prs + P.length)), .ref yxk, .ref yxv, .int (nI rs), .int err, .ref yto, .ref yst, .ref ylo, .int (nI (k + 1)), .int res, .int (nI 0)]), (yop, zg E 4 oo), (ra, zi E 64 op), (ynu, zg E 4 nu), (rb, zi E 64 nn), (yk, zi E 620 (rwK 620 prs kf P)), (yv, zi E 620 (rwV 620 prs vf P)), (ysp, zi E 620 (zn (rwS 620 prs sp of P))), (yst, zi E 8 (upd (upd st (h - 1) (st (h - 2))) (h - 2) (st (h - 1)))), (ylo, zi E 4 lo)] dX7_call_318 rfl rfl (by omega) (by decide) rfl ?_
          refine z_goto 497 C0 dX7_call_319 (by decide) ?_
          refine z_eq (L1 := [(0, .ref y), (1, .int (nI p)), (2, .int a), (3, .int b), (4, .int d), (5, .int (nI of)), (6, .int (nI h)), (7, .int (nI (i + 1))), (8, .int (nI (P.length))), (9, .int (nI 5)), (10, .int (nn i)), (11, .int (st (h - 1)))]) (st1 := []) (w1 := [(y, zo 7 [.int (nI sz), .ref yrk, .ref yrv, .int (nI rn), .ref yop, .ref ynu, .ref yle, .ref yk, .ref yv, .ref ysp, .int (nI (prs + P.length)), .ref yxk, .ref yxv, .int (nI rs), .int err, .ref yto, .ref yst, .ref ylo, .int (nI (k + 1)), .int res, .int (nI 0)]), (yop, zg E 4 oo), (ra, zi E 64 op), (ynu, zg E 4 nu), (rb, zi E 64 nn), (yk, zi E 620 (rwK 620 prs kf P)), (yv, zi E 620 (rwV 620 prs vf P)), (ysp, zi E 620 (zn (rwS 620 prs sp of P))), (yst, zi E 8 (upd (upd st (h - 2) (st (h - 1))) (h - 1) (st (h - 2)))), (ylo, zi E 4 lo)]) rfl rfl (by rw [upd_comm st (show h - 1 ≠ h - 2 by omega)]) ?_
          refine z_goto 27 C0 dX7_call_497 (by decide) ?_
          refine z_loc [0, 1, 2, 3, 4, 5, 6, 7, 8] [(0, .ref y), (1, .int (nI p)), (2, .int a), (3, .int b), (4, .int d), (5, .int (nI of)), (6, .int (nI h)), (7, .int (nI (i + 1))), (8, .int (nI (P.length)))] rfl ?_
          exact ih27 (k + 1) fu (i + 1) h lo (upd (upd st (h - 2) (st (h - 1))) (h - 1) (st (h - 2))) P (by omega) (hR.next ho ⟨by decide, by decide, by decide⟩) hP ((mRun_step hop (by decide) (by decide) (by decide) (fun q => absurd q.1 (by decide)) hcl).symm.trans hM) (by omega)
        · skip
          have hnd : 1 ≤ h := by have := ho.2.2.1; simpa [pNeed, nNeed] using this
          have hup : h + 0 - 1 ≤ 8 := ho.2.2.2
          have hcl : (nn i).toNatClampNeg = (nn i).toNatClampNeg := rfl
          refine z_aload_n 50 C0 0 dX7_call_49 rfl rfl rfl ?_
          refine z_get 53 C0 0 4 wz_7 rfl (by decide) (zTs_in wk_452) dX7_call_50 rfl rfl rfl ?_
          refine z_iload_n 54 C0 1 dX7_call_53 rfl rfl rfl ?_
          refine z_aald 55 C0 1 2 dX7_call_54 rfl rfl rfl rfl (by omega) (by decide) (v := .ref ra) (by rw [hoo]; rfl) ?_
          refine z_iload 57 C0 7 dX7_call_55 rfl rfl ?_
          refine z_ialdN 58 C0 2 (v := (nI 6)) dX7_call_57 rfl rfl (by omega) (by decide) hop ?_
          refine z_istore 60 C0 [1, 2, 3, 4, 5, 6, 7, 8, 9, 0] [(0, .ref y), (1, .int (nI p)), (2, .int a), (3, .int b), (4, .int d), (5, .int (nI of)), (6, .int (nI h)), (7, .int (nI i)), (8, .int (nI (P.length))), (9, .int (nI 6))] dX7_call_58 rfl (by decide) rfl ?_
          refine z_aload_n 61 C0 0 dX7_call_60 rfl rfl rfl ?_
          refine z_get 64 C0 0 5 wz_7 rfl (by decide) (zTs_in wk_453) dX7_call_61 rfl rfl rfl ?_
          refine z_iload_n 65 C0 1 dX7_call_64 rfl rfl rfl ?_
          refine z_aald 66 C0 3 2 dX7_call_65 rfl rfl rfl rfl (by omega) (by decide) (v := .ref rb) (by rw [hnu]; rfl) ?_
          refine z_iload 68 C0 7 dX7_call_66 rfl rfl ?_
          refine z_ialdN 69 C0 4 (v := (nn i)) dX7_call_68 rfl rfl (by omega) (by decide) rfl ?_
          refine z_istore 71 C0 [1, 2, 3, 4, 5, 6, 7, 8, 9, 10, 0] [(0, .ref y), (1, .int (nI p)), (2, .int a), (3, .int b), (4, .int d), (5, .int (nI of)), (6, .int (nI h)), (7, .int (nI i)), (8, .int (nI (P.length))), (9, .int (nI 6)), (10, .int (nn i))] dX7_call_69 rfl (by decide) rfl ?_
          refine z_iinc 74 C0 7 [1, 2, 3, 4, 5, 6, 7, 0, 8, 9, 10] [(0, .ref y), (1, .int (nI p)), (2, .int a), (3, .int b), (4, .int d), (5, .int (nI of)), (6, .int (nI h)), (7, .int (nI (i + 1))), (8, .int (nI (P.length))), (9, .int (nI 6)), (10, .int (nn i))] (v := (nI (i + 1))) dX7_call_71 rfl rfl (z_incN _ _) (by decide) rfl ?_
          refine z_iload 76 C0 9 dX7_call_74 rfl rfl ?_
          refine z_switch 322 C0 dX7_call_76 (by decide) (by decide) rfl (by decide) ?_
          refine z_iinc 325 C0 6 [1, 2, 3, 4, 5, 6, 0, 7, 8, 9, 10] [(0, .ref y), (1, .int (nI p)), (2, .int a), (3, .int b), (4, .int d), (5, .int (nI of)), (6, .int (nI (h - 1))), (7, .int (nI (i + 1))), (8, .int (nI (P.length))), (9, .int (nI 6)), (10, .int (nn i))] (v := (nI (h - 1))) dX7_call_322 rfl rfl (z_decC (a := h) (c := 1) (b := (h - 1)) (by omega) (by omega)) (by decide) rfl ?_
          refine z_goto 497 C0 dX7_call_325 (by decide) ?_
          refine z_goto 27 C0 dX7_call_497 (by decide) ?_
          refine z_loc [0, 1, 2, 3, 4, 5, 6, 7, 8] [(0, .ref y), (1, .int (nI p)), (2, .int a), (3, .int b), (4, .int d), (5, .int (nI of)), (6, .int (nI (h - 1))), (7, .int (nI (i + 1))), (8, .int (nI (P.length)))] rfl ?_
          exact ih27 (k + 1) fu (i + 1) (h - 1) lo st P (by omega) (hR.next ho ⟨by decide, by decide, by decide⟩) hP ((mRun_step hop (by decide) (by decide) (by decide) (fun q => absurd q.1 (by decide)) hcl).symm.trans hM) (by omega)
        · skip
          have hnd : 2 ≤ h := by have := ho.2.2.1; simpa [pNeed, nNeed] using this
          have hup : h + 0 - 1 ≤ 8 := ho.2.2.2
          have hcl : (nn i).toNatClampNeg = (nn i).toNatClampNeg := rfl
          refine z_aload_n 50 C0 0 dX7_call_49 rfl rfl rfl ?_
          refine z_get 53 C0 0 4 wz_7 rfl (by decide) (zTs_in wk_452) dX7_call_50 rfl rfl rfl ?_
          refine z_iload_n 54 C0 1 dX7_call_53 rfl rfl rfl ?_
          refine z_aald 55 C0 1 2 dX7_call_54 rfl rfl rfl rfl (by omega) (by decide) (v := .ref ra) (by rw [hoo]; rfl) ?_
          refine z_iload 57 C0 7 dX7_call_55 rfl rfl ?_
          refine z_ialdN 58 C0 2 (v := (nI 7)) dX7_call_57 rfl rfl (by omega) (by decide) hop ?_
          refine z_istore 60 C0 [1, 2, 3, 4, 5, 6, 7, 8, 9, 0] [(0, .ref y), (1, .int (nI p)), (2, .int a), (3, .int b), (4, .int d), (5, .int (nI of)), (6, .int (nI h)), (7, .int (nI i)), (8, .int (nI (P.length))), (9, .int (nI 7))] dX7_call_58 rfl (by decide) rfl ?_
          refine z_aload_n 61 C0 0 dX7_call_60 rfl rfl rfl ?_
          refine z_get 64 C0 0 5 wz_7 rfl (by decide) (zTs_in wk_453) dX7_call_61 rfl rfl rfl ?_
          refine z_iload_n 65 C0 1 dX7_call_64 rfl rfl rfl ?_
          refine z_aald 66 C0 3 2 dX7_call_65 rfl rfl rfl rfl (by omega) (by decide) (v := .ref rb) (by rw [hnu]; rfl) ?_
          refine z_iload 68 C0 7 dX7_call_66 rfl rfl ?_
          refine z_ialdN 69 C0 4 (v := (nn i)) dX7_call_68 rfl rfl (by omega) (by decide) rfl ?_
          refine z_istore 71 C0 [1, 2, 3, 4, 5, 6, 7, 8, 9, 10, 0] [(0, .ref y), (1, .int (nI p)), (2, .int a), (3, .int b), (4, .int d), (5, .int (nI of)), (6, .int (nI h)), (7, .int (nI i)), (8, .int (nI (P.length))), (9, .int (nI 7)), (10, .int (nn i))] dX7_call_69 rfl (by decide) rfl ?_
          refine z_iinc 74 C0 7 [1, 2, 3, 4, 5, 6, 7, 0, 8, 9, 10] [(0, .ref y), (1, .int (nI p)), (2, .int a), (3, .int b), (4, .int d), (5, .int (nI of)), (6, .int (nI h)), (7, .int (nI (i + 1))), (8, .int (nI (P.length))), (9, .int (nI 7)), (10, .int (nn i))] (v := (nI (i + 1))) dX7_call_71 rfl rfl (z_incN _ _) (by decide) rfl ?_
          refine z_iload 76 C0 9 dX7_call_74 rfl rfl ?_
          refine z_switch 464 C0 dX7_call_76 (by decide) (by decide) rfl (by decide) ?_
          refine z_iinc 467 C0 6 [1, 2, 3, 4, 5, 6, 0, 7, 8, 9, 10] [(0, .ref y), (1, .int (nI p)), (2, .int a), (3, .int b), (4, .int d), (5, .int (nI of)), (6, .int (nI (h - 1))), (7, .int (nI (i + 1))), (8, .int (nI (P.length))), (9, .int (nI 7)), (10, .int (nn i))] (v := (nI (h - 1))) dX7_call_464 rfl rfl (z_decC (a := h) (c := 1) (b := (h - 1)) (by omega) (by omega)) (by decide) rfl ?_
          refine z_aload_n 468 C0 0 dX7_call_467 rfl rfl rfl ?_
          refine z_get 471 C0 0 16 wz_7 rfl (by decide) (zTs_in wk_464) dX7_call_468 rfl rfl rfl ?_
          refine z_iload 473 C0 6 dX7_call_471 rfl rfl ?_
          refine z_iconst 474 C0 (v := (nI 1)) dX7_call_473 rfl rfl ?_
          refine z_isub 475 C0 (v := (nI (h - 2))) dX7_call_474 rfl (z_subN (by omega)) ?_
          refine z_iload 477 C0 9 dX7_call_475 rfl rfl ?_
          refine z_aload_n 478 C0 0 dX7_call_477 rfl rfl rfl ?_
          refine z_get 481 C0 0 16 wz_7 rfl (by decide) (zTs_in wk_464) dX7_call_478 rfl rfl rfl ?_
          refine z_iload 483 C0 6 dX7_call_481 rfl rfl ?_
          refine z_iconst 484 C0 (v := (nI 1)) dX7_call_483 rfl rfl ?_
          refine z_isub 485 C0 (v := (nI (h - 2))) dX7_call_484 rfl (z_subN (by omega)) ?_
          refine z_ialdN 486 C0 8 (v := (st (h - 2))) dX7_call_485 rfl rfl (by omega) (by decide) rfl ?_
          refine z_aload_n 487 C0 0 dX7_call_486 rfl rfl rfl ?_
          refine z_get 490 C0 0 16 wz_7 rfl (by decide) (zTs_in wk_464) dX7_call_487 rfl rfl rfl ?_
          refine z_iload 492 C0 6 dX7_call_490 rfl rfl ?_
          refine z_ialdN 493 C0 8 (v := (st (h - 1))) dX7_call_492 rfl rfl (by omega) (by decide) rfl ?_
          refine z_callSi 496 C0 [] [0, 1, 2, 3, 4, 5, 6, 7, 8, 9] [(y, zo 7 [.int (nI sz), .ref yrk, .ref yrv, .int (nI rn), .ref yop, .ref ynu, .ref yle, .ref yk, .ref yv, .ref ysp, .int (nI (prs + P.length)), .ref yxk, .ref yxv, .int (nI rs), .int err, .ref yto, .ref yst, .ref ylo, .int (nI (k + 1)), .int res, .int (nI 0)]), (yop, zg E 4 oo), (ra, zi E 64 op), (ynu, zg E 4 nu), (rb, zi E 64 nn), (yk, zi E 620 (rwK 620 prs kf P)), (yv, zi E 620 (rwV 620 prs vf P)), (ysp, zi E 620 (zn (rwS 620 prs sp of P))), (yst, zi E 8 st), (ylo, zi E 4 lo)] 0 0 (As := [.int (nI 7), .int (st (h - 2)), .int (st (h - 1))]) (n := 3) (reckoned l_ E 7 (st (h - 2)) (st (h - 1)) (by omega) (by omega)) (zGIS (fun _ => zTs_in) wk_574 wk_572 wk_573 wk_20) rfl ⟨by decide, by decide, by decide +kernel⟩ rfl rfl (by decide) rfl rfl (Nat.le_of_ble_eq_true rfl) ⟨by decide, by decide⟩ rfl rfl ⟨by decide, by decide⟩ ⟨by decide, by decide⟩ dX7_call_493 rfl (fun r493 w493 hB493 => ?_)
          obtain ⟨rfl, rfl⟩ := hB493
          refine z_perm [0, 1, 2, 3, 4, 5, 6, 7, 8, 9] [(y, zo 7 [.int (nI sz), .ref yrk, .ref yrv, .int (nI rn), .ref yop, .ref ynu, .ref yle, .ref yk, .ref yv, .ref ysp, .int (nI (prs + P.length)), .ref yxk, .ref yxv, .int (nI rs), .int err, .ref yto, .ref yst, .ref ylo, .int (nI (k + 1)), .int res, .int (nI 0)]), (yop, zg E 4 oo), (ra, zi E 64 op), (ynu, zg E 4 nu), (rb, zi E 64 nn), (yk, zi E 620 (rwK 620 prs kf P)), (yv, zi E 620 (rwV 620 prs vf P)), (ysp, zi E 620 (zn (rwS 620 prs sp of P))), (yst, zi E 8 st), (ylo, zi E 4 lo)] (by decide) rfl ?_
          refine z_iastN 497 C0 8 [(y, zo 7 [.int (nI sz), .ref yrk, .ref yrv, .int (nI rn), .ref yop, .ref ynu, .ref yle, .ref yk, .ref yv, .ref ysp, .int (nI (prs + P.length)), .ref yxk, .ref yxv, .int (nI rs), .int err, .ref yto, .ref yst, .ref ylo, .int (nI (k + 1)), .int res, .int (nI 0)]), (yop, zg E 4 oo), (ra, zi E 64 op), (ynu, zg E 4 nu), (rb, zi E 64 nn), (yk, zi E 620 (rwK 620 prs kf P)), (yv, zi E 620 (rwV 620 prs vf P)), (ysp, zi E 620 (zn (rwS 620 prs sp of P))), (yst, zi E 8 (upd st (h - 2) (cmb 7 (st (h - 2)) (st (h - 1))))), (ylo, zi E 4 lo)] dX7_call_496 rfl rfl (by omega) (by decide) rfl ?_
          refine z_goto 27 C0 dX7_call_497 (by decide) ?_
          refine z_loc [0, 1, 2, 3, 4, 5, 6, 7, 8] [(0, .ref y), (1, .int (nI p)), (2, .int a), (3, .int b), (4, .int d), (5, .int (nI of)), (6, .int (nI (h - 1))), (7, .int (nI (i + 1))), (8, .int (nI (P.length)))] rfl ?_
          exact ih27 (k + 1) fu (i + 1) (h - 1) lo (upd st (h - 2) (cmb 7 (st (h - 2)) (st (h - 1)))) P (by omega) (hR.next ho ⟨by decide, by decide, by decide⟩) hP ((mRun_step hop (by decide) (by decide) (by decide) (fun q => absurd q.1 (by decide)) hcl).symm.trans hM) (by omega)
        · skip
          have hnd : 2 ≤ h := by have := ho.2.2.1; simpa [pNeed, nNeed] using this
          have hup : h + 0 - 1 ≤ 8 := ho.2.2.2
          have hcl : (nn i).toNatClampNeg = (nn i).toNatClampNeg := rfl
          refine z_aload_n 50 C0 0 dX7_call_49 rfl rfl rfl ?_
          refine z_get 53 C0 0 4 wz_7 rfl (by decide) (zTs_in wk_452) dX7_call_50 rfl rfl rfl ?_
          refine z_iload_n 54 C0 1 dX7_call_53 rfl rfl rfl ?_
          refine z_aald 55 C0 1 2 dX7_call_54 rfl rfl rfl rfl (by omega) (by decide) (v := .ref ra) (by rw [hoo]; rfl) ?_
          refine z_iload 57 C0 7 dX7_call_55 rfl rfl ?_
          refine z_ialdN 58 C0 2 (v := (nI 8)) dX7_call_57 rfl rfl (by omega) (by decide) hop ?_
          refine z_istore 60 C0 [1, 2, 3, 4, 5, 6, 7, 8, 9, 0] [(0, .ref y), (1, .int (nI p)), (2, .int a), (3, .int b), (4, .int d), (5, .int (nI of)), (6, .int (nI h)), (7, .int (nI i)), (8, .int (nI (P.length))), (9, .int (nI 8))] dX7_call_58 rfl (by decide) rfl ?_
          refine z_aload_n 61 C0 0 dX7_call_60 rfl rfl rfl ?_
          refine z_get 64 C0 0 5 wz_7 rfl (by decide) (zTs_in wk_453) dX7_call_61 rfl rfl rfl ?_
          refine z_iload_n 65 C0 1 dX7_call_64 rfl rfl rfl ?_
          refine z_aald 66 C0 3 2 dX7_call_65 rfl rfl rfl rfl (by omega) (by decide) (v := .ref rb) (by rw [hnu]; rfl) ?_
          refine z_iload 68 C0 7 dX7_call_66 rfl rfl ?_
          refine z_ialdN 69 C0 4 (v := (nn i)) dX7_call_68 rfl rfl (by omega) (by decide) rfl ?_
          refine z_istore 71 C0 [1, 2, 3, 4, 5, 6, 7, 8, 9, 10, 0] [(0, .ref y), (1, .int (nI p)), (2, .int a), (3, .int b), (4, .int d), (5, .int (nI of)), (6, .int (nI h)), (7, .int (nI i)), (8, .int (nI (P.length))), (9, .int (nI 8)), (10, .int (nn i))] dX7_call_69 rfl (by decide) rfl ?_
          refine z_iinc 74 C0 7 [1, 2, 3, 4, 5, 6, 7, 0, 8, 9, 10] [(0, .ref y), (1, .int (nI p)), (2, .int a), (3, .int b), (4, .int d), (5, .int (nI of)), (6, .int (nI h)), (7, .int (nI (i + 1))), (8, .int (nI (P.length))), (9, .int (nI 8)), (10, .int (nn i))] (v := (nI (i + 1))) dX7_call_71 rfl rfl (z_incN _ _) (by decide) rfl ?_
          refine z_iload 76 C0 9 dX7_call_74 rfl rfl ?_
          refine z_switch 464 C0 dX7_call_76 (by decide) (by decide) rfl (by decide) ?_
          refine z_iinc 467 C0 6 [1, 2, 3, 4, 5, 6, 0, 7, 8, 9, 10] [(0, .ref y), (1, .int (nI p)), (2, .int a), (3, .int b), (4, .int d), (5, .int (nI of)), (6, .int (nI (h - 1))), (7, .int (nI (i + 1))), (8, .int (nI (P.length))), (9, .int (nI 8)), (10, .int (nn i))] (v := (nI (h - 1))) dX7_call_464 rfl rfl (z_decC (a := h) (c := 1) (b := (h - 1)) (by omega) (by omega)) (by decide) rfl ?_
          refine z_aload_n 468 C0 0 dX7_call_467 rfl rfl rfl ?_
          refine z_get 471 C0 0 16 wz_7 rfl (by decide) (zTs_in wk_464) dX7_call_468 rfl rfl rfl ?_
          refine z_iload 473 C0 6 dX7_call_471 rfl rfl ?_
          refine z_iconst 474 C0 (v := (nI 1)) dX7_call_473 rfl rfl ?_
          refine z_isub 475 C0 (v := (nI (h - 2))) dX7_call_474 rfl (z_subN (by omega)) ?_
          refine z_iload 477 C0 9 dX7_call_475 rfl rfl ?_
          refine z_aload_n 478 C0 0 dX7_call_477 rfl rfl rfl ?_
          refine z_get 481 C0 0 16 wz_7 rfl (by decide) (zTs_in wk_464) dX7_call_478 rfl rfl rfl ?_
          refine z_iload 483 C0 6 dX7_call_481 rfl rfl ?_
          refine z_iconst 484 C0 (v := (nI 1)) dX7_call_483 rfl rfl ?_
          refine z_isub 485 C0 (v := (nI (h - 2))) dX7_call_484 rfl (z_subN (by omega)) ?_
          refine z_ialdN 486 C0 8 (v := (st (h - 2))) dX7_call_485 rfl rfl (by omega) (by decide) rfl ?_
          refine z_aload_n 487 C0 0 dX7_call_486 rfl rfl rfl ?_
          refine z_get 490 C0 0 16 wz_7 rfl (by decide) (zTs_in wk_464) dX7_call_487 rfl rfl rfl ?_
          refine z_iload 492 C0 6 dX7_call_490 rfl rfl ?_
          refine z_ialdN 493 C0 8 (v := (st (h - 1))) dX7_call_492 rfl rfl (by omega) (by decide) rfl ?_
          refine z_callSi 496 C0 [] [0, 1, 2, 3, 4, 5, 6, 7, 8, 9] [(y, zo 7 [.int (nI sz), .ref yrk, .ref yrv, .int (nI rn), .ref yop, .ref ynu, .ref yle, .ref yk, .ref yv, .ref ysp, .int (nI (prs + P.length)), .ref yxk, .ref yxv, .int (nI rs), .int err, .ref yto, .ref yst, .ref ylo, .int (nI (k + 1)), .int res, .int (nI 0)]), (yop, zg E 4 oo), (ra, zi E 64 op), (ynu, zg E 4 nu), (rb, zi E 64 nn), (yk, zi E 620 (rwK 620 prs kf P)), (yv, zi E 620 (rwV 620 prs vf P)), (ysp, zi E 620 (zn (rwS 620 prs sp of P))), (yst, zi E 8 st), (ylo, zi E 4 lo)] 0 0 (As := [.int (nI 8), .int (st (h - 2)), .int (st (h - 1))]) (n := 3) (reckoned l_ E 8 (st (h - 2)) (st (h - 1)) (by omega) (by omega)) (zGIS (fun _ => zTs_in) wk_574 wk_572 wk_573 wk_20) rfl ⟨by decide, by decide, by decide +kernel⟩ rfl rfl (by decide) rfl rfl (Nat.le_of_ble_eq_true rfl) ⟨by decide, by decide⟩ rfl rfl ⟨by decide, by decide⟩ ⟨by decide, by decide⟩ dX7_call_493 rfl (fun r493 w493 hB493 => ?_)
          obtain ⟨rfl, rfl⟩ := hB493
          refine z_perm [0, 1, 2, 3, 4, 5, 6, 7, 8, 9] [(y, zo 7 [.int (nI sz), .ref yrk, .ref yrv, .int (nI rn), .ref yop, .ref ynu, .ref yle, .ref yk, .ref yv, .ref ysp, .int (nI (prs + P.length)), .ref yxk, .ref yxv, .int (nI rs), .int err, .ref yto, .ref yst, .ref ylo, .int (nI (k + 1)), .int res, .int (nI 0)]), (yop, zg E 4 oo), (ra, zi E 64 op), (ynu, zg E 4 nu), (rb, zi E 64 nn), (yk, zi E 620 (rwK 620 prs kf P)), (yv, zi E 620 (rwV 620 prs vf P)), (ysp, zi E 620 (zn (rwS 620 prs sp of P))), (yst, zi E 8 st), (ylo, zi E 4 lo)] (by decide) rfl ?_
          refine z_iastN 497 C0 8 [(y, zo 7 [.int (nI sz), .ref yrk, .ref yrv, .int (nI rn), .ref yop, .ref ynu, .ref yle, .ref yk, .ref yv, .ref ysp, .int (nI (prs + P.length)), .ref yxk, .ref yxv, .int (nI rs), .int err, .ref yto, .ref yst, .ref ylo, .int (nI (k + 1)), .int res, .int (nI 0)]), (yop, zg E 4 oo), (ra, zi E 64 op), (ynu, zg E 4 nu), (rb, zi E 64 nn), (yk, zi E 620 (rwK 620 prs kf P)), (yv, zi E 620 (rwV 620 prs vf P)), (ysp, zi E 620 (zn (rwS 620 prs sp of P))), (yst, zi E 8 (upd st (h - 2) (cmb 8 (st (h - 2)) (st (h - 1))))), (ylo, zi E 4 lo)] dX7_call_496 rfl rfl (by omega) (by decide) rfl ?_
          refine z_goto 27 C0 dX7_call_497 (by decide) ?_
          refine z_loc [0, 1, 2, 3, 4, 5, 6, 7, 8] [(0, .ref y), (1, .int (nI p)), (2, .int a), (3, .int b), (4, .int d), (5, .int (nI of)), (6, .int (nI (h - 1))), (7, .int (nI (i + 1))), (8, .int (nI (P.length)))] rfl ?_
          exact ih27 (k + 1) fu (i + 1) (h - 1) lo (upd st (h - 2) (cmb 8 (st (h - 2)) (st (h - 1)))) P (by omega) (hR.next ho ⟨by decide, by decide, by decide⟩) hP ((mRun_step hop (by decide) (by decide) (by decide) (fun q => absurd q.1 (by decide)) hcl).symm.trans hM) (by omega)
        · skip
          have hnd : 2 ≤ h := by have := ho.2.2.1; simpa [pNeed, nNeed] using this
          have hup : h + 0 - 1 ≤ 8 := ho.2.2.2
          have hcl : (nn i).toNatClampNeg = (nn i).toNatClampNeg := rfl
          refine z_aload_n 50 C0 0 dX7_call_49 rfl rfl rfl ?_
          refine z_get 53 C0 0 4 wz_7 rfl (by decide) (zTs_in wk_452) dX7_call_50 rfl rfl rfl ?_
          refine z_iload_n 54 C0 1 dX7_call_53 rfl rfl rfl ?_
          refine z_aald 55 C0 1 2 dX7_call_54 rfl rfl rfl rfl (by omega) (by decide) (v := .ref ra) (by rw [hoo]; rfl) ?_
          refine z_iload 57 C0 7 dX7_call_55 rfl rfl ?_
          refine z_ialdN 58 C0 2 (v := (nI 9)) dX7_call_57 rfl rfl (by omega) (by decide) hop ?_
          refine z_istore 60 C0 [1, 2, 3, 4, 5, 6, 7, 8, 9, 0] [(0, .ref y), (1, .int (nI p)), (2, .int a), (3, .int b), (4, .int d), (5, .int (nI of)), (6, .int (nI h)), (7, .int (nI i)), (8, .int (nI (P.length))), (9, .int (nI 9))] dX7_call_58 rfl (by decide) rfl ?_
          refine z_aload_n 61 C0 0 dX7_call_60 rfl rfl rfl ?_
          refine z_get 64 C0 0 5 wz_7 rfl (by decide) (zTs_in wk_453) dX7_call_61 rfl rfl rfl ?_
          refine z_iload_n 65 C0 1 dX7_call_64 rfl rfl rfl ?_
          refine z_aald 66 C0 3 2 dX7_call_65 rfl rfl rfl rfl (by omega) (by decide) (v := .ref rb) (by rw [hnu]; rfl) ?_
          refine z_iload 68 C0 7 dX7_call_66 rfl rfl ?_
          refine z_ialdN 69 C0 4 (v := (nn i)) dX7_call_68 rfl rfl (by omega) (by decide) rfl ?_
          refine z_istore 71 C0 [1, 2, 3, 4, 5, 6, 7, 8, 9, 10, 0] [(0, .ref y), (1, .int (nI p)), (2, .int a), (3, .int b), (4, .int d), (5, .int (nI of)), (6, .int (nI h)), (7, .int (nI i)), (8, .int (nI (P.length))), (9, .int (nI 9)), (10, .int (nn i))] dX7_call_69 rfl (by decide) rfl ?_
          refine z_iinc 74 C0 7 [1, 2, 3, 4, 5, 6, 7, 0, 8, 9, 10] [(0, .ref y), (1, .int (nI p)), (2, .int a), (3, .int b), (4, .int d), (5, .int (nI of)), (6, .int (nI h)), (7, .int (nI (i + 1))), (8, .int (nI (P.length))), (9, .int (nI 9)), (10, .int (nn i))] (v := (nI (i + 1))) dX7_call_71 rfl rfl (z_incN _ _) (by decide) rfl ?_
          refine z_iload 76 C0 9 dX7_call_74 rfl rfl ?_
          refine z_switch 464 C0 dX7_call_76 (by decide) (by decide) rfl (by decide) ?_
          refine z_iinc 467 C0 6 [1, 2, 3, 4, 5, 6, 0, 7, 8, 9, 10] [(0, .ref y), (1, .int (nI p)), (2, .int a), (3, .int b), (4, .int d), (5, .int (nI of)), (6, .int (nI (h - 1))), (7, .int (nI (i + 1))), (8, .int (nI (P.length))), (9, .int (nI 9)), (10, .int (nn i))] (v := (nI (h - 1))) dX7_call_464 rfl rfl (z_decC (a := h) (c := 1) (b := (h - 1)) (by omega) (by omega)) (by decide) rfl ?_
          refine z_aload_n 468 C0 0 dX7_call_467 rfl rfl rfl ?_
          refine z_get 471 C0 0 16 wz_7 rfl (by decide) (zTs_in wk_464) dX7_call_468 rfl rfl rfl ?_
          refine z_iload 473 C0 6 dX7_call_471 rfl rfl ?_
          refine z_iconst 474 C0 (v := (nI 1)) dX7_call_473 rfl rfl ?_
          refine z_isub 475 C0 (v := (nI (h - 2))) dX7_call_474 rfl (z_subN (by omega)) ?_
          refine z_iload 477 C0 9 dX7_call_475 rfl rfl ?_
          refine z_aload_n 478 C0 0 dX7_call_477 rfl rfl rfl ?_
          refine z_get 481 C0 0 16 wz_7 rfl (by decide) (zTs_in wk_464) dX7_call_478 rfl rfl rfl ?_
          refine z_iload 483 C0 6 dX7_call_481 rfl rfl ?_
          refine z_iconst 484 C0 (v := (nI 1)) dX7_call_483 rfl rfl ?_
          refine z_isub 485 C0 (v := (nI (h - 2))) dX7_call_484 rfl (z_subN (by omega)) ?_
          refine z_ialdN 486 C0 8 (v := (st (h - 2))) dX7_call_485 rfl rfl (by omega) (by decide) rfl ?_
          refine z_aload_n 487 C0 0 dX7_call_486 rfl rfl rfl ?_
          refine z_get 490 C0 0 16 wz_7 rfl (by decide) (zTs_in wk_464) dX7_call_487 rfl rfl rfl ?_
          refine z_iload 492 C0 6 dX7_call_490 rfl rfl ?_
          refine z_ialdN 493 C0 8 (v := (st (h - 1))) dX7_call_492 rfl rfl (by omega) (by decide) rfl ?_
          refine z_callSi 496 C0 [] [0, 1, 2, 3, 4, 5, 6, 7, 8, 9] [(y, zo 7 [.int (nI sz), .ref yrk, .ref yrv, .int (nI rn), .ref yop, .ref ynu, .ref yle, .ref yk, .ref yv, .ref ysp, .int (nI (prs + P.length)), .ref yxk, .ref yxv, .int (nI rs), .int err, .ref yto, .ref yst, .ref ylo, .int (nI (k + 1)), .int res, .int (nI 0)]), (yop, zg E 4 oo), (ra, zi E 64 op), (ynu, zg E 4 nu), (rb, zi E 64 nn), (yk, zi E 620 (rwK 620 prs kf P)), (yv, zi E 620 (rwV 620 prs vf P)), (ysp, zi E 620 (zn (rwS 620 prs sp of P))), (yst, zi E 8 st), (ylo, zi E 4 lo)] 0 0 (As := [.int (nI 9), .int (st (h - 2)), .int (st (h - 1))]) (n := 3) (reckoned l_ E 9 (st (h - 2)) (st (h - 1)) (by omega) (by omega)) (zGIS (fun _ => zTs_in) wk_574 wk_572 wk_573 wk_20) rfl ⟨by decide, by decide, by decide +kernel⟩ rfl rfl (by decide) rfl rfl (Nat.le_of_ble_eq_true rfl) ⟨by decide, by decide⟩ rfl rfl ⟨by decide, by decide⟩ ⟨by decide, by decide⟩ dX7_call_493 rfl (fun r493 w493 hB493 => ?_)
          obtain ⟨rfl, rfl⟩ := hB493
          refine z_perm [0, 1, 2, 3, 4, 5, 6, 7, 8, 9] [(y, zo 7 [.int (nI sz), .ref yrk, .ref yrv, .int (nI rn), .ref yop, .ref ynu, .ref yle, .ref yk, .ref yv, .ref ysp, .int (nI (prs + P.length)), .ref yxk, .ref yxv, .int (nI rs), .int err, .ref yto, .ref yst, .ref ylo, .int (nI (k + 1)), .int res, .int (nI 0)]), (yop, zg E 4 oo), (ra, zi E 64 op), (ynu, zg E 4 nu), (rb, zi E 64 nn), (yk, zi E 620 (rwK 620 prs kf P)), (yv, zi E 620 (rwV 620 prs vf P)), (ysp, zi E 620 (zn (rwS 620 prs sp of P))), (yst, zi E 8 st), (ylo, zi E 4 lo)] (by decide) rfl ?_
          refine z_iastN 497 C0 8 [(y, zo 7 [.int (nI sz), .ref yrk, .ref yrv, .int (nI rn), .ref yop, .ref ynu, .ref yle, .ref yk, .ref yv, .ref ysp, .int (nI (prs + P.length)), .ref yxk, .ref yxv, .int (nI rs), .int err, .ref yto, .ref yst, .ref ylo, .int (nI (k + 1)), .int res, .int (nI 0)]), (yop, zg E 4 oo), (ra, zi E 64 op), (ynu, zg E 4 nu), (rb, zi E 64 nn), (yk, zi E 620 (rwK 620 prs kf P)), (yv, zi E 620 (rwV 620 prs vf P)), (ysp, zi E 620 (zn (rwS 620 prs sp of P))), (yst, zi E 8 (upd st (h - 2) (cmb 9 (st (h - 2)) (st (h - 1))))), (ylo, zi E 4 lo)] dX7_call_496 rfl rfl (by omega) (by decide) rfl ?_
          refine z_goto 27 C0 dX7_call_497 (by decide) ?_
          refine z_loc [0, 1, 2, 3, 4, 5, 6, 7, 8] [(0, .ref y), (1, .int (nI p)), (2, .int a), (3, .int b), (4, .int d), (5, .int (nI of)), (6, .int (nI (h - 1))), (7, .int (nI (i + 1))), (8, .int (nI (P.length)))] rfl ?_
          exact ih27 (k + 1) fu (i + 1) (h - 1) lo (upd st (h - 2) (cmb 9 (st (h - 2)) (st (h - 1)))) P (by omega) (hR.next ho ⟨by decide, by decide, by decide⟩) hP ((mRun_step hop (by decide) (by decide) (by decide) (fun q => absurd q.1 (by decide)) hcl).symm.trans hM) (by omega)
        · skip
          have hnd : 2 ≤ h := by have := ho.2.2.1; simpa [pNeed, nNeed] using this
          have hup : h + 0 - 1 ≤ 8 := ho.2.2.2
          have hcl : (nn i).toNatClampNeg = (nn i).toNatClampNeg := rfl
          refine z_aload_n 50 C0 0 dX7_call_49 rfl rfl rfl ?_
          refine z_get 53 C0 0 4 wz_7 rfl (by decide) (zTs_in wk_452) dX7_call_50 rfl rfl rfl ?_
          refine z_iload_n 54 C0 1 dX7_call_53 rfl rfl rfl ?_
          refine z_aald 55 C0 1 2 dX7_call_54 rfl rfl rfl rfl (by omega) (by decide) (v := .ref ra) (by rw [hoo]; rfl) ?_
          refine z_iload 57 C0 7 dX7_call_55 rfl rfl ?_
          refine z_ialdN 58 C0 2 (v := (nI 10)) dX7_call_57 rfl rfl (by omega) (by decide) hop ?_
          refine z_istore 60 C0 [1, 2, 3, 4, 5, 6, 7, 8, 9, 0] [(0, .ref y), (1, .int (nI p)), (2, .int a), (3, .int b), (4, .int d), (5, .int (nI of)), (6, .int (nI h)), (7, .int (nI i)), (8, .int (nI (P.length))), (9, .int (nI 10))] dX7_call_58 rfl (by decide) rfl ?_
          refine z_aload_n 61 C0 0 dX7_call_60 rfl rfl rfl ?_
          refine z_get 64 C0 0 5 wz_7 rfl (by decide) (zTs_in wk_453) dX7_call_61 rfl rfl rfl ?_
          refine z_iload_n 65 C0 1 dX7_call_64 rfl rfl rfl ?_
          refine z_aald 66 C0 3 2 dX7_call_65 rfl rfl rfl rfl (by omega) (by decide) (v := .ref rb) (by rw [hnu]; rfl) ?_
          refine z_iload 68 C0 7 dX7_call_66 rfl rfl ?_
          refine z_ialdN 69 C0 4 (v := (nn i)) dX7_call_68 rfl rfl (by omega) (by decide) rfl ?_
          refine z_istore 71 C0 [1, 2, 3, 4, 5, 6, 7, 8, 9, 10, 0] [(0, .ref y), (1, .int (nI p)), (2, .int a), (3, .int b), (4, .int d), (5, .int (nI of)), (6, .int (nI h)), (7, .int (nI i)), (8, .int (nI (P.length))), (9, .int (nI 10)), (10, .int (nn i))] dX7_call_69 rfl (by decide) rfl ?_
          refine z_iinc 74 C0 7 [1, 2, 3, 4, 5, 6, 7, 0, 8, 9, 10] [(0, .ref y), (1, .int (nI p)), (2, .int a), (3, .int b), (4, .int d), (5, .int (nI of)), (6, .int (nI h)), (7, .int (nI (i + 1))), (8, .int (nI (P.length))), (9, .int (nI 10)), (10, .int (nn i))] (v := (nI (i + 1))) dX7_call_71 rfl rfl (z_incN _ _) (by decide) rfl ?_
          refine z_iload 76 C0 9 dX7_call_74 rfl rfl ?_
          refine z_switch 464 C0 dX7_call_76 (by decide) (by decide) rfl (by decide) ?_
          refine z_iinc 467 C0 6 [1, 2, 3, 4, 5, 6, 0, 7, 8, 9, 10] [(0, .ref y), (1, .int (nI p)), (2, .int a), (3, .int b), (4, .int d), (5, .int (nI of)), (6, .int (nI (h - 1))), (7, .int (nI (i + 1))), (8, .int (nI (P.length))), (9, .int (nI 10)), (10, .int (nn i))] (v := (nI (h - 1))) dX7_call_464 rfl rfl (z_decC (a := h) (c := 1) (b := (h - 1)) (by omega) (by omega)) (by decide) rfl ?_
          refine z_aload_n 468 C0 0 dX7_call_467 rfl rfl rfl ?_
          refine z_get 471 C0 0 16 wz_7 rfl (by decide) (zTs_in wk_464) dX7_call_468 rfl rfl rfl ?_
          refine z_iload 473 C0 6 dX7_call_471 rfl rfl ?_
          refine z_iconst 474 C0 (v := (nI 1)) dX7_call_473 rfl rfl ?_
          refine z_isub 475 C0 (v := (nI (h - 2))) dX7_call_474 rfl (z_subN (by omega)) ?_
          refine z_iload 477 C0 9 dX7_call_475 rfl rfl ?_
          refine z_aload_n 478 C0 0 dX7_call_477 rfl rfl rfl ?_
          refine z_get 481 C0 0 16 wz_7 rfl (by decide) (zTs_in wk_464) dX7_call_478 rfl rfl rfl ?_
          refine z_iload 483 C0 6 dX7_call_481 rfl rfl ?_
          refine z_iconst 484 C0 (v := (nI 1)) dX7_call_483 rfl rfl ?_
          refine z_isub 485 C0 (v := (nI (h - 2))) dX7_call_484 rfl (z_subN (by omega)) ?_
          refine z_ialdN 486 C0 8 (v := (st (h - 2))) dX7_call_485 rfl rfl (by omega) (by decide) rfl ?_
          refine z_aload_n 487 C0 0 dX7_call_486 rfl rfl rfl ?_
          refine z_get 490 C0 0 16 wz_7 rfl (by decide) (zTs_in wk_464) dX7_call_487 rfl rfl rfl ?_
          refine z_iload 492 C0 6 dX7_call_490 rfl rfl ?_
          refine z_ialdN 493 C0 8 (v := (st (h - 1))) dX7_call_492 rfl rfl (by omega) (by decide) rfl ?_
          refine z_callSi 496 C0 [] [0, 1, 2, 3, 4, 5, 6, 7, 8, 9] [(y, zo 7 [.int (nI sz), .ref yrk, .ref yrv, .int (nI rn), .ref yop, .ref ynu, .ref yle, .ref yk, .ref yv, .ref ysp, .int (nI (prs + P.length)), .ref yxk, .ref yxv, .int (nI rs), .int err, .ref yto, .ref yst, .ref ylo, .int (nI (k + 1)), .int res, .int (nI 0)]), (yop, zg E 4 oo), (ra, zi E 64 op), (ynu, zg E 4 nu), (rb, zi E 64 nn), (yk, zi E 620 (rwK 620 prs kf P)), (yv, zi E 620 (rwV 620 prs vf P)), (ysp, zi E 620 (zn (rwS 620 prs sp of P))), (yst, zi E 8 st), (ylo, zi E 4 lo)] 0 0 (As := [.int (nI 10), .int (st (h - 2)), .int (st (h - 1))]) (n := 3) (reckoned l_ E 10 (st (h - 2)) (st (h - 1)) (by omega) (by omega)) (zGIS (fun _ => zTs_in) wk_574 wk_572 wk_573 wk_20) rfl ⟨by decide, by decide, by decide +kernel⟩ rfl rfl (by decide) rfl rfl (Nat.le_of_ble_eq_true rfl) ⟨by decide, by decide⟩ rfl rfl ⟨by decide, by decide⟩ ⟨by decide, by decide⟩ dX7_call_493 rfl (fun r493 w493 hB493 => ?_)
          obtain ⟨rfl, rfl⟩ := hB493
          refine z_perm [0, 1, 2, 3, 4, 5, 6, 7, 8, 9] [(y, zo 7 [.int (nI sz), .ref yrk, .ref yrv, .int (nI rn), .ref yop, .ref ynu, .ref yle, .ref yk, .ref yv, .ref ysp, .int (nI (prs + P.length)), .ref yxk, .ref yxv, .int (nI rs), .int err, .ref yto, .ref yst, .ref ylo, .int (nI (k + 1)), .int res, .int (nI 0)]), (yop, zg E 4 oo), (ra, zi E 64 op), (ynu, zg E 4 nu), (rb, zi E 64 nn), (yk, zi E 620 (rwK 620 prs kf P)), (yv, zi E 620 (rwV 620 prs vf P)), (ysp, zi E 620 (zn (rwS 620 prs sp of P))), (yst, zi E 8 st), (ylo, zi E 4 lo)] (by decide) rfl ?_
          refine z_iastN 497 C0 8 [(y, zo 7 [.int (nI sz), .ref yrk, .ref yrv, .int (nI rn), .ref yop, .ref ynu, .ref yle, .ref yk, .ref yv, .ref ysp, .int (nI (prs + P.length)), .ref yxk, .ref yxv, .int (nI rs), .int err, .ref yto, .ref yst, .ref ylo, .int (nI (k + 1)), .int res, .int (nI 0)]), (yop, zg E 4 oo), (ra, zi E 64 op), (ynu, zg E 4 nu), (rb, zi E 64 nn), (yk, zi E 620 (rwK 620 prs kf P)), (yv, zi E 620 (rwV 620 prs vf P)), (ysp, zi E 620 (zn (rwS 620 prs sp of P))), (yst, zi E 8 (upd st (h - 2) (cmb 10 (st (h - 2)) (st (h - 1))))), (ylo, zi E 4 lo)] dX7_call_496 rfl rfl (by omega) (by decide) rfl ?_
          refine z_goto 27 C0 dX7_call_497 (by decide) ?_
          refine z_loc [0, 1, 2, 3, 4, 5, 6, 7, 8] [(0, .ref y), (1, .int (nI p)), (2, .int a), (3, .int b), (4, .int d), (5, .int (nI of)), (6, .int (nI (h - 1))), (7, .int (nI (i + 1))), (8, .int (nI (P.length)))] rfl ?_
          exact ih27 (k + 1) fu (i + 1) (h - 1) lo (upd st (h - 2) (cmb 10 (st (h - 2)) (st (h - 1)))) P (by omega) (hR.next ho ⟨by decide, by decide, by decide⟩) hP ((mRun_step hop (by decide) (by decide) (by decide) (fun q => absurd q.1 (by decide)) hcl).symm.trans hM) (by omega)
        · skip
          have hnd : 2 ≤ h := by have := ho.2.2.1; simpa [pNeed, nNeed] using this
          have hup : h + 0 - 1 ≤ 8 := ho.2.2.2
          have hcl : (nn i).toNatClampNeg = (nn i).toNatClampNeg := rfl
          refine z_aload_n 50 C0 0 dX7_call_49 rfl rfl rfl ?_
          refine z_get 53 C0 0 4 wz_7 rfl (by decide) (zTs_in wk_452) dX7_call_50 rfl rfl rfl ?_
          refine z_iload_n 54 C0 1 dX7_call_53 rfl rfl rfl ?_
          refine z_aald 55 C0 1 2 dX7_call_54 rfl rfl rfl rfl (by omega) (by decide) (v := .ref ra) (by rw [hoo]; rfl) ?_
          refine z_iload 57 C0 7 dX7_call_55 rfl rfl ?_
          refine z_ialdN 58 C0 2 (v := (nI 11)) dX7_call_57 rfl rfl (by omega) (by decide) hop ?_
          refine z_istore 60 C0 [1, 2, 3, 4, 5, 6, 7, 8, 9, 0] [(0, .ref y), (1, .int (nI p)), (2, .int a), (3, .int b), (4, .int d), (5, .int (nI of)), (6, .int (nI h)), (7, .int (nI i)), (8, .int (nI (P.length))), (9, .int (nI 11))] dX7_call_58 rfl (by decide) rfl ?_
          refine z_aload_n 61 C0 0 dX7_call_60 rfl rfl rfl ?_
          refine z_get 64 C0 0 5 wz_7 rfl (by decide) (zTs_in wk_453) dX7_call_61 rfl rfl rfl ?_
          refine z_iload_n 65 C0 1 dX7_call_64 rfl rfl rfl ?_
          refine z_aald 66 C0 3 2 dX7_call_65 rfl rfl rfl rfl (by omega) (by decide) (v := .ref rb) (by rw [hnu]; rfl) ?_
          refine z_iload 68 C0 7 dX7_call_66 rfl rfl ?_
          refine z_ialdN 69 C0 4 (v := (nn i)) dX7_call_68 rfl rfl (by omega) (by decide) rfl ?_
          refine z_istore 71 C0 [1, 2, 3, 4, 5, 6, 7, 8, 9, 10, 0] [(0, .ref y), (1, .int (nI p)), (2, .int a), (3, .int b), (4, .int d), (5, .int (nI of)), (6, .int (nI h)), (7, .int (nI i)), (8, .int (nI (P.length))), (9, .int (nI 11)), (10, .int (nn i))] dX7_call_69 rfl (by decide) rfl ?_
          refine z_iinc 74 C0 7 [1, 2, 3, 4, 5, 6, 7, 0, 8, 9, 10] [(0, .ref y), (1, .int (nI p)), (2, .int a), (3, .int b), (4, .int d), (5, .int (nI of)), (6, .int (nI h)), (7, .int (nI (i + 1))), (8, .int (nI (P.length))), (9, .int (nI 11)), (10, .int (nn i))] (v := (nI (i + 1))) dX7_call_71 rfl rfl (z_incN _ _) (by decide) rfl ?_
          refine z_iload 76 C0 9 dX7_call_74 rfl rfl ?_
          refine z_switch 464 C0 dX7_call_76 (by decide) (by decide) rfl (by decide) ?_
          refine z_iinc 467 C0 6 [1, 2, 3, 4, 5, 6, 0, 7, 8, 9, 10] [(0, .ref y), (1, .int (nI p)), (2, .int a), (3, .int b), (4, .int d), (5, .int (nI of)), (6, .int (nI (h - 1))), (7, .int (nI (i + 1))), (8, .int (nI (P.length))), (9, .int (nI 11)), (10, .int (nn i))] (v := (nI (h - 1))) dX7_call_464 rfl rfl (z_decC (a := h) (c := 1) (b := (h - 1)) (by omega) (by omega)) (by decide) rfl ?_
          refine z_aload_n 468 C0 0 dX7_call_467 rfl rfl rfl ?_
          refine z_get 471 C0 0 16 wz_7 rfl (by decide) (zTs_in wk_464) dX7_call_468 rfl rfl rfl ?_
          refine z_iload 473 C0 6 dX7_call_471 rfl rfl ?_
          refine z_iconst 474 C0 (v := (nI 1)) dX7_call_473 rfl rfl ?_
          refine z_isub 475 C0 (v := (nI (h - 2))) dX7_call_474 rfl (z_subN (by omega)) ?_
          refine z_iload 477 C0 9 dX7_call_475 rfl rfl ?_
          refine z_aload_n 478 C0 0 dX7_call_477 rfl rfl rfl ?_
          refine z_get 481 C0 0 16 wz_7 rfl (by decide) (zTs_in wk_464) dX7_call_478 rfl rfl rfl ?_
          refine z_iload 483 C0 6 dX7_call_481 rfl rfl ?_
          refine z_iconst 484 C0 (v := (nI 1)) dX7_call_483 rfl rfl ?_
          refine z_isub 485 C0 (v := (nI (h - 2))) dX7_call_484 rfl (z_subN (by omega)) ?_
          refine z_ialdN 486 C0 8 (v := (st (h - 2))) dX7_call_485 rfl rfl (by omega) (by decide) rfl ?_
          refine z_aload_n 487 C0 0 dX7_call_486 rfl rfl rfl ?_
          refine z_get 490 C0 0 16 wz_7 rfl (by decide) (zTs_in wk_464) dX7_call_487 rfl rfl rfl ?_
          refine z_iload 492 C0 6 dX7_call_490 rfl rfl ?_
          refine z_ialdN 493 C0 8 (v := (st (h - 1))) dX7_call_492 rfl rfl (by omega) (by decide) rfl ?_
          refine z_callSi 496 C0 [] [0, 1, 2, 3, 4, 5, 6, 7, 8, 9] [(y, zo 7 [.int (nI sz), .ref yrk, .ref yrv, .int (nI rn), .ref yop, .ref ynu, .ref yle, .ref yk, .ref yv, .ref ysp, .int (nI (prs + P.length)), .ref yxk, .ref yxv, .int (nI rs), .int err, .ref yto, .ref yst, .ref ylo, .int (nI (k + 1)), .int res, .int (nI 0)]), (yop, zg E 4 oo), (ra, zi E 64 op), (ynu, zg E 4 nu), (rb, zi E 64 nn), (yk, zi E 620 (rwK 620 prs kf P)), (yv, zi E 620 (rwV 620 prs vf P)), (ysp, zi E 620 (zn (rwS 620 prs sp of P))), (yst, zi E 8 st), (ylo, zi E 4 lo)] 0 0 (As := [.int (nI 11), .int (st (h - 2)), .int (st (h - 1))]) (n := 3) (reckoned l_ E 11 (st (h - 2)) (st (h - 1)) (by omega) (by omega)) (zGIS (fun _ => zTs_in) wk_574 wk_572 wk_573 wk_20) rfl ⟨by decide, by decide, by decide +kernel⟩ rfl rfl (by decide) rfl rfl (Nat.le_of_ble_eq_true rfl) ⟨by decide, by decide⟩ rfl rfl ⟨by decide, by decide⟩ ⟨by decide, by decide⟩ dX7_call_493 rfl (fun r493 w493 hB493 => ?_)
          obtain ⟨rfl, rfl⟩ := hB493
          refine z_perm [0, 1, 2, 3, 4, 5, 6, 7, 8, 9] [(y, zo 7 [.int (nI sz), .ref yrk, .ref yrv, .int (nI rn), .ref yop, .ref ynu, .ref yle, .ref yk, .ref yv, .ref ysp, .int (nI (prs + P.length)), .ref yxk, .ref yxv, .int (nI rs), .int err, .ref yto, .ref yst, .ref ylo, .int (nI (k + 1)), .int res, .int (nI 0)]), (yop, zg E 4 oo), (ra, zi E 64 op), (ynu, zg E 4 nu), (rb, zi E 64 nn), (yk, zi E 620 (rwK 620 prs kf P)), (yv, zi E 620 (rwV 620 prs vf P)), (ysp, zi E 620 (zn (rwS 620 prs sp of P))), (yst, zi E 8 st), (ylo, zi E 4 lo)] (by decide) rfl ?_
          refine z_iastN 497 C0 8 [(y, zo 7 [.int (nI sz), .ref yrk, .ref yrv, .int (nI rn), .ref yop, .ref ynu, .ref yle, .ref yk, .ref yv, .ref ysp, .int (nI (prs + P.length)), .ref yxk, .ref yxv, .int (nI rs), .int err, .ref yto, .ref yst, .ref ylo, .int (nI (k + 1)), .int res, .int (nI 0)]), (yop, zg E 4 oo), (ra, zi E 64 op), (ynu, zg E 4 nu), (rb, zi E 64 nn), (yk, zi E 620 (rwK 620 prs kf P)), (yv, zi E 620 (rwV 620 prs vf P)), (ysp, zi E 620 (zn (rwS 620 prs sp of P))), (yst, zi E 8 (upd st (h - 2) (cmb 11 (st (h - 2)) (st (h - 1))))), (ylo, zi E 4 lo)] dX7_call_496 rfl rfl (by omega) (by decide) rfl ?_
          refine z_goto 27 C0 dX7_call_497 (by decide) ?_
          refine z_loc [0, 1, 2, 3, 4, 5, 6, 7, 8] [(0, .ref y), (1, .int (nI p)), (2, .int a), (3, .int b), (4, .int d), (5, .int (nI of)), (6, .int (nI (h - 1))), (7, .int (nI (i + 1))), (8, .int (nI (P.length)))] rfl ?_
          exact ih27 (k + 1) fu (i + 1) (h - 1) lo (upd st (h - 2) (cmb 11 (st (h - 2)) (st (h - 1)))) P (by omega) (hR.next ho ⟨by decide, by decide, by decide⟩) hP ((mRun_step hop (by decide) (by decide) (by decide) (fun q => absurd q.1 (by decide)) hcl).symm.trans hM) (by omega)
        · skip
          have hnd : 2 ≤ h := by have := ho.2.2.1; simpa [pNeed, nNeed] using this
          have hup : h + 0 - 1 ≤ 8 := ho.2.2.2
          have hcl : (nn i).toNatClampNeg = (nn i).toNatClampNeg := rfl
          refine z_aload_n 50 C0 0 dX7_call_49 rfl rfl rfl ?_
          refine z_get 53 C0 0 4 wz_7 rfl (by decide) (zTs_in wk_452) dX7_call_50 rfl rfl rfl ?_
          refine z_iload_n 54 C0 1 dX7_call_53 rfl rfl rfl ?_
          refine z_aald 55 C0 1 2 dX7_call_54 rfl rfl rfl rfl (by omega) (by decide) (v := .ref ra) (by rw [hoo]; rfl) ?_
          refine z_iload 57 C0 7 dX7_call_55 rfl rfl ?_
          refine z_ialdN 58 C0 2 (v := (nI 12)) dX7_call_57 rfl rfl (by omega) (by decide) hop ?_
          refine z_istore 60 C0 [1, 2, 3, 4, 5, 6, 7, 8, 9, 0] [(0, .ref y), (1, .int (nI p)), (2, .int a), (3, .int b), (4, .int d), (5, .int (nI of)), (6, .int (nI h)), (7, .int (nI i)), (8, .int (nI (P.length))), (9, .int (nI 12))] dX7_call_58 rfl (by decide) rfl ?_
          refine z_aload_n 61 C0 0 dX7_call_60 rfl rfl rfl ?_
          refine z_get 64 C0 0 5 wz_7 rfl (by decide) (zTs_in wk_453) dX7_call_61 rfl rfl rfl ?_
          refine z_iload_n 65 C0 1 dX7_call_64 rfl rfl rfl ?_
          refine z_aald 66 C0 3 2 dX7_call_65 rfl rfl rfl rfl (by omega) (by decide) (v := .ref rb) (by rw [hnu]; rfl) ?_
          refine z_iload 68 C0 7 dX7_call_66 rfl rfl ?_
          refine z_ialdN 69 C0 4 (v := (nn i)) dX7_call_68 rfl rfl (by omega) (by decide) rfl ?_
          refine z_istore 71 C0 [1, 2, 3, 4, 5, 6, 7, 8, 9, 10, 0] [(0, .ref y), (1, .int (nI p)), (2, .int a), (3, .int b), (4, .int d), (5, .int (nI of)), (6, .int (nI h)), (7, .int (nI i)), (8, .int (nI (P.length))), (9, .int (nI 12)), (10, .int (nn i))] dX7_call_69 rfl (by decide) rfl ?_
          refine z_iinc 74 C0 7 [1, 2, 3, 4, 5, 6, 7, 0, 8, 9, 10] [(0, .ref y), (1, .int (nI p)), (2, .int a), (3, .int b), (4, .int d), (5, .int (nI of)), (6, .int (nI h)), (7, .int (nI (i + 1))), (8, .int (nI (P.length))), (9, .int (nI 12)), (10, .int (nn i))] (v := (nI (i + 1))) dX7_call_71 rfl rfl (z_incN _ _) (by decide) rfl ?_
          refine z_iload 76 C0 9 dX7_call_74 rfl rfl ?_
          refine z_switch 464 C0 dX7_call_76 (by decide) (by decide) rfl (by decide) ?_
          refine z_iinc 467 C0 6 [1, 2, 3, 4, 5, 6, 0, 7, 8, 9, 10] [(0, .ref y), (1, .int (nI p)), (2, .int a), (3, .int b), (4, .int d), (5, .int (nI of)), (6, .int (nI (h - 1))), (7, .int (nI (i + 1))), (8, .int (nI (P.length))), (9, .int (nI 12)), (10, .int (nn i))] (v := (nI (h - 1))) dX7_call_464 rfl rfl (z_decC (a := h) (c := 1) (b := (h - 1)) (by omega) (by omega)) (by decide) rfl ?_
          refine z_aload_n 468 C0 0 dX7_call_467 rfl rfl rfl ?_
          refine z_get 471 C0 0 16 wz_7 rfl (by decide) (zTs_in wk_464) dX7_call_468 rfl rfl rfl ?_
          refine z_iload 473 C0 6 dX7_call_471 rfl rfl ?_
          refine z_iconst 474 C0 (v := (nI 1)) dX7_call_473 rfl rfl ?_
          refine z_isub 475 C0 (v := (nI (h - 2))) dX7_call_474 rfl (z_subN (by omega)) ?_
          refine z_iload 477 C0 9 dX7_call_475 rfl rfl ?_
          refine z_aload_n 478 C0 0 dX7_call_477 rfl rfl rfl ?_
          refine z_get 481 C0 0 16 wz_7 rfl (by decide) (zTs_in wk_464) dX7_call_478 rfl rfl rfl ?_
          refine z_iload 483 C0 6 dX7_call_481 rfl rfl ?_
          refine z_iconst 484 C0 (v := (nI 1)) dX7_call_483 rfl rfl ?_
          refine z_isub 485 C0 (v := (nI (h - 2))) dX7_call_484 rfl (z_subN (by omega)) ?_
          refine z_ialdN 486 C0 8 (v := (st (h - 2))) dX7_call_485 rfl rfl (by omega) (by decide) rfl ?_
          refine z_aload_n 487 C0 0 dX7_call_486 rfl rfl rfl ?_
          refine z_get 490 C0 0 16 wz_7 rfl (by decide) (zTs_in wk_464) dX7_call_487 rfl rfl rfl ?_
          refine z_iload 492 C0 6 dX7_call_490 rfl rfl ?_
          refine z_ialdN 493 C0 8 (v := (st (h - 1))) dX7_call_492 rfl rfl (by omega) (by decide) rfl ?_
          refine z_callSi 496 C0 [] [0, 1, 2, 3, 4, 5, 6, 7, 8, 9] [(y, zo 7 [.int (nI sz), .ref yrk, .ref yrv, .int (nI rn), .ref yop, .ref ynu, .ref yle, .ref yk, .ref yv, .ref ysp, .int (nI (prs + P.length)), .ref yxk, .ref yxv, .int (nI rs), .int err, .ref yto, .ref yst, .ref ylo, .int (nI (k + 1)), .int res, .int (nI 0)]), (yop, zg E 4 oo), (ra, zi E 64 op), (ynu, zg E 4 nu), (rb, zi E 64 nn), (yk, zi E 620 (rwK 620 prs kf P)), (yv, zi E 620 (rwV 620 prs vf P)), (ysp, zi E 620 (zn (rwS 620 prs sp of P))), (yst, zi E 8 st), (ylo, zi E 4 lo)] 0 0 (As := [.int (nI 12), .int (st (h - 2)), .int (st (h - 1))]) (n := 3) (reckoned l_ E 12 (st (h - 2)) (st (h - 1)) (by omega) (by omega)) (zGIS (fun _ => zTs_in) wk_574 wk_572 wk_573 wk_20) rfl ⟨by decide, by decide, by decide +kernel⟩ rfl rfl (by decide) rfl rfl (Nat.le_of_ble_eq_true rfl) ⟨by decide, by decide⟩ rfl rfl ⟨by decide, by decide⟩ ⟨by decide, by decide⟩ dX7_call_493 rfl (fun r493 w493 hB493 => ?_)
          obtain ⟨rfl, rfl⟩ := hB493
          refine z_perm [0, 1, 2, 3, 4, 5, 6, 7, 8, 9] [(y, zo 7 [.int (nI sz), .ref yrk, .ref yrv, .int (nI rn), .ref yop, .ref ynu, .ref yle, .ref yk, .ref yv, .ref ysp, .int (nI (prs + P.length)), .ref yxk, .ref yxv, .int (nI rs), .int err, .ref yto, .ref yst, .ref ylo, .int (nI (k + 1)), .int res, .int (nI 0)]), (yop, zg E 4 oo), (ra, zi E 64 op), (ynu, zg E 4 nu), (rb, zi E 64 nn), (yk, zi E 620 (rwK 620 prs kf P)), (yv, zi E 620 (rwV 620 prs vf P)), (ysp, zi E 620 (zn (rwS 620 prs sp of P))), (yst, zi E 8 st), (ylo, zi E 4 lo)] (by decide) rfl ?_
          refine z_iastN 497 C0 8 [(y, zo 7 [.int (nI sz), .ref yrk, .ref yrv, .int (nI rn), .ref yop, .ref ynu, .ref yle, .ref yk, .ref yv, .ref ysp, .int (nI (prs + P.length)), .ref yxk, .ref yxv, .int (nI rs), .int err, .ref yto, .ref yst, .ref ylo, .int (nI (k + 1)), .int res, .int (nI 0)]), (yop, zg E 4 oo), (ra, zi E 64 op), (ynu, zg E 4 nu), (rb, zi E 64 nn), (yk, zi E 620 (rwK 620 prs kf P)), (yv, zi E 620 (rwV 620 prs vf P)), (ysp, zi E 620 (zn (rwS 620 prs sp of P))), (yst, zi E 8 (upd st (h - 2) (cmb 12 (st (h - 2)) (st (h - 1))))), (ylo, zi E 4 lo)] dX7_call_496 rfl rfl (by omega) (by decide) rfl ?_
          refine z_goto 27 C0 dX7_call_497 (by decide) ?_
          refine z_loc [0, 1, 2, 3, 4, 5, 6, 7, 8] [(0, .ref y), (1, .int (nI p)), (2, .int a), (3, .int b), (4, .int d), (5, .int (nI of)), (6, .int (nI (h - 1))), (7, .int (nI (i + 1))), (8, .int (nI (P.length)))] rfl ?_
          exact ih27 (k + 1) fu (i + 1) (h - 1) lo (upd st (h - 2) (cmb 12 (st (h - 2)) (st (h - 1)))) P (by omega) (hR.next ho ⟨by decide, by decide, by decide⟩) hP ((mRun_step hop (by decide) (by decide) (by decide) (fun q => absurd q.1 (by decide)) hcl).symm.trans hM) (by omega)
        · skip
          have hnd : 2 ≤ h := by have := ho.2.2.1; simpa [pNeed, nNeed] using this
          have hup : h + 0 - 1 ≤ 8 := ho.2.2.2
          have hcl : (nn i).toNatClampNeg = (nn i).toNatClampNeg := rfl
          refine z_aload_n 50 C0 0 dX7_call_49 rfl rfl rfl ?_
          refine z_get 53 C0 0 4 wz_7 rfl (by decide) (zTs_in wk_452) dX7_call_50 rfl rfl rfl ?_
          refine z_iload_n 54 C0 1 dX7_call_53 rfl rfl rfl ?_
          refine z_aald 55 C0 1 2 dX7_call_54 rfl rfl rfl rfl (by omega) (by decide) (v := .ref ra) (by rw [hoo]; rfl) ?_
          refine z_iload 57 C0 7 dX7_call_55 rfl rfl ?_
          refine z_ialdN 58 C0 2 (v := (nI 13)) dX7_call_57 rfl rfl (by omega) (by decide) hop ?_
          refine z_istore 60 C0 [1, 2, 3, 4, 5, 6, 7, 8, 9, 0] [(0, .ref y), (1, .int (nI p)), (2, .int a), (3, .int b), (4, .int d), (5, .int (nI of)), (6, .int (nI h)), (7, .int (nI i)), (8, .int (nI (P.length))), (9, .int (nI 13))] dX7_call_58 rfl (by decide) rfl ?_
          refine z_aload_n 61 C0 0 dX7_call_60 rfl rfl rfl ?_
          refine z_get 64 C0 0 5 wz_7 rfl (by decide) (zTs_in wk_453) dX7_call_61 rfl rfl rfl ?_
          refine z_iload_n 65 C0 1 dX7_call_64 rfl rfl rfl ?_
          refine z_aald 66 C0 3 2 dX7_call_65 rfl rfl rfl rfl (by omega) (by decide) (v := .ref rb) (by rw [hnu]; rfl) ?_
          refine z_iload 68 C0 7 dX7_call_66 rfl rfl ?_
          refine z_ialdN 69 C0 4 (v := (nn i)) dX7_call_68 rfl rfl (by omega) (by decide) rfl ?_
          refine z_istore 71 C0 [1, 2, 3, 4, 5, 6, 7, 8, 9, 10, 0] [(0, .ref y), (1, .int (nI p)), (2, .int a), (3, .int b), (4, .int d), (5, .int (nI of)), (6, .int (nI h)), (7, .int (nI i)), (8, .int (nI (P.length))), (9, .int (nI 13)), (10, .int (nn i))] dX7_call_69 rfl (by decide) rfl ?_
          refine z_iinc 74 C0 7 [1, 2, 3, 4, 5, 6, 7, 0, 8, 9, 10] [(0, .ref y), (1, .int (nI p)), (2, .int a), (3, .int b), (4, .int d), (5, .int (nI of)), (6, .int (nI h)), (7, .int (nI (i + 1))), (8, .int (nI (P.length))), (9, .int (nI 13)), (10, .int (nn i))] (v := (nI (i + 1))) dX7_call_71 rfl rfl (z_incN _ _) (by decide) rfl ?_
          refine z_iload 76 C0 9 dX7_call_74 rfl rfl ?_
          refine z_switch 464 C0 dX7_call_76 (by decide) (by decide) rfl (by decide) ?_
          refine z_iinc 467 C0 6 [1, 2, 3, 4, 5, 6, 0, 7, 8, 9, 10] [(0, .ref y), (1, .int (nI p)), (2, .int a), (3, .int b), (4, .int d), (5, .int (nI of)), (6, .int (nI (h - 1))), (7, .int (nI (i + 1))), (8, .int (nI (P.length))), (9, .int (nI 13)), (10, .int (nn i))] (v := (nI (h - 1))) dX7_call_464 rfl rfl (z_decC (a := h) (c := 1) (b := (h - 1)) (by omega) (by omega)) (by decide) rfl ?_
          refine z_aload_n 468 C0 0 dX7_call_467 rfl rfl rfl ?_
          refine z_get 471 C0 0 16 wz_7 rfl (by decide) (zTs_in wk_464) dX7_call_468 rfl rfl rfl ?_
          refine z_iload 473 C0 6 dX7_call_471 rfl rfl ?_
          refine z_iconst 474 C0 (v := (nI 1)) dX7_call_473 rfl rfl ?_
          refine z_isub 475 C0 (v := (nI (h - 2))) dX7_call_474 rfl (z_subN (by omega)) ?_
          refine z_iload 477 C0 9 dX7_call_475 rfl rfl ?_
          refine z_aload_n 478 C0 0 dX7_call_477 rfl rfl rfl ?_
          refine z_get 481 C0 0 16 wz_7 rfl (by decide) (zTs_in wk_464) dX7_call_478 rfl rfl rfl ?_
          refine z_iload 483 C0 6 dX7_call_481 rfl rfl ?_
          refine z_iconst 484 C0 (v := (nI 1)) dX7_call_483 rfl rfl ?_
          refine z_isub 485 C0 (v := (nI (h - 2))) dX7_call_484 rfl (z_subN (by omega)) ?_
          refine z_ialdN 486 C0 8 (v := (st (h - 2))) dX7_call_485 rfl rfl (by omega) (by decide) rfl ?_
          refine z_aload_n 487 C0 0 dX7_call_486 rfl rfl rfl ?_
          refine z_get 490 C0 0 16 wz_7 rfl (by decide) (zTs_in wk_464) dX7_call_487 rfl rfl rfl ?_
          refine z_iload 492 C0 6 dX7_call_490 rfl rfl ?_
          refine z_ialdN 493 C0 8 (v := (st (h - 1))) dX7_call_492 rfl rfl (by omega) (by decide) rfl ?_
          refine z_callSi 496 C0 [] [0, 1, 2, 3, 4, 5, 6, 7, 8, 9] [(y, zo 7 [.int (nI sz), .ref yrk, .ref yrv, .int (nI rn), .ref yop, .ref ynu, .ref yle, .ref yk, .ref yv, .ref ysp, .int (nI (prs + P.length)), .ref yxk, .ref yxv, .int (nI rs), .int err, .ref yto, .ref yst, .ref ylo, .int (nI (k + 1)), .int res, .int (nI 0)]), (yop, zg E 4 oo), (ra, zi E 64 op), (ynu, zg E 4 nu), (rb, zi E 64 nn), (yk, zi E 620 (rwK 620 prs kf P)), (yv, zi E 620 (rwV 620 prs vf P)), (ysp, zi E 620 (zn (rwS 620 prs sp of P))), (yst, zi E 8 st), (ylo, zi E 4 lo)] 0 0 (As := [.int (nI 13), .int (st (h - 2)), .int (st (h - 1))]) (n := 3) (reckoned l_ E 13 (st (h - 2)) (st (h - 1)) (by omega) (by omega)) (zGIS (fun _ => zTs_in) wk_574 wk_572 wk_573 wk_20) rfl ⟨by decide, by decide, by decide +kernel⟩ rfl rfl (by decide) rfl rfl (Nat.le_of_ble_eq_true rfl) ⟨by decide, by decide⟩ rfl rfl ⟨by decide, by decide⟩ ⟨by decide, by decide⟩ dX7_call_493 rfl (fun r493 w493 hB493 => ?_)
          obtain ⟨rfl, rfl⟩ := hB493
          refine z_perm [0, 1, 2, 3, 4, 5, 6, 7, 8, 9] [(y, zo 7 [.int (nI sz), .ref yrk, .ref yrv, .int (nI rn), .ref yop, .ref ynu, .ref yle, .ref yk, .ref yv, .ref ysp, .int (nI (prs + P.length)), .ref yxk, .ref yxv, .int (nI rs), .int err, .ref yto, .ref yst, .ref ylo, .int (nI (k + 1)), .int res, .int (nI 0)]), (yop, zg E 4 oo), (ra, zi E 64 op), (ynu, zg E 4 nu), (rb, zi E 64 nn), (yk, zi E 620 (rwK 620 prs kf P)), (yv, zi E 620 (rwV 620 prs vf P)), (ysp, zi E 620 (zn (rwS 620 prs sp of P))), (yst, zi E 8 st), (ylo, zi E 4 lo)] (by decide) rfl ?_
          refine z_iastN 497 C0 8 [(y, zo 7 [.int (nI sz), .ref yrk, .ref yrv, .int (nI rn), .ref yop, .ref ynu, .ref yle, .ref yk, .ref yv, .ref ysp, .int (nI (prs + P.length)), .ref yxk, .ref yxv, .int (nI rs), .int err, .ref yto, .ref yst, .ref ylo, .int (nI (k + 1)), .int res, .int (nI 0)]), (yop, zg E 4 oo), (ra, zi E 64 op), (ynu, zg E 4 nu), (rb, zi E 64 nn), (yk, zi E 620 (rwK 620 prs kf P)), (yv, zi E 620 (rwV 620 prs vf P)), (ysp, zi E 620 (zn (rwS 620 prs sp of P))), (yst, zi E 8 (upd st (h - 2) (cmb 13 (st (h - 2)) (st (h - 1))))), (ylo, zi E 4 lo)] dX7_call_496 rfl rfl (by omega) (by decide) rfl ?_
          refine z_goto 27 C0 dX7_call_497 (by decide) ?_
          refine z_loc [0, 1, 2, 3, 4, 5, 6, 7, 8] [(0, .ref y), (1, .int (nI p)), (2, .int a), (3, .int b), (4, .int d), (5, .int (nI of)), (6, .int (nI (h - 1))), (7, .int (nI (i + 1))), (8, .int (nI (P.length)))] rfl ?_
          exact ih27 (k + 1) fu (i + 1) (h - 1) lo (upd st (h - 2) (cmb 13 (st (h - 2)) (st (h - 1)))) P (by omega) (hR.next ho ⟨by decide, by decide, by decide⟩) hP ((mRun_step hop (by decide) (by decide) (by decide) (fun q => absurd q.1 (by decide)) hcl).symm.trans hM) (by omega)
        · skip
          have hnd : 0 ≤ h := by have := ho.2.2.1; simpa [pNeed, nNeed] using this
          have hup : h + 0 - 0 ≤ 8 := ho.2.2.2
          obtain ⟨j, hj, hnn⟩ := ho.1.2.2.2.2.2.2 (by omega)
          have hcl : (nn i).toNatClampNeg = j := by rw [hnn]; exact nI_clamp (by omega)
          refine z_aload_n 50 C0 0 dX7_call_49 rfl rfl rfl ?_
          refine z_get 53 C0 0 4 wz_7 rfl (by decide) (zTs_in wk_452) dX7_call_50 rfl rfl rfl ?_
          refine z_iload_n 54 C0 1 dX7_call_53 rfl rfl rfl ?_
          refine z_aald 55 C0 1 2 dX7_call_54 rfl rfl rfl rfl (by omega) (by decide) (v := .ref ra) (by rw [hoo]; rfl) ?_
          refine z_iload 57 C0 7 dX7_call_55 rfl rfl ?_
          refine z_ialdN 58 C0 2 (v := (nI 14)) dX7_call_57 rfl rfl (by omega) (by decide) hop ?_
          refine z_istore 60 C0 [1, 2, 3, 4, 5, 6, 7, 8, 9, 0] [(0, .ref y), (1, .int (nI p)), (2, .int a), (3, .int b), (4, .int d), (5, .int (nI of)), (6, .int (nI h)), (7, .int (nI i)), (8, .int (nI (P.length))), (9, .int (nI 14))] dX7_call_58 rfl (by decide) rfl ?_
          refine z_aload_n 61 C0 0 dX7_call_60 rfl rfl rfl ?_
          refine z_get 64 C0 0 5 wz_7 rfl (by decide) (zTs_in wk_453) dX7_call_61 rfl rfl rfl ?_
          refine z_iload_n 65 C0 1 dX7_call_64 rfl rfl rfl ?_
          refine z_aald 66 C0 3 2 dX7_call_65 rfl rfl rfl rfl (by omega) (by decide) (v := .ref rb) (by rw [hnu]; rfl) ?_
          refine z_iload 68 C0 7 dX7_call_66 rfl rfl ?_
          refine z_ialdN 69 C0 4 (v := (nI j)) dX7_call_68 rfl rfl (by omega) (by decide) hnn ?_
          refine z_istore 71 C0 [1, 2, 3, 4, 5, 6, 7, 8, 9, 10, 0] [(0, .ref y), (1, .int (nI p)), (2, .int a), (3, .int b), (4, .int d), (5, .int (nI of)), (6, .int (nI h)), (7, .int (nI i)), (8, .int (nI (P.length))), (9, .int (nI 14)), (10, .int (nI j))] dX7_call_69 rfl (by decide) rfl ?_
          refine z_iinc 74 C0 7 [1, 2, 3, 4, 5, 6, 7, 0, 8, 9, 10] [(0, .ref y), (1, .int (nI p)), (2, .int a), (3, .int b), (4, .int d), (5, .int (nI of)), (6, .int (nI h)), (7, .int (nI (i + 1))), (8, .int (nI (P.length))), (9, .int (nI 14)), (10, .int (nI j))] (v := (nI (i + 1))) dX7_call_71 rfl rfl (z_incN _ _) (by decide) rfl ?_
          refine z_iload 76 C0 9 dX7_call_74 rfl rfl ?_
          refine z_switch 328 C0 dX7_call_76 (by decide) (by decide) rfl (by decide) ?_
          refine z_iload 330 C0 10 dX7_call_328 rfl rfl ?_
          refine z_istore 332 C0 [1, 2, 3, 4, 5, 6, 7, 0, 8, 9, 10] [(0, .ref y), (1, .int (nI p)), (2, .int a), (3, .int b), (4, .int d), (5, .int (nI of)), (6, .int (nI h)), (7, .int (nI j)), (8, .int (nI (P.length))), (9, .int (nI 14)), (10, .int (nI j))] dX7_call_330 rfl (by decide) rfl ?_
          refine z_goto 497 C0 dX7_call_332 (by decide) ?_
          refine z_goto 27 C0 dX7_call_497 (by decide) ?_
          refine z_loc [0, 1, 2, 3, 4, 5, 6, 7, 8] [(0, .ref y), (1, .int (nI p)), (2, .int a), (3, .int b), (4, .int d), (5, .int (nI of)), (6, .int (nI h)), (7, .int (nI j)), (8, .int (nI (P.length)))] rfl ?_
          exact ih27 (k + 1) fu j h lo st P (by omega) (hR.jump ho (by omega) hj hnn) hP ((mRun_step hop (by decide) (by decide) (by decide) (fun q => absurd q.1 (by decide)) hcl).symm.trans hM) (by omega)
        · skip
          have hnd : 1 ≤ h := by have := ho.2.2.1; simpa [pNeed, nNeed] using this
          have hup : h + 0 - 1 ≤ 8 := ho.2.2.2
          obtain ⟨j, hj, hnn⟩ := ho.1.2.2.2.2.2.2 (by omega)
          have hcl : (nn i).toNatClampNeg = j := by rw [hnn]; exact nI_clamp (by omega)
          refine z_aload_n 50 C0 0 dX7_call_49 rfl rfl rfl ?_
          refine z_get 53 C0 0 4 wz_7 rfl (by decide) (zTs_in wk_452) dX7_call_50 rfl rfl rfl ?_
          refine z_iload_n 54 C0 1 dX7_call_53 rfl rfl rfl ?_
          refine z_aald 55 C0 1 2 dX7_call_54 rfl rfl rfl rfl (by omega) (by decide) (v := .ref ra) (by rw [hoo]; rfl) ?_
          refine z_iload 57 C0 7 dX7_call_55 rfl rfl ?_
          refine z_ialdN 58 C0 2 (v := (nI 15)) dX7_call_57 rfl rfl (by omega) (by decide) hop ?_
          refine z_istore 60 C0 [1, 2, 3, 4, 5, 6, 7, 8, 9, 0] [(0, .ref y), (1, .int (nI p)), (2, .int a), (3, .int b), (4, .int d), (5, .int (nI of)), (6, .int (nI h)), (7, .int (nI i)), (8, .int (nI (P.length))), (9, .int (nI 15))] dX7_call_58 rfl (by decide) rfl ?_
          refine z_aload_n 61 C0 0 dX7_call_60 rfl rfl rfl ?_
          refine z_get 64 C0 0 5 wz_7 rfl (by decide) (zTs_in wk_453) dX7_call_61 rfl rfl rfl ?_
          refine z_iload_n 65 C0 1 dX7_call_64 rfl rfl rfl ?_
          refine z_aald 66 C0 3 2 dX7_call_65 rfl rfl rfl rfl (by omega) (by decide) (v := .ref rb) (by rw [hnu]; rfl) ?_
          refine z_iload 68 C0 7 dX7_call_66 rfl rfl ?_
          refine z_ialdN 69 C0 4 (v := (nI j)) dX7_call_68 rfl rfl (by omega) (by decide) hnn ?_
          refine z_istore 71 C0 [1, 2, 3, 4, 5, 6, 7, 8, 9, 10, 0] [(0, .ref y), (1, .int (nI p)), (2, .int a), (3, .int b), (4, .int d), (5, .int (nI of)), (6, .int (nI h)), (7, .int (nI i)), (8, .int (nI (P.length))), (9, .int (nI 15)), (10, .int (nI j))] dX7_call_69 rfl (by decide) rfl ?_
          refine z_iinc 74 C0 7 [1, 2, 3, 4, 5, 6, 7, 0, 8, 9, 10] [(0, .ref y), (1, .int (nI p)), (2, .int a), (3, .int b), (4, .int d), (5, .int (nI of)), (6, .int (nI h)), (7, .int (nI (i + 1))), (8, .int (nI (P.length))), (9, .int (nI 15)), (10, .int (nI j))] (v := (nI (i + 1))) dX7_call_71 rfl rfl (z_incN _ _) (by decide) rfl ?_
          refine z_iload 76 C0 9 dX7_call_74 rfl rfl ?_
          refine z_switch 335 C0 dX7_call_76 (by decide) (by decide) rfl (by decide) ?_
          refine z_iinc 338 C0 6 [1, 2, 3, 4, 5, 6, 0, 7, 8, 9, 10] [(0, .ref y), (1, .int (nI p)), (2, .int a), (3, .int b), (4, .int d), (5, .int (nI of)), (6, .int (nI (h - 1))), (7, .int (nI (i + 1))), (8, .int (nI (P.length))), (9, .int (nI 15)), (10, .int (nI j))] (v := (nI (h - 1))) dX7_call_335 rfl rfl (z_decC (a := h) (c := 1) (b := (h - 1)) (by omega) (by omega)) (by decide) rfl ?_
          refine z_aload_n 339 C0 0 dX7_call_338 rfl rfl rfl ?_
          refine z_get 342 C0 0 16 wz_7 rfl (by decide) (zTs_in wk_464) dX7_call_339 rfl rfl rfl ?_
          refine z_iload 344 C0 6 dX7_call_342 rfl rfl ?_
          refine z_ialdN 345 C0 8 (v := (st (h - 1))) dX7_call_344 rfl rfl (by omega) (by decide) rfl ?_
          refine z_if_ne 348 497 C0 dX7_call_345 rfl (by decide) (fun k345 => ?_) (fun k345 => ?_)
          · skip
            refine z_goto 27 C0 dX7_call_497 (by decide) ?_
            refine z_loc [0, 1, 2, 3, 4, 5, 6, 7, 8] [(0, .ref y), (1, .int (nI p)), (2, .int a), (3, .int b), (4, .int d), (5, .int (nI of)), (6, .int (nI (h - 1))), (7, .int (nI (i + 1))), (8, .int (nI (P.length)))] rfl ?_
            exact ih27 (k + 1) fu (i + 1) (h - 1) lo st P (by omega) (hR.next ho ⟨by decide, by decide, by decide⟩) hP ((by rw [mRun_step hop (by decide) (by decide) (by decide) (fun q => absurd q.1 (by decide)) hcl] at hM; unfold aAt at hM; rw [if_neg (by decide), if_pos rfl, popV_s (by omega), if_neg k345] at hM; exact hM)) (by omega)
          · skip
            refine z_iload 350 C0 10 dX7_call_348 rfl rfl ?_
            refine z_istore 352 C0 [1, 2, 3, 4, 5, 6, 7, 0, 8, 9, 10] [(0, .ref y), (1, .int (nI p)), (2, .int a), (3, .int b), (4, .int d), (5, .int (nI of)), (6, .int (nI (h - 1))), (7, .int (nI j)), (8, .int (nI (P.length))), (9, .int (nI 15)), (10, .int (nI j))] dX7_call_350 rfl (by decide) rfl ?_
            refine z_goto 497 C0 dX7_call_352 (by decide) ?_
            refine z_goto 27 C0 dX7_call_497 (by decide) ?_
            refine z_loc [0, 1, 2, 3, 4, 5, 6, 7, 8] [(0, .ref y), (1, .int (nI p)), (2, .int a), (3, .int b), (4, .int d), (5, .int (nI of)), (6, .int (nI (h - 1))), (7, .int (nI j)), (8, .int (nI (P.length)))] rfl ?_
            exact ih27 (k + 1) fu j (h - 1) lo st P (by omega) (hR.jump ho (by omega) hj hnn) hP ((by rw [mRun_step hop (by decide) (by decide) (by decide) (fun q => absurd q.1 (by decide)) hcl] at hM; unfold aAt at hM; rw [if_neg (by decide), if_pos rfl, popV_s (by omega), if_pos k345] at hM; exact hM)) (by omega)
        · skip
          have hnd : 2 ≤ h := by have := ho.2.2.1; simpa [pNeed, nNeed] using this
          have hup : h + 0 - 2 ≤ 8 := ho.2.2.2
          have hcl : (nn i).toNatClampNeg = (nn i).toNatClampNeg := rfl
          refine z_aload_n 50 C0 0 dX7_call_49 rfl rfl rfl ?_
          refine z_get 53 C0 0 4 wz_7 rfl (by decide) (zTs_in wk_452) dX7_call_50 rfl rfl rfl ?_
          refine z_iload_n 54 C0 1 dX7_call_53 rfl rfl rfl ?_
          refine z_aald 55 C0 1 2 dX7_call_54 rfl rfl rfl rfl (by omega) (by decide) (v := .ref ra) (by rw [hoo]; rfl) ?_
          refine z_iload 57 C0 7 dX7_call_55 rfl rfl ?_
          refine z_ialdN 58 C0 2 (v := (nI 16)) dX7_call_57 rfl rfl (by omega) (by decide) hop ?_
          refine z_istore 60 C0 [1, 2, 3, 4, 5, 6, 7, 8, 9, 0] [(0, .ref y), (1, .int (nI p)), (2, .int a), (3, .int b), (4, .int d), (5, .int (nI of)), (6, .int (nI h)), (7, .int (nI i)), (8, .int (nI (P.length))), (9, .int (nI 16))] dX7_call_58 rfl (by decide) rfl ?_
          refine z_aload_n 61 C0 0 dX7_call_60 rfl rfl rfl ?_
          refine z_get 64 C0 0 5 wz_7 rfl (by decide) (zTs_in wk_453) dX7_call_61 rfl rfl rfl ?_
          refine z_iload_n 65 C0 1 dX7_call_64 rfl rfl rfl ?_
          refine z_aald 66 C0 3 2 dX7_call_65 rfl rfl rfl rfl (by omega) (by decide) (v := .ref rb) (by rw [hnu]; rfl) ?_
          refine z_iload 68 C0 7 dX7_call_66 rfl rfl ?_
          refine z_ialdN 69 C0 4 (v := (nn i)) dX7_call_68 rfl rfl (by omega) (by decide) rfl ?_
          refine z_istore 71 C0 [1, 2, 3, 4, 5, 6, 7, 8, 9, 10, 0] [(0, .ref y), (1, .int (nI p)), (2, .int a), (3, .int b), (4, .int d), (5, .int (nI of)), (6, .int (nI h)), (7, .int (nI i)), (8, .int (nI (P.length))), (9, .int (nI 16)), (10, .int (nn i))] dX7_call_69 rfl (by decide) rfl ?_
          refine z_iinc 74 C0 7 [1, 2, 3, 4, 5, 6, 7, 0, 8, 9, 10] [(0, .ref y), (1, .int (nI p)), (2, .int a), (3, .int b), (4, .int d), (5, .int (nI of)), (6, .int (nI h)), (7, .int (nI (i + 1))), (8, .int (nI (P.length))), (9, .int (nI 16)), (10, .int (nn i))] (v := (nI (i + 1))) dX7_call_71 rfl rfl (z_incN _ _) (by decide) rfl ?_
          refine z_iload 76 C0 9 dX7_call_74 rfl rfl ?_
          refine z_switch 355 C0 dX7_call_76 (by decide) (by decide) rfl (by decide) ?_
          refine z_iload 357 C0 8 dX7_call_355 rfl rfl ?_
          refine z_bipush 359 C0 (v := (nI 20)) dX7_call_357 rfl rfl ?_
          refine z_icmp_neN 362 364 C0 (by omega) (by decide) dX7_call_359 rfl (by decide) (fun k359 => ?_) (fun k359 => ?_)
          · skip
            refine z_iinc 367 C0 8 [1, 2, 3, 4, 5, 6, 7, 8, 0, 9, 10] [(0, .ref y), (1, .int (nI p)), (2, .int a), (3, .int b), (4, .int d), (5, .int (nI of)), (6, .int (nI h)), (7, .int (nI (i + 1))), (8, .int (nI ((P.length) + 1))), (9, .int (nI 16)), (10, .int (nn i))] (v := (nI ((P.length) + 1))) dX7_call_364 rfl rfl (z_incN _ _) (by decide) rfl ?_
            refine z_iinc 370 C0 6 [1, 2, 3, 4, 5, 6, 0, 7, 8, 9, 10] [(0, .ref y), (1, .int (nI p)), (2, .int a), (3, .int b), (4, .int d), (5, .int (nI of)), (6, .int (nI (h - 2))), (7, .int (nI (i + 1))), (8, .int (nI ((P.length) + 1))), (9, .int (nI 16)), (10, .int (nn i))] (v := (nI (h - 2))) dX7_call_367 rfl rfl (z_decC (a := h) (c := 2) (b := (h - 2)) (by omega) (by omega)) (by decide) rfl ?_
            refine z_aload_n 371 C0 0 dX7_call_370 rfl rfl rfl ?_
            refine z_get 374 C0 0 10 wz_7 rfl (by decide) (zTs_in wk_458) dX7_call_371 rfl rfl rfl ?_
            refine z_sipush 377 C0 (v := (nI 620)) dX7_call_374 rfl rfl ?_
            refine z_icmp_geN 380 425 C0 (by omega) (by decide) dX7_call_377 rfl (by decide) (fun k377 => ?_) (fun k377 => ?_)
            · skip
              refine z_aload_n 426 C0 0 dX7_call_425 rfl rfl rfl ?_
              refine z_dup 427 C0 dX7_call_426 rfl rfl ?_
              refine z_get 430 C0 0 10 wz_7 rfl (by decide) (zTs_in wk_458) dX7_call_427 rfl rfl rfl ?_
              refine z_iconst 431 C0 (v := (nI 1)) dX7_call_430 rfl rfl ?_
              refine z_iadd 432 C0 (v := (nI ((prs + P.length) + 1))) dX7_call_431 rfl (nI_add _ _) ?_
              refine z_put 435 C0 0 10 [(y, zo 7 [.int (nI sz), .ref yrk, .ref yrv, .int (nI rn), .ref yop, .ref ynu, .ref yle, .ref yk, .ref yv, .ref ysp, .int (nI ((prs + P.length) + 1)), .ref yxk, .ref yxv, .int (nI rs), .int err, .ref yto, .ref yst, .ref ylo, .int (nI (k + 1)), .int res, .int (nI 0)]), (yop, zg E 4 oo), (ra, zi E 64 op), (ynu, zg E 4 nu), (rb, zi E 64 nn), (yk, zi E 620 (rwK 620 prs kf P)), (yv, zi E 620 (rwV 620 prs vf P)), (ysp, zi E 620 (zn (rwS 620 prs sp of P))), (yst, zi E 8 st), (ylo, zi E 4 lo)] wz_7 rfl (by decide) (zTs_in wk_458) tyX7 tyX7_ok nmX7 rfl rfl rfl rfl dX7_call_432 rfl rfl (Nat.le_of_ble_eq_true rfl) rfl ?_
              refine z_goto 497 C0 dX7_call_435 (by decide) ?_
              refine z_eq (L1 := [(0, .ref y), (1, .int (nI p)), (2, .int a), (3, .int b), (4, .int d), (5, .int (nI of)), (6, .int (nI (h - 2))), (7, .int (nI (i + 1))), (8, .int (nI ((P ++ [(st (h - 2), st (h - 1))]).length))), (9, .int (nI 16)), (10, .int (nn i))]) (st1 := []) (w1 := [(y, zo 7 [.int (nI sz), .ref yrk, .ref yrv, .int (nI rn), .ref yop, .ref ynu, .ref yle, .ref yk, .ref yv, .ref ysp, .int (nI (prs + (P ++ [(st (h - 2), st (h - 1))]).length)), .ref yxk, .ref yxv, .int (nI rs), .int err, .ref yto, .ref yst, .ref ylo, .int (nI (k + 1)), .int res, .int (nI 0)]), (yop, zg E 4 oo), (ra, zi E 64 op), (ynu, zg E 4 nu), (rb, zi E 64 nn), (yk, zi E 620 (rwK 620 prs kf (P ++ [(st (h - 2), st (h - 1))]))), (yv, zi E 620 (rwV 620 prs vf (P ++ [(st (h - 2), st (h - 1))]))), (ysp, zi E 620 (zn (rwS 620 prs sp of (P ++ [(st (h - 2), st (h - 1))])))), (yst, zi E 8 st), (ylo, zi E 4 lo)]) (by rw [List.length_append]; rfl) rfl (by rw [rwK_t, rwV_t, rwS_t, List.length_append]; first | (rw [capU_t k377, capU_t k377, capS_t k377, show h - 2 + 1 = h - 1 by omega]; rfl) | (rw [capU_f k377, capU_f k377, capS_f k377]; rfl)) ?_
              refine z_goto 27 C0 dX7_call_497 (by decide) ?_
              refine z_loc [0, 1, 2, 3, 4, 5, 6, 7, 8] [(0, .ref y), (1, .int (nI p)), (2, .int a), (3, .int b), (4, .int d), (5, .int (nI of)), (6, .int (nI (h - 2))), (7, .int (nI (i + 1))), (8, .int (nI ((P ++ [(st (h - 2), st (h - 1))]).length)))] rfl ?_
              exact ih27 (k + 1) fu (i + 1) (h - 2) lo st (P ++ [(st (h - 2), st (h - 1))]) (by omega) (hR.next ho ⟨by decide, by decide, by decide⟩) (by rw [List.length_append]; simp only [List.length_singleton]; omega) ((mRun_step hop (by decide) (by decide) (by decide) (by omega) hcl).symm.trans hM) (by omega)
            · skip
              refine z_aload_n 381 C0 0 dX7_call_380 rfl rfl rfl ?_
              refine z_get 384 C0 0 7 wz_7 rfl (by decide) (zTs_in wk_455) dX7_call_381 rfl rfl rfl ?_
              refine z_aload_n 385 C0 0 dX7_call_384 rfl rfl rfl ?_
              refine z_get 388 C0 0 10 wz_7 rfl (by decide) (zTs_in wk_458) dX7_call_385 rfl rfl rfl ?_
              refine z_aload_n 389 C0 0 dX7_call_388 rfl rfl rfl ?_
              refine z_get 392 C0 0 16 wz_7 rfl (by decide) (zTs_in wk_464) dX7_call_389 rfl rfl rfl ?_
              refine z_iload 394 C0 6 dX7_call_392 rfl rfl ?_
              refine z_ialdN 395 C0 8 (v := (st (h - 2))) dX7_call_394 rfl rfl (by omega) (by decide) rfl ?_
              refine z_iastN 396 C0 5 [(y, zo 7 [.int (nI sz), .ref yrk, .ref yrv, .int (nI rn), .ref yop, .ref ynu, .ref yle, .ref yk, .ref yv, .ref ysp, .int (nI (prs + P.length)), .ref yxk, .ref yxv, .int (nI rs), .int err, .ref yto, .ref yst, .ref ylo, .int (nI (k + 1)), .int res, .int (nI 0)]), (yop, zg E 4 oo), (ra, zi E 64 op), (ynu, zg E 4 nu), (rb, zi E 64 nn), (yk, zi E 620 (upd (rwK 620 prs kf P) (prs + P.length) (st (h - 2)))), (yv, zi E 620 (rwV 620 prs vf P)), (ysp, zi E 620 (zn (rwS 620 prs sp of P))), (yst, zi E 8 st), (ylo, zi E 4 lo)] dX7_call_395 rfl rfl (by omega) (by decide) rfl ?_
              refine z_aload_n 397 C0 0 dX7_call_396 rfl rfl rfl ?_
              refine z_get 400 C0 0 8 wz_7 rfl (by decide) (zTs_in wk_456) dX7_call_397 rfl rfl rfl ?_
              refine z_aload_n 401 C0 0 dX7_call_400 rfl rfl rfl ?_
              refine z_get 404 C0 0 10 wz_7 rfl (by decide) (zTs_in wk_458) dX7_call_401 rfl rfl rfl ?_
              refine z_aload_n 405 C0 0 dX7_call_404 rfl rfl rfl ?_
              refine z_get 408 C0 0 16 wz_7 rfl (by decide) (zTs_in wk_464) dX7_call_405 rfl rfl rfl ?_
              refine z_iload 410 C0 6 dX7_call_408 rfl rfl ?_
              refine z_iconst 411 C0 (v := (nI 1)) dX7_call_410 rfl rfl ?_
              refine z_iadd 412 C0 (v := (nI ((h - 2) + 1))) dX7_call_411 rfl (nI_add _ _) ?_
              refine z_ialdN 413 C0 8 (v := (st ((h - 2) + 1))) dX7_call_412 rfl rfl (by omega) (by decide) rfl ?_
              refine z_iastN 414 C0 6 [(y, zo 7 [.int (nI sz), .ref yrk, .ref yrv, .int (nI rn), .ref yop, .ref ynu, .ref yle, .ref yk, .ref yv, .ref ysp, .int (nI (prs + P.length)), .ref yxk, .ref yxv, .int (nI rs), .int err, .ref yto, .ref yst, .ref ylo, .int (nI (k + 1)), .int res, .int (nI 0)]), (yop, zg E 4 oo), (ra, zi E 64 op), (ynu, zg E 4 nu), (rb, zi E 64 nn), (yk, zi E 620 (upd (rwK 620 prs kf P) (prs + P.length) (st (h - 2)))), (yv, zi E 620 (upd (rwV 620 prs vf P) (prs + P.length) (st ((h - 2) + 1)))), (ysp, zi E 620 (zn (rwS 620 prs sp of P))), (yst, zi E 8 st), (ylo, zi E 4 lo)] dX7_call_413 rfl rfl (by omega) (by decide) rfl ?_
              refine z_aload_n 415 C0 0 dX7_call_414 rfl rfl rfl ?_
              refine z_get 418 C0 0 9 wz_7 rfl (by decide) (zTs_in wk_457) dX7_call_415 rfl rfl rfl ?_
              refine z_aload_n 419 C0 0 dX7_call_418 rfl rfl rfl ?_
              refine z_get 422 C0 0 10 wz_7 rfl (by decide) (zTs_in wk_458) dX7_call_419 rfl rfl rfl ?_
              refine z_iload 424 C0 5 dX7_call_422 rfl rfl ?_
              refine z_iastN 425 C0 7 [(y, zo 7 [.int (nI sz), .ref yrk, .ref yrv, .int (nI rn), .ref yop, .ref ynu, .ref yle, .ref yk, .ref yv, .ref ysp, .int (nI (prs + P.length)), .ref yxk, .ref yxv, .int (nI rs), .int err, .ref yto, .ref yst, .ref ylo, .int (nI (k + 1)), .int res, .int (nI 0)]), (yop, zg E 4 oo), (ra, zi E 64 op), (ynu, zg E 4 nu), (rb, zi E 64 nn), (yk, zi E 620 (upd (rwK 620 prs kf P) (prs + P.length) (st (h - 2)))), (yv, zi E 620 (upd (rwV 620 prs vf P) (prs + P.length) (st ((h - 2) + 1)))), (ysp, zi E 620 (zn (va_up (rwS 620 prs sp of P) (prs + P.length) of))), (yst, zi E 8 st), (ylo, zi E 4 lo)] dX7_call_424 rfl rfl (by omega) (by decide) (by rw [z_upN]; rfl) ?_
              refine z_aload_n 426 C0 0 dX7_call_425 rfl rfl rfl ?_
              refine z_dup 427 C0 dX7_call_426 rfl rfl ?_
              refine z_get 430 C0 0 10 wz_7 rfl (by decide) (zTs_in wk_458) dX7_call_427 rfl rfl rfl ?_
              refine z_iconst 431 C0 (v := (nI 1)) dX7_call_430 rfl rfl ?_
              refine z_iadd 432 C0 (v := (nI ((prs + P.length) + 1))) dX7_call_431 rfl (nI_add _ _) ?_
              refine z_put 435 C0 0 10 [(y, zo 7 [.int (nI sz), .ref yrk, .ref yrv, .int (nI rn), .ref yop, .ref ynu, .ref yle, .ref yk, .ref yv, .ref ysp, .int (nI ((prs + P.length) + 1)), .ref yxk, .ref yxv, .int (nI rs), .int err, .ref yto, .ref yst, .ref ylo, .int (nI (k + 1)), .int res, .int (nI 0)]), (yop, zg E 4 oo), (ra, zi E 64 op), (ynu, zg E 4 nu), (rb, zi E 64 nn), (yk, zi E 620 (upd (rwK 620 prs kf P) (prs + P.length) (st (h - 2)))), (yv, zi E 620 (upd (rwV 620 prs vf P) (prs + P.length) (st ((h - 2) + 1)))), (ysp, zi E 620 (zn (va_up (rwS 620 prs sp of P) (prs + P.length) of))), (yst, zi E 8 st), (ylo, zi E 4 lo)] wz_7 rfl (by decide) (zTs_in wk_458) tyX7 tyX7_ok nmX7 rfl rfl rfl rfl dX7_call_432 rfl rfl (Nat.le_of_ble_eq_true rfl) rfl ?_
              refine z_goto 497 C0 dX7_call_435 (by decide) ?_
              refine z_eq (L1 := [(0, .ref y), (1, .int (nI p)), (2, .int a), (3, .int b), (4, .int d), (5, .int (nI of)), (6, .int (nI (h - 2))), (7, .int (nI (i + 1))), (8, .int (nI ((P ++ [(st (h - 2), st (h - 1))]).length))), (9, .int (nI 16)), (10, .int (nn i))]) (st1 := []) (w1 := [(y, zo 7 [.int (nI sz), .ref yrk, .ref yrv, .int (nI rn), .ref yop, .ref ynu, .ref yle, .ref yk, .ref yv, .ref ysp, .int (nI (prs + (P ++ [(st (h - 2), st (h - 1))]).length)), .ref yxk, .ref yxv, .int (nI rs), .int err, .ref yto, .ref yst, .ref ylo, .int (nI (k + 1)), .int res, .int (nI 0)]), (yop, zg E 4 oo), (ra, zi E 64 op), (ynu, zg E 4 nu), (rb, zi E 64 nn), (yk, zi E 620 (rwK 620 prs kf (P ++ [(st (h - 2), st (h - 1))]))), (yv, zi E 620 (rwV 620 prs vf (P ++ [(st (h - 2), st (h - 1))]))), (ysp, zi E 620 (zn (rwS 620 prs sp of (P ++ [(st (h - 2), st (h - 1))])))), (yst, zi E 8 st), (ylo, zi E 4 lo)]) (by rw [List.length_append]; rfl) rfl (by rw [rwK_t, rwV_t, rwS_t, List.length_append]; first | (rw [capU_t k377, capU_t k377, capS_t k377, show h - 2 + 1 = h - 1 by omega]; rfl) | (rw [capU_f k377, capU_f k377, capS_f k377]; rfl)) ?_
              refine z_goto 27 C0 dX7_call_497 (by decide) ?_
              refine z_loc [0, 1, 2, 3, 4, 5, 6, 7, 8] [(0, .ref y), (1, .int (nI p)), (2, .int a), (3, .int b), (4, .int d), (5, .int (nI of)), (6, .int (nI (h - 2))), (7, .int (nI (i + 1))), (8, .int (nI ((P ++ [(st (h - 2), st (h - 1))]).length)))] rfl ?_
              exact ih27 (k + 1) fu (i + 1) (h - 2) lo st (P ++ [(st (h - 2), st (h - 1))]) (by omega) (hR.next ho ⟨by decide, by decide, by decide⟩) (by rw [List.length_append]; simp only [List.length_singleton]; omega) ((mRun_step hop (by decide) (by decide) (by decide) (by omega) hcl).symm.trans hM) (by omega)
          · skip
            refine z_iconst 363 C0 (v := (nI 0)) dX7_call_362 rfl rfl ?_
            have hres : (callR op nn a b d) = (0, 0, 0, P) := hM.symm.trans (mRun_16 hop (by omega))
            exact z_zret C0 rfl rfl dX7_call_363 ⟨(k + 1), res, 0, st, lo, ⟨(by rw [hres]; exact zb_fN (fun q => q rfl)), (by rw [hres])⟩, (fun q => absurd (by rw [hres]) q), (fun q => by rw [hres] at q; exact absurd q (by show ¬ (0 : Nat) = 1; decide))⟩ (by decide) (by decide)
        · skip
          have hup : h + 0 - 0 ≤ 8 := ho.2.2.2
          have hcl : (nn i).toNatClampNeg = (nn i).toNatClampNeg := rfl
          refine z_aload_n 50 C0 0 dX7_call_49 rfl rfl rfl ?_
          refine z_get 53 C0 0 4 wz_7 rfl (by decide) (zTs_in wk_452) dX7_call_50 rfl rfl rfl ?_
          refine z_iload_n 54 C0 1 dX7_call_53 rfl rfl rfl ?_
          refine z_aald 55 C0 1 2 dX7_call_54 rfl rfl rfl rfl (by omega) (by decide) (v := .ref ra) (by rw [hoo]; rfl) ?_
          refine z_iload 57 C0 7 dX7_call_55 rfl rfl ?_
          refine z_ialdN 58 C0 2 (v := (nI 17)) dX7_call_57 rfl rfl (by omega) (by decide) hop ?_
          refine z_istore 60 C0 [1, 2, 3, 4, 5, 6, 7, 8, 9, 0] [(0, .ref y), (1, .int (nI p)), (2, .int a), (3, .int b), (4, .int d), (5, .int (nI of)), (6, .int (nI h)), (7, .int (nI i)), (8, .int (nI (P.length))), (9, .int (nI 17))] dX7_call_58 rfl (by decide) rfl ?_
          refine z_aload_n 61 C0 0 dX7_call_60 rfl rfl rfl ?_
          refine z_get 64 C0 0 5 wz_7 rfl (by decide) (zTs_in wk_453) dX7_call_61 rfl rfl rfl ?_
          refine z_iload_n 65 C0 1 dX7_call_64 rfl rfl rfl ?_
          refine z_aald 66 C0 3 2 dX7_call_65 rfl rfl rfl rfl (by omega) (by decide) (v := .ref rb) (by rw [hnu]; rfl) ?_
          refine z_iload 68 C0 7 dX7_call_66 rfl rfl ?_
          refine z_ialdN 69 C0 4 (v := (nn i)) dX7_call_68 rfl rfl (by omega) (by decide) rfl ?_
          refine z_istore 71 C0 [1, 2, 3, 4, 5, 6, 7, 8, 9, 10, 0] [(0, .ref y), (1, .int (nI p)), (2, .int a), (3, .int b), (4, .int d), (5, .int (nI of)), (6, .int (nI h)), (7, .int (nI i)), (8, .int (nI (P.length))), (9, .int (nI 17)), (10, .int (nn i))] dX7_call_69 rfl (by decide) rfl ?_
          refine z_iinc 74 C0 7 [1, 2, 3, 4, 5, 6, 7, 0, 8, 9, 10] [(0, .ref y), (1, .int (nI p)), (2, .int a), (3, .int b), (4, .int d), (5, .int (nI of)), (6, .int (nI h)), (7, .int (nI (i + 1))), (8, .int (nI (P.length))), (9, .int (nI 17)), (10, .int (nn i))] (v := (nI (i + 1))) dX7_call_71 rfl rfl (z_incN _ _) (by decide) rfl ?_
          refine z_iload 76 C0 9 dX7_call_74 rfl rfl ?_
          refine z_switch 438 C0 dX7_call_76 (by decide) (by decide) rfl (by decide) ?_
          refine z_iload_n 439 C0 1 dX7_call_438 rfl rfl rfl ?_
          refine z_if_eqN 442 455 C0 (by omega) dX7_call_439 rfl (by decide) (fun k439 => ?_) (fun k439 => ?_)
          · skip
            refine z_iconst 456 C0 (v := (nI 1)) dX7_call_455 rfl rfl ?_
            have hres : (callR op nn a b d) = (1, popV h st, k + 1, P) := hM.symm.trans (mRun_17 hop)
            exact z_zret C0 rfl rfl dX7_call_456 ⟨(k + 1), res, 0, st, lo, ⟨(by rw [hres]; exact zb_tN (by show (1 : Nat) ≠ 0; decide)), (by rw [hres])⟩, (fun _ => by rw [hres]; exact ⟨rfl, rfl⟩), (fun _ q => absurd (by omega) q)⟩ (by decide) (by decide)
          · skip
            have hnd : 1 ≤ h := by have := ho.2.2.1; unfold pNeed at this; rw [if_neg (fun q => k439 q.2)] at this; exact this
            refine z_aload_n 443 C0 0 dX7_call_442 rfl rfl rfl ?_
            refine z_aload_n 444 C0 0 dX7_call_443 rfl rfl rfl ?_
            refine z_get 447 C0 0 16 wz_7 rfl (by decide) (zTs_in wk_464) dX7_call_444 rfl rfl rfl ?_
            refine z_iload 449 C0 6 dX7_call_447 rfl rfl ?_
            refine z_iconst 450 C0 (v := (nI 1)) dX7_call_449 rfl rfl ?_
            refine z_isub 451 C0 (v := (nI (h - 1))) dX7_call_450 rfl (z_subN (by omega)) ?_
            refine z_ialdN 452 C0 8 (v := (st (h - 1))) dX7_call_451 rfl rfl (by omega) (by decide) rfl ?_
            refine z_put 455 C0 0 19 [(y, zo 7 [.int (nI sz), .ref yrk, .ref yrv, .int (nI rn), .ref yop, .ref ynu, .ref yle, .ref yk, .ref yv, .ref ysp, .int (nI (prs + P.length)), .ref yxk, .ref yxv, .int (nI rs), .int err, .ref yto, .ref yst, .ref ylo, .int (nI (k + 1)), .int (st (h - 1)), .int (nI 0)]), (yop, zg E 4 oo), (ra, zi E 64 op), (ynu, zg E 4 nu), (rb, zi E 64 nn), (yk, zi E 620 (rwK 620 prs kf P)), (yv, zi E 620 (rwV 620 prs vf P)), (ysp, zi E 620 (zn (rwS 620 prs sp of P))), (yst, zi E 8 st), (ylo, zi E 4 lo)] wz_7 rfl (by decide) (zTs_in wk_467) tyX7 tyX7_ok nmX7 rfl rfl rfl rfl dX7_call_452 rfl rfl (Nat.le_of_ble_eq_true rfl) rfl ?_
            refine z_iconst 456 C0 (v := (nI 1)) dX7_call_455 rfl rfl ?_
            have hnd : 1 ≤ h := by have := ho.2.2.1; unfold pNeed at this; rw [if_neg (fun q => k439 q.2)] at this; exact this
            have hres : (callR op nn a b d) = (1, popV h st, k + 1, P) := hM.symm.trans (mRun_17 hop)
            exact z_zret C0 rfl rfl dX7_call_456 ⟨(k + 1), (st (h - 1)), 0, st, lo, ⟨(by rw [hres]; exact zb_tN (by show (1 : Nat) ≠ 0; decide)), (by rw [hres])⟩, (fun _ => by rw [hres]; exact ⟨rfl, rfl⟩), (fun _ _ => by rw [hres]; exact (popV_s (by omega)).symm)⟩ (by decide) (by decide)
        · skip
          have hnd : 0 ≤ h := by have := ho.2.2.1; simpa [pNeed, nNeed] using this
          have hup : h + 0 - 0 ≤ 8 := ho.2.2.2
          have hcl : (nn i).toNatClampNeg = (nn i).toNatClampNeg := rfl
          refine z_aload_n 50 C0 0 dX7_call_49 rfl rfl rfl ?_
          refine z_get 53 C0 0 4 wz_7 rfl (by decide) (zTs_in wk_452) dX7_call_50 rfl rfl rfl ?_
          refine z_iload_n 54 C0 1 dX7_call_53 rfl rfl rfl ?_
          refine z_aald 55 C0 1 2 dX7_call_54 rfl rfl rfl rfl (by omega) (by decide) (v := .ref ra) (by rw [hoo]; rfl) ?_
          refine z_iload 57 C0 7 dX7_call_55 rfl rfl ?_
          refine z_ialdN 58 C0 2 (v := (nI 18)) dX7_call_57 rfl rfl (by omega) (by decide) hop ?_
          refine z_istore 60 C0 [1, 2, 3, 4, 5, 6, 7, 8, 9, 0] [(0, .ref y), (1, .int (nI p)), (2, .int a), (3, .int b), (4, .int d), (5, .int (nI of)), (6, .int (nI h)), (7, .int (nI i)), (8, .int (nI (P.length))), (9, .int (nI 18))] dX7_call_58 rfl (by decide) rfl ?_
          refine z_aload_n 61 C0 0 dX7_call_60 rfl rfl rfl ?_
          refine z_get 64 C0 0 5 wz_7 rfl (by decide) (zTs_in wk_453) dX7_call_61 rfl rfl rfl ?_
          refine z_iload_n 65 C0 1 dX7_call_64 rfl rfl rfl ?_
          refine z_aald 66 C0 3 2 dX7_call_65 rfl rfl rfl rfl (by omega) (by decide) (v := .ref rb) (by rw [hnu]; rfl) ?_
          refine z_iload 68 C0 7 dX7_call_66 rfl rfl ?_
          refine z_ialdN 69 C0 4 (v := (nn i)) dX7_call_68 rfl rfl (by omega) (by decide) rfl ?_
          refine z_istore 71 C0 [1, 2, 3, 4, 5, 6, 7, 8, 9, 10, 0] [(0, .ref y), (1, .int (nI p)), (2, .int a), (3, .int b), (4, .int d), (5, .int (nI of)), (6, .int (nI h)), (7, .int (nI i)), (8, .int (nI (P.length))), (9, .int (nI 18)), (10, .int (nn i))] dX7_call_69 rfl (by decide) rfl ?_
          refine z_iinc 74 C0 7 [1, 2, 3, 4, 5, 6, 7, 0, 8, 9, 10] [(0, .ref y), (1, .int (nI p)), (2, .int a), (3, .int b), (4, .int d), (5, .int (nI of)), (6, .int (nI h)), (7, .int (nI (i + 1))), (8, .int (nI (P.length))), (9, .int (nI 18)), (10, .int (nn i))] (v := (nI (i + 1))) dX7_call_71 rfl rfl (z_incN _ _) (by decide) rfl ?_
          refine z_iload 76 C0 9 dX7_call_74 rfl rfl ?_
          refine z_switch 457 C0 dX7_call_76 (by decide) (by decide) rfl (by decide) ?_
          refine z_aload_n 458 C0 0 dX7_call_457 rfl rfl rfl ?_
          refine z_iconst 459 C0 (v := (nI 1)) dX7_call_458 rfl rfl ?_
          refine z_put 462 C0 0 20 [(y, zo 7 [.int (nI sz), .ref yrk, .ref yrv, .int (nI rn), .ref yop, .ref ynu, .ref yle, .ref yk, .ref yv, .ref ysp, .int (nI (prs + P.length)), .ref yxk, .ref yxv, .int (nI rs), .int err, .ref yto, .ref yst, .ref ylo, .int (nI (k + 1)), .int res, .int (nI 1)]), (yop, zg E 4 oo), (ra, zi E 64 op), (ynu, zg E 4 nu), (rb, zi E 64 nn), (yk, zi E 620 (rwK 620 prs kf P)), (yv, zi E 620 (rwV 620 prs vf P)), (ysp, zi E 620 (zn (rwS 620 prs sp of P))), (yst, zi E 8 st), (ylo, zi E 4 lo)] wz_7 rfl (by decide) (zTs_in wk_468) tyX7 tyX7_ok nmX7 rfl rfl rfl rfl dX7_call_459 rfl rfl (Nat.le_of_ble_eq_true rfl) rfl ?_
          refine z_iconst 463 C0 (v := (nI 1)) dX7_call_462 rfl rfl ?_
          have hres : (callR op nn a b d) = (2, popV h st, k + 1, P) := hM.symm.trans (mRun_18 hop)
          exact z_zret C0 rfl rfl dX7_call_463 ⟨(k + 1), res, 1, st, lo, ⟨(by rw [hres]; exact zb_tN (by show (2 : Nat) ≠ 0; decide)), (by rw [hres])⟩, (fun _ => by rw [hres]; exact ⟨rfl, rfl⟩), (fun q => by rw [hres] at q; exact absurd q (by show ¬ (2 : Nat) = 1; decide))⟩ (by decide) (by decide)
      · skip
        refine z_iconst 38 C0 (v := (nI 0)) dX7_call_37 rfl rfl ?_
        have hres : (callR op nn a b d) = (0, 0, 0, P) := by rw [← hM, show fu = 0 by omega]; rfl
        exact z_zret C0 rfl rfl dX7_call_38 ⟨k, res, 0, st, lo, ⟨(by rw [hres]; exact zb_fN (fun q => q rfl)), (by rw [hres])⟩, (fun q => absurd (by rw [hres]) q), (fun q => by rw [hres] at q; exact absurd q (by show ¬ (0 : Nat) = 1; decide))⟩ (by decide) (by decide)
  exact CUT27 (300 + 1 + 1) 0 300 0 0 (fun _ => (nI 0)) st ([] : List (Int32 × Int32)) rfl Rch.zero (by decide) (mRun_congr hG hlen (fun _ _ => rfl) 300 0 0 0 _ _ _ _ [] Rch.zero (fun j hj => absurd hj (Nat.not_lt_zero j)) (fun _ _ => rfl)) (Nat.lt_succ_self _)
