theorem rwK_app0 {cap : Nat} {f : Nat → Int32} {P P2 : List (Int32 × Int32)} : rwK cap P.length (rwK cap 0 f P) P2 = rwK cap 0 f (P ++ P2) := by
  funext j
  unfold rwK
  rw [List.length_append, getD_app]
  by_cases h1 : P.length ≤ j ∧ j < cap ∧ j - P.length < P2.length
  · rw [if_pos h1, if_pos ⟨Nat.zero_le j, h1.2.1, by omega⟩, if_neg (by omega), Nat.sub_zero]
  · rw [if_neg h1]
    by_cases h2 : 0 ≤ j ∧ j < cap ∧ j - 0 < P.length
    · rw [if_pos h2, if_pos ⟨h2.1, h2.2.1, by omega⟩, if_pos h2.2.2]
    · rw [if_neg h2, if_neg (fun q => by omega)]
theorem rwV_app0 {cap : Nat} {f : Nat → Int32} {P P2 : List (Int32 × Int32)} : rwV cap P.length (rwV cap 0 f P) P2 = rwV cap 0 f (P ++ P2) := by
  funext j
  unfold rwV
  rw [List.length_append, getD_app]
  by_cases h1 : P.length ≤ j ∧ j < cap ∧ j - P.length < P2.length
  · rw [if_pos h1, if_pos ⟨Nat.zero_le j, h1.2.1, by omega⟩, if_neg (by omega), Nat.sub_zero]
  · rw [if_neg h1]
    by_cases h2 : 0 ≤ j ∧ j < cap ∧ j - 0 < P.length
    · rw [if_pos h2, if_pos ⟨h2.1, h2.2.1, by omega⟩, if_pos h2.2.2]
    · rw [if_neg h2, if_neg (fun q => by omega)]
theorem rwS_map {op nn rf rg : Nat → Int32} {sz i : Nat} {sx : Nat → Nat} (h : ∀ x, x < i → ∀ j, j < 620 → (mpP op nn rf rg x).length ≤ j → j < (mpP op nn rf rg (x + 1)).length → sx j = x / sz) :
    ∀ x, x < i + 1 → ∀ j, j < 620 → (mpP op nn rf rg x).length ≤ j → j < (mpP op nn rf rg (x + 1)).length → rwS 620 (mpP op nn rf rg i).length sx (i / sz) (mpC op nn rf rg i).2.2.2 j = x / sz := by
  intro x hx j hj h1 h2
  unfold rwS
  rcases Nat.lt_or_ge x i with q | q
  · have := mpP_mono (op := op) (nn := nn) (rf := rf) (rg := rg) (show x + 1 ≤ i from q)
    rw [if_neg (fun z => by omega)]
    exact h x q j hj h1 h2
  · obtain rfl : x = i := by omega
    have e : (mpP op nn rf rg (x + 1)).length = (mpP op nn rf rg x).length + (mpC op nn rf rg x).2.2.2.length := List.length_append
    rw [if_pos ⟨h1, hj, by omega⟩]
set_option maxHeartbeats 4000000 in
set_option maxRecDepth 100000 in
theorem map7 (l_ : Launch) (E : zE) (y : Nat) (sz : Nat) (yrk : Nat) (yrv : Nat) (rn : Nat) (yop : Nat) (ynu : Nat) (yle : Nat) (yk : Nat) (yv : Nat) (ysp : Nat) (prs : Nat) (yxk : Nat) (yxv : Nat) (rs : Nat) (err : Int32) (yto : Nat) (yst : Nat) (ylo : Nat) (stp : Nat) (res : Int32) (wo : Nat) (oo : Nat → Option Nat) (nu : Nat → Option Nat) (ra : Nat) (rb : Nat) (op : Nat → Int32) (nn : Nat → Int32) (kf : Nat → Int32) (vf : Nat → Int32) (sp : Nat → Nat) (st : Nat → Int32) (lo : Nat → Int32) (rf : Nat → Int32) (rg : Nat → Int32) (to : Nat → Nat) (len : Nat) (hoo : oo 0 = some ra) (hnu : nu 0 = some rb) (hG : Good 0 op nn len) (hlen : len ≤ 64) (hrn : rn ≤ 120) (hsz : 1 ≤ sz) (hsz2 : sz ≤ 16) : zMi l_ E yX7_map (zTs yX7_map cX7_map 2 (some .boolean)) ({ frames := 2, cells := 0, slots := 0, locals := 54 } : Room) [.ref y] [(y, zo 7 [.int (nI sz), .ref yrk, .ref yrv, .int (nI rn), .ref yop, .ref ynu, .ref yle, .ref yk, .ref yv, .ref ysp, .int (nI prs), .ref yxk, .ref yxv, .int (nI rs), .int err, .ref yto, .ref yst, .ref ylo, .int (nI stp), .int res, .int (nI wo)]), (yop, zg E 4 oo), (ra, zi E 64 op), (ynu, zg E 4 nu), (rb, zi E 64 nn), (yk, zi E 620 kf), (yv, zi E 620 vf), (ysp, zi E 620 (zn sp)), (yst, zi E 8 st), (ylo, zi E 4 lo), (yrk, zi E 120 rf), (yrv, zi E 120 rg), (yto, zi E 8 (zn to))] (fun r_ w_ => ∃ prs2 : Nat, ∃ kf2 : Nat → Int32, ∃ vf2 : Nat → Int32, ∃ sp2 : Nat → Nat, ∃ st2 : Nat → Int32, ∃ lo2 : Nat → Int32, ∃ to2 : Nat → Nat, ∃ stp2 : Nat, ∃ res2 : Int32, ∃ wo2 : Nat, ∃ err2 : Int32, ∃ r2 : Int32, (r_ = (zb (r2 = -1)) ∧ w_ = [(y, zo 7 [.int (nI sz), .ref yrk, .ref yrv, .int (nI rn), .ref yop, .ref ynu, .ref yle, .ref yk, .ref yv, .ref ysp, .int (nI prs2), .ref yxk, .ref yxv, .int (nI rs), .int err2, .ref yto, .ref yst, .ref ylo, .int (nI stp2), .int res2, .int (nI wo2)]), (yop, zg E 4 oo), (ra, zi E 64 op), (ynu, zg E 4 nu), (rb, zi E 64 nn), (yk, zi E 620 kf2), (yv, zi E 620 vf2), (ysp, zi E 620 (zn sp2)), (yst, zi E 8 st2), (ylo, zi E 4 lo2), (yrk, zi E 120 rf), (yrv, zi E 120 rg), (yto, zi E 8 (zn to2))]) ∧ (mapR op nn rf rg rn r2) ∧ (err2 = (if r2 = -1 then err else r2)) ∧ (r2 = -1 → prs2 = (mpP op nn rf rg rn).length ∧ kf2 = rwK 620 0 kf (mpP op nn rf rg rn) ∧ vf2 = rwV 620 0 vf (mpP op nn rf rg rn) ∧ to2 = va_up (va_up to 4 (to 4 + mpS op nn rf rg rn)) 1 (mpP op nn rf rg rn).length ∧ ∀ x, x < rn → ∀ j, (mpP op nn rf rg x).length ≤ j → j < (mpP op nn rf rg (x + 1)).length → sp2 j = x / sz)) 0 0 := by
  refine zMi.of (cc := cX7_map) (nL := 2) (ret := (some .boolean)) (by decide) rfl (Nat.le_of_ble_eq_true rfl) ?_
  intro p_ e_ s_ m_ args_ below_ meth_ c_ A_ C0 hin0
  have C0 : zC E p_ s_ m_ args_ meth_ c_ cX7_map 2 (some .boolean) RX7 (zTs yX7_map cX7_map 2 (some .boolean)) A_ := C0
  refine z_eqL (L1 := [(0, .ref y)]) rfl ?_
  refine z_aload_n 1 C0 0 dX7_map_0 rfl rfl rfl ?_
  refine z_iconst 2 C0 (v := (nI 0)) dX7_map_1 rfl rfl ?_
  refine z_put 5 C0 0 10 [(y, zo 7 [.int (nI sz), .ref yrk, .ref yrv, .int (nI rn), .ref yop, .ref ynu, .ref yle, .ref yk, .ref yv, .ref ysp, .int (nI 0), .ref yxk, .ref yxv, .int (nI rs), .int err, .ref yto, .ref yst, .ref ylo, .int (nI stp), .int res, .int (nI wo)]), (yop, zg E 4 oo), (ra, zi E 64 op), (ynu, zg E 4 nu), (rb, zi E 64 nn), (yk, zi E 620 kf), (yv, zi E 620 vf), (ysp, zi E 620 (zn sp)), (yst, zi E 8 st), (ylo, zi E 4 lo), (yrk, zi E 120 rf), (yrv, zi E 120 rg), (yto, zi E 8 (zn to))] wz_7 rfl (by decide) (zTs_in wk_458) tyX7 tyX7_ok nmX7 rfl rfl rfl rfl dX7_map_2 rfl rfl (Nat.le_of_ble_eq_true rfl) rfl ?_
  refine z_eq (L1 := [(0, .ref y)]) (st1 := []) (w1 := [(y, zo 7 [.int (nI sz), .ref yrk, .ref yrv, .int (nI rn), .ref yop, .ref ynu, .ref yle, .ref yk, .ref yv, .ref ysp, .int (nI ((mpP op nn rf rg 0).length)), .ref yxk, .ref yxv, .int (nI rs), .int err, .ref yto, .ref yst, .ref ylo, .int (nI stp), .int res, .int (nI wo)]), (yop, zg E 4 oo), (ra, zi E 64 op), (ynu, zg E 4 nu), (rb, zi E 64 nn), (yk, zi E 620 (rwK 620 0 kf (mpP op nn rf rg 0))), (yv, zi E 620 (rwV 620 0 vf (mpP op nn rf rg 0))), (ysp, zi E 620 (zn sp)), (yst, zi E 8 st), (ylo, zi E 4 lo), (yrk, zi E 120 rf), (yrv, zi E 120 rg), (yto, zi E 8 (zn to))]) rfl rfl (by show _ = [_, _, _, _, _, (_, zi E 620 (rwK 620 0 kf [])), (_, zi E 620 (rwV 620 0 vf [])), _, _, _, _, _, _]; rw [rwK_0, rwV_0]; rfl) ?_
  refine z_iconst 6 C0 (v := (nI 0)) dX7_map_5 rfl rfl ?_
  refine z_istore_n 7 C0 [1, 0] [(0, .ref y), (1, .int (nI 0))] dX7_map_6 rfl rfl (by decide) rfl ?_
  have CUT7 : ∀ (N7 : Nat) (i : Nat) (sx : Nat → Nat) (st : Nat → Int32) (lo : Nat → Int32) (tx : Nat → Nat) (stp : Nat) (res : Int32) (wo : Nat), (i ≤ rn) → (∀ x, x < i → (mpC op nn rf rg x).1 ≠ 0) → (tx = va_up to 4 (to 4 + mpS op nn rf rg i)) → (∀ x, x < i → ∀ j, j < 620 → (mpP op nn rf rg x).length ≤ j → j < (mpP op nn rf rg (x + 1)).length → sx j = x / sz) → rn - i < N7 → Z E p_ l_ e_ ({ frames := 2, cells := 0, slots := 0, locals := 54 } : Room) s_ m_ args_ below_ meth_ c_ (MQ below_ (va_Qi (fun r_ w_ => ∃ prs2 : Nat, ∃ kf2 : Nat → Int32, ∃ vf2 : Nat → Int32, ∃ sp2 : Nat → Nat, ∃ st2 : Nat → Int32, ∃ lo2 : Nat → Int32, ∃ to2 : Nat → Nat, ∃ stp2 : Nat, ∃ res2 : Int32, ∃ wo2 : Nat, ∃ err2 : Int32, ∃ r2 : Int32, (r_ = (zb (r2 = -1)) ∧ w_ = [(y, zo 7 [.int (nI sz), .ref yrk, .ref yrv, .int (nI rn), .ref yop, .ref ynu, .ref yle, .ref yk, .ref yv, .ref ysp, .int (nI prs2), .ref yxk, .ref yxv, .int (nI rs), .int err2, .ref yto, .ref yst, .ref ylo, .int (nI stp2), .int res2, .int (nI wo2)]), (yop, zg E 4 oo), (ra, zi E 64 op), (ynu, zg E 4 nu), (rb, zi E 64 nn), (yk, zi E 620 kf2), (yv, zi E 620 vf2), (ysp, zi E 620 (zn sp2)), (yst, zi E 8 st2), (ylo, zi E 4 lo2), (yrk, zi E 120 rf), (yrv, zi E 120 rg), (yto, zi E 8 (zn to2))]) ∧ (mapR op nn rf rg rn r2) ∧ (err2 = (if r2 = -1 then err else r2)) ∧ (r2 = -1 → prs2 = (mpP op nn rf rg rn).length ∧ kf2 = rwK 620 0 kf (mpP op nn rf rg rn) ∧ vf2 = rwV 620 0 vf (mpP op nn rf rg rn) ∧ to2 = va_up (va_up to 4 (to 4 + mpS op nn rf rg rn)) 1 (mpP op nn rf rg rn).length ∧ ∀ x, x < rn → ∀ j, (mpP op nn rf rg x).length ≤ j → j < (mpP op nn rf rg (x + 1)).length → sp2 j = x / sz)) (zPost E A_) A_) args_ s_ 0 0 A_) A_ 2 7 [(0, .ref y), (1, .int (nI i))] [] [(y, zo 7 [.int (nI sz), .ref yrk, .ref yrv, .int (nI rn), .ref yop, .ref ynu, .ref yle, .ref yk, .ref yv, .ref ysp, .int (nI ((mpP op nn rf rg i).length)), .ref yxk, .ref yxv, .int (nI rs), .int err, .ref yto, .ref yst, .ref ylo, .int (nI stp), .int res, .int (nI wo)]), (yop, zg E 4 oo), (ra, zi E 64 op), (ynu, zg E 4 nu), (rb, zi E 64 nn), (yk, zi E 620 (rwK 620 0 kf (mpP op nn rf rg i))), (yv, zi E 620 (rwV 620 0 vf (mpP op nn rf rg i))), (ysp, zi E 620 (zn sx)), (yst, zi E 8 st), (ylo, zi E 4 lo), (yrk, zi E 120 rf), (yrv, zi E 120 rg), (yto, zi E 8 (zn tx))] 0 0 := by
    intro N7
    induction N7 with
    | zero => intro i sx st lo tx stp res wo hi hok htx hsx hm7; exact absurd hm7 (Nat.not_lt_zero _)
    | succ N7 ih7 =>
      intro i sx st lo tx stp res wo hi hok htx hsx hm7
      refine z_iload_n 8 C0 1 dX7_map_7 rfl rfl rfl ?_
      refine z_aload_n 9 C0 0 dX7_map_8 rfl rfl rfl ?_
      refine z_get 12 C0 0 3 wz_7 rfl (by decide) (zTs_in wk_451) dX7_map_9 rfl rfl rfl ?_
      refine z_icmp_geN 15 68 C0 (by omega) (by omega) dX7_map_12 rfl (by decide) (fun k12 => ?_) (fun k12 => ?_)
      · skip
        have hpl := mp_len_le op nn rf rg i
        refine z_aload_n 69 C0 0 dX7_map_68 rfl rfl rfl ?_
        refine z_get 72 C0 0 15 wz_7 rfl (by decide) (zTs_in wk_463) dX7_map_69 rfl rfl rfl ?_
        refine z_iconst 73 C0 (v := (nI 1)) dX7_map_72 rfl rfl ?_
        refine z_aload_n 74 C0 0 dX7_map_73 rfl rfl rfl ?_
        refine z_get 77 C0 0 10 wz_7 rfl (by decide) (zTs_in wk_458) dX7_map_74 rfl rfl rfl ?_
        refine z_iastN 78 C0 12 [(y, zo 7 [.int (nI sz), .ref yrk, .ref yrv, .int (nI rn), .ref yop, .ref ynu, .ref yle, .ref yk, .ref yv, .ref ysp, .int (nI ((mpP op nn rf rg i).length)), .ref yxk, .ref yxv, .int (nI rs), .int err, .ref yto, .ref yst, .ref ylo, .int (nI stp), .int res, .int (nI wo)]), (yop, zg E 4 oo), (ra, zi E 64 op), (ynu, zg E 4 nu), (rb, zi E 64 nn), (yk, zi E 620 (rwK 620 0 kf (mpP op nn rf rg i))), (yv, zi E 620 (rwV 620 0 vf (mpP op nn rf rg i))), (ysp, zi E 620 (zn sx)), (yst, zi E 8 st), (ylo, zi E 4 lo), (yrk, zi E 120 rf), (yrv, zi E 120 rg), (yto, zi E 8 (zn (va_up tx 1 ((mpP op nn rf rg i).length))))] dX7_map_77 rfl rfl (by omega) (by decide) (by rw [z_upN]; rfl) ?_
        refine z_aload_n 79 C0 0 dX7_map_78 rfl rfl rfl ?_
        refine z_get 82 C0 0 10 wz_7 rfl (by decide) (zTs_in wk_458) dX7_map_79 rfl rfl rfl ?_
        refine z_sipush 85 C0 (v := (nI 600)) dX7_map_82 rfl rfl ?_
        refine z_icmp_gtN 88 90 C0 (by omega) (by decide) dX7_map_85 rfl (by decide) (fun k85 => ?_) (fun k85 => ?_)
        · skip
          refine z_aload_n 91 C0 0 dX7_map_90 rfl rfl rfl ?_
          refine z_sipush 94 C0 (v := (nI 4000)) dX7_map_91 rfl rfl ?_
          refine z_put 97 C0 0 14 [(y, zo 7 [.int (nI sz), .ref yrk, .ref yrv, .int (nI rn), .ref yop, .ref ynu, .ref yle, .ref yk, .ref yv, .ref ysp, .int (nI ((mpP op nn rf rg i).length)), .ref yxk, .ref yxv, .int (nI rs), .int (nI 4000), .ref yto, .ref yst, .ref ylo, .int (nI stp), .int res, .int (nI wo)]), (yop, zg E 4 oo), (ra, zi E 64 op), (ynu, zg E 4 nu), (rb, zi E 64 nn), (yk, zi E 620 (rwK 620 0 kf (mpP op nn rf rg i))), (yv, zi E 620 (rwV 620 0 vf (mpP op nn rf rg i))), (ysp, zi E 620 (zn sx)), (yst, zi E 8 st), (ylo, zi E 4 lo), (yrk, zi E 120 rf), (yrv, zi E 120 rg), (yto, zi E 8 (zn (va_up tx 1 ((mpP op nn rf rg i).length))))] wz_7 rfl (by decide) (zTs_in wk_462) tyX7 tyX7_ok nmX7 rfl rfl rfl rfl dX7_map_94 rfl rfl (Nat.le_of_ble_eq_true rfl) rfl ?_
          refine z_iconst 98 C0 (v := (nI 0)) dX7_map_97 rfl rfl ?_
          obtain rfl : i = rn := by omega
          exact z_zret C0 rfl rfl dX7_map_98 ⟨((mpP op nn rf rg i).length), (rwK 620 0 kf (mpP op nn rf rg i)), (rwV 620 0 vf (mpP op nn rf rg i)), sx, st, lo, (va_up tx 1 ((mpP op nn rf rg i).length)), stp, res, wo, (nI 4000), (nI 4000), ⟨(zb_fN (by decide)), rfl⟩, (Or.inr (Or.inl ⟨hok, k85, rfl⟩)), (by rw [if_neg (show ¬ nI 4000 = -1 by decide)]), (fun q => absurd q (by decide))⟩ (by decide) (by decide)
        · skip
          refine z_iconst 89 C0 (v := (nI 1)) dX7_map_88 rfl rfl ?_
          obtain rfl : i = rn := by omega
          exact z_zret C0 rfl rfl dX7_map_89 ⟨((mpP op nn rf rg i).length), (rwK 620 0 kf (mpP op nn rf rg i)), (rwV 620 0 vf (mpP op nn rf rg i)), sx, st, lo, (va_up tx 1 ((mpP op nn rf rg i).length)), stp, res, wo, err, (-1), ⟨(zb_tN rfl), rfl⟩, (Or.inr (Or.inr ⟨hok, by omega, rfl⟩)), (by rw [if_pos rfl]), (fun _ => ⟨rfl, rfl, rfl, by rw [htx], fun x hx j h1 h2 => hsx x hx j (by have := mpP_mono (op := op) (nn := nn) (rf := rf) (rg := rg) (show x + 1 ≤ i by omega); omega) h1 h2⟩)⟩ (by decide) (by decide)
      · skip
        refine z_aload_n 16 C0 0 dX7_map_15 rfl rfl rfl ?_
        refine z_iconst 17 C0 (v := (nI 0)) dX7_map_16 rfl rfl ?_
        refine z_aload_n 18 C0 0 dX7_map_17 rfl rfl rfl ?_
        refine z_get 21 C0 0 1 wz_7 rfl (by decide) (zTs_in wk_449) dX7_map_18 rfl rfl rfl ?_
        refine z_iload_n 22 C0 1 dX7_map_21 rfl rfl rfl ?_
        refine z_ialdN 23 C0 10 (v := (rf i)) dX7_map_22 rfl rfl (by omega) (by decide) rfl ?_
        refine z_aload_n 24 C0 0 dX7_map_23 rfl rfl rfl ?_
        refine z_get 27 C0 0 2 wz_7 rfl (by decide) (zTs_in wk_450) dX7_map_24 rfl rfl rfl ?_
        refine z_iload_n 28 C0 1 dX7_map_27 rfl rfl rfl ?_
        refine z_ialdN 29 C0 11 (v := (rg i)) dX7_map_28 rfl rfl (by omega) (by decide) rfl ?_
        refine z_iconst 30 C0 (v := (nI 0)) dX7_map_29 rfl rfl ?_
        refine z_iload_n 31 C0 1 dX7_map_30 rfl rfl rfl ?_
        refine z_aload_n 32 C0 0 dX7_map_31 rfl rfl rfl ?_
        refine z_get 35 C0 0 0 wz_7 rfl (by decide) (zTs_in wk_448) dX7_map_32 rfl rfl rfl ?_
        refine z_idiv 36 C0 (v := (nI (i / sz))) dX7_map_35 rfl (nI_ne0 (by omega) (by omega)) (pk_div (by omega) (by omega) (by omega)) ?_
        refine z_callVi 39 C0 [0, 1, 2, 3, 4, 5, 6, 7, 8, 9] [10, 11, 12] [(yrk, zi E 120 rf), (yrv, zi E 120 rg), (yto, zi E 8 (zn tx))] 0 0 (As := [.int (nI 0), .int (rf i), .int (rg i), .int (nI 0), .int (nI (i / sz))]) (T := TX7) (N := 21) (C := RX7) (ci := 7) (n := 5) 0 (call7 l_ E y sz yrk yrv rn yop ynu yle yk yv ysp ((mpP op nn rf rg i).length) yxk yxv rs err yto yst ylo stp res wo 0 oo nu ra rb op nn (rwK 620 0 kf (mpP op nn rf rg i)) (rwV 620 0 vf (mpP op nn rf rg i)) sx st lo len (rf i) (rg i) (nI 0) (i / sz) (by decide) (hoo) (hnu) (hG) (hlen) (by have := mp_len_le op nn rf rg i; omega)) (zGIV (fun _ => zTs_in) wk_571 wk_568 wk_570 wk_7 wk_20) rfl ⟨rfl, by decide, by decide, by decide +kernel⟩ rfl rfl rfl rfl (by decide) rfl rfl (Nat.le_of_ble_eq_true rfl) ⟨by decide, by decide⟩ rfl rfl ⟨by decide, by decide⟩ ⟨by decide, by decide⟩ dX7_map_36 rfl (fun r36 w36 hB36 => ?_)
        obtain ⟨stp2_36, res2_36, wo2_36, st2_36, lo2_36, ⟨rfl, rfl⟩, fs_36, fa_36⟩ := hB36
        refine z_perm [3, 4, 5, 6, 7, 8, 9, 10, 11, 12, 0, 1, 2] [(y, zo 7 [.int (nI sz), .ref yrk, .ref yrv, .int (nI rn), .ref yop, .ref ynu, .ref yle, .ref yk, .ref yv, .ref ysp, .int (nI (((mpP op nn rf rg i).length) + (callR op nn (rf i) (rg i) (nI 0)).2.2.2.length)), .ref yxk, .ref yxv, .int (nI rs), .int err, .ref yto, .ref yst, .ref ylo, .int (nI stp2_36), .int res2_36, .int (nI wo2_36)]), (yop, zg E 4 oo), (ra, zi E 64 op), (ynu, zg E 4 nu), (rb, zi E 64 nn), (yk, zi E 620 (rwK 620 ((mpP op nn rf rg i).length) (rwK 620 0 kf (mpP op nn rf rg i)) (callR op nn (rf i) (rg i) (nI 0)).2.2.2)), (yv, zi E 620 (rwV 620 ((mpP op nn rf rg i).length) (rwV 620 0 vf (mpP op nn rf rg i)) (callR op nn (rf i) (rg i) (nI 0)).2.2.2)), (ysp, zi E 620 (zn (rwS 620 ((mpP op nn rf rg i).length) sx (i / sz) (callR op nn (rf i) (rg i) (nI 0)).2.2.2))), (yst, zi E 8 st2_36), (ylo, zi E 4 lo2_36), (yrk, zi E 120 rf), (yrv, zi E 120 rg), (yto, zi E 8 (zn tx))] (by decide) rfl ?_
        refine z_eq (L1 := [(0, .ref y), (1, .int (nI i))]) (st1 := [.int (zb ((callR op nn (rf i) (rg i) (nI 0)).1 ≠ 0))]) (w1 := [(y, zo 7 [.int (nI sz), .ref yrk, .ref yrv, .int (nI rn), .ref yop, .ref ynu, .ref yle, .ref yk, .ref yv, .ref ysp, .int (nI ((mpP op nn rf rg (i + 1)).length)), .ref yxk, .ref yxv, .int (nI rs), .int err, .ref yto, .ref yst, .ref ylo, .int (nI stp2_36), .int res2_36, .int (nI wo2_36)]), (yop, zg E 4 oo), (ra, zi E 64 op), (ynu, zg E 4 nu), (rb, zi E 64 nn), (yk, zi E 620 (rwK 620 0 kf (mpP op nn rf rg (i + 1)))), (yv, zi E 620 (rwV 620 0 vf (mpP op nn rf rg (i + 1)))), (ysp, zi E 620 (zn (rwS 620 ((mpP op nn rf rg i).length) sx (i / sz) (mpC op nn rf rg i).2.2.2))), (yst, zi E 8 st2_36), (ylo, zi E 4 lo2_36), (yrk, zi E 120 rf), (yrv, zi E 120 rg), (yto, zi E 8 (zn tx))]) rfl rfl (by rw [rwK_app0, rwV_app0, ← List.length_append]; rfl) ?_
        refine z_if_neP 42 49 C0 dX7_map_39 rfl (by decide) (fun k39 => ?_) (fun k39 => ?_)
        · skip
          have hst := (fs_36 k39).1
          refine z_aload_n 50 C0 0 dX7_map_49 rfl rfl rfl ?_
          refine z_get 53 C0 0 15 wz_7 rfl (by decide) (zTs_in wk_463) dX7_map_50 rfl rfl rfl ?_
          refine z_iconst 54 C0 (v := (nI 4)) dX7_map_53 rfl rfl ?_
          refine z_dup2 55 C0 dX7_map_54 rfl rfl rfl ?_
          refine z_ialdN 56 C0 12 (v := (nI (tx 4))) dX7_map_55 rfl rfl (by omega) (by decide) rfl ?_
          refine z_aload_n 57 C0 0 dX7_map_56 rfl rfl rfl ?_
          refine z_get 60 C0 0 18 wz_7 rfl (by decide) (zTs_in wk_466) dX7_map_57 rfl rfl rfl ?_
          refine z_iadd 61 C0 (v := (nI ((tx 4) + stp2_36))) dX7_map_60 rfl (nI_add _ _) ?_
          refine z_iastN 62 C0 12 [(y, zo 7 [.int (nI sz), .ref yrk, .ref yrv, .int (nI rn), .ref yop, .ref ynu, .ref yle, .ref yk, .ref yv, .ref ysp, .int (nI ((mpP op nn rf rg (i + 1)).length)), .ref yxk, .ref yxv, .int (nI rs), .int err, .ref yto, .ref yst, .ref ylo, .int (nI stp2_36), .int res2_36, .int (nI wo2_36)]), (yop, zg E 4 oo), (ra, zi E 64 op), (ynu, zg E 4 nu), (rb, zi E 64 nn), (yk, zi E 620 (rwK 620 0 kf (mpP op nn rf rg (i + 1)))), (yv, zi E 620 (rwV 620 0 vf (mpP op nn rf rg (i + 1)))), (ysp, zi E 620 (zn (rwS 620 ((mpP op nn rf rg i).length) sx (i / sz) (mpC op nn rf rg i).2.2.2))), (yst, zi E 8 st2_36), (ylo, zi E 4 lo2_36), (yrk, zi E 120 rf), (yrv, zi E 120 rg), (yto, zi E 8 (zn (va_up tx 4 ((tx 4) + stp2_36))))] dX7_map_61 rfl rfl (by omega) (by decide) (by rw [z_upN]; rfl) ?_
          refine z_iinc 65 C0 1 [1, 0] [(0, .ref y), (1, .int (nI (i + 1)))] (v := (nI (i + 1))) dX7_map_62 rfl rfl (z_incN _ _) (by decide) rfl ?_
          refine z_goto 7 C0 dX7_map_65 (by decide) ?_
          exact ih7 (i + 1) (rwS 620 ((mpP op nn rf rg i).length) sx (i / sz) (mpC op nn rf rg i).2.2.2) st2_36 lo2_36 (va_up tx 4 ((tx 4) + stp2_36)) stp2_36 res2_36 wo2_36 (by omega) (fun x hx => by rcases Nat.lt_or_ge x i with q | q; exact hok x q; rw [show x = i by omega]; exact k39) (by rw [htx, (fs_36 k39).1]; exact z_up_add _ _ _ _) (rwS_map hsx) (by omega)
        · skip
          refine z_aload_n 43 C0 0 dX7_map_42 rfl rfl rfl ?_
          refine z_iload_n 44 C0 1 dX7_map_43 rfl rfl rfl ?_
          refine z_put 47 C0 0 14 [(y, zo 7 [.int (nI sz), .ref yrk, .ref yrv, .int (nI rn), .ref yop, .ref ynu, .ref yle, .ref yk, .ref yv, .ref ysp, .int (nI ((mpP op nn rf rg (i + 1)).length)), .ref yxk, .ref yxv, .int (nI rs), .int (nI i), .ref yto, .ref yst, .ref ylo, .int (nI stp2_36), .int res2_36, .int (nI wo2_36)]), (yop, zg E 4 oo), (ra, zi E 64 op), (ynu, zg E 4 nu), (rb, zi E 64 nn), (yk, zi E 620 (rwK 620 0 kf (mpP op nn rf rg (i + 1)))), (yv, zi E 620 (rwV 620 0 vf (mpP op nn rf rg (i + 1)))), (ysp, zi E 620 (zn (rwS 620 ((mpP op nn rf rg i).length) sx (i / sz) (mpC op nn rf rg i).2.2.2))), (yst, zi E 8 st2_36), (ylo, zi E 4 lo2_36), (yrk, zi E 120 rf), (yrv, zi E 120 rg), (yto, zi E 8 (zn tx))] wz_7 rfl (by decide) (zTs_in wk_462) tyX7 tyX7_ok nmX7 rfl rfl rfl rfl dX7_map_44 rfl rfl (Nat.le_of_ble_eq_true rfl) rfl ?_
          refine z_iconst 48 C0 (v := (nI 0)) dX7_map_47 rfl rfl ?_
          exact z_zret C0 rfl rfl dX7_map_48 ⟨((mpP op nn rf rg (i + 1)).length), (rwK 620 0 kf (mpP op nn rf rg (i + 1))), (rwV 620 0 vf (mpP op nn rf rg (i + 1))), (rwS 620 ((mpP op nn rf rg i).length) sx (i / sz) (mpC op nn rf rg i).2.2.2), st2_36, lo2_36, tx, stp2_36, res2_36, wo2_36, (nI i), (nI i), ⟨(zb_fN (nI_neg1 (by omega))), rfl⟩, (Or.inl ⟨i, by omega, Classical.byContradiction fun q => k39 q, hok, rfl⟩), (by rw [if_neg (nI_neg1 (by omega))]), (fun q => absurd q (nI_neg1 (by omega)))⟩ (by decide) (by decide)
  exact CUT7 (rn - 0 + 1) 0 sp st lo to stp res wo (Nat.zero_le _) (fun x hx => absurd hx (Nat.not_lt_zero x)) (z_up_self _ _).symm (fun x hx => absurd hx (Nat.not_lt_zero x)) (Nat.lt_succ_self _)
