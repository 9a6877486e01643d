/-- a row whose places behind k, up to n, have gone one up -/
def shA (f : Nat → Int32) (n k : Nat) : Nat → Int32 := fun q => if k < q ∧ q ≤ n then f (q - 1) else f q
theorem shA_n (f : Nat → Int32) (n : Nat) : shA f n n = f := by funext q; unfold shA; rw [if_neg (by omega)]
theorem shA_s {f : Nat → Int32} {n k : Nat} (h : 0 < k) (hk : k ≤ n) : upd (shA f n k) k (shA f n k (k - 1)) = shA f n (k - 1) := by
  funext q
  show (if q = k then shA f n k (k - 1) else shA f n k q) = shA f n (k - 1) q
  unfold shA
  by_cases e : q = k
  · subst e
    rw [if_pos rfl, if_neg (by omega), if_pos (by omega)]
  · rw [if_neg e]
    by_cases h1 : k < q ∧ q ≤ n
    · rw [if_pos h1, if_pos (by omega)]
    · rw [if_neg h1, if_neg (by omega)]
theorem shA_ins {f : Nat → Int32} {n k : Nat} {x : Int32} (h : k ≤ n) : upd (shA f n k) k x = insA f k n x := by
  funext q
  rcases Nat.lt_trichotomy q k with a | a | a
  · rw [insA_lo a]
    show (if q = k then x else shA f n k q) = f q
    unfold shA
    rw [if_neg (by omega), if_neg (by omega)]
  · subst a
    rw [insA_at]
    show (if q = q then x else _) = x
    rw [if_pos rfl]
  · show (if q = k then x else shA f n k q) = (if q = k then x else va_cpy f f k (k + 1) (n - k) q)
    rw [if_neg (by omega), if_neg (by omega)]
    unfold shA
    by_cases h2 : q ≤ n
    · rw [if_pos ⟨a, h2⟩, pk_cpy_in (by omega) (by omega)]
      congr 1
      omega
    · rw [if_neg (fun z => h2 z.2), pk_cpy_out (Or.inr (by omega))]
theorem mRun_18no {kd : Nat} {op nn : Nat → Int32} {len : Nat} {ar : Nat → Int32} (hG : Good kd op nn len) (hlen : len ≤ 64) (hkd : kd ≠ 3) :
    ∀ (fu k i h : Nat) (st lo : Nat → Int32) (P : List (Int32 × Int32)), Rch kd op nn len i h → (mRun op nn ar fu k i h st lo P).1 ≤ 1 := by
  intro fu
  induction fu with
  | zero => intros; exact Nat.zero_le 1
  | succ fu ih =>
    intro k i h st lo P hR
    obtain ⟨hi, hh, o, ho⟩ := hG.at hR
    have hop := ho.1.2.1
    have h18 := ho.1.1
    by_cases h17 : o = 17
    · subst h17; rw [mRun_17 hop]; exact Nat.le_refl 1
    have h18' : o ≠ 18 := fun q => hkd (ho.1.2.2.2.1 q)
    by_cases h16 : o = 16 ∧ 20 ≤ P.length
    · obtain ⟨rfl, h20⟩ := h16; rw [mRun_16 hop h20]; exact Nat.zero_le 1
    rw [mRun_step hop h18 h17 h18' h16 rfl]
    refine ih _ _ _ _ _ _ ?_
    generalize hjn : (nn i).toNatClampNeg = jn
    by_cases hx : hasNx o
    · have hr := hR.next ho hx
      by_cases h15 : o = 15
      · subst h15
        obtain ⟨j, hj, hn⟩ := ho.1.2.2.2.2.2.2 (Or.inr rfl)
        have hjj : jn = j := by rw [← hjn, hn]; exact nI_clamp (by omega)
        unfold aAt
        rw [if_neg (by omega), if_pos rfl]
        by_cases hz : popV h st = 0
        · rw [if_pos hz, hjj]; exact hR.jump ho (Or.inr rfl) hj hn
        · rw [if_neg hz]; exact hr
      · unfold aAt
        rw [if_neg hx.1, if_neg h15]
        exact hr
    · have h14 : o = 14 := by
        apply Classical.byContradiction
        intro q
        exact hx ⟨q, h17, h18'⟩
      subst h14
      obtain ⟨j, hj, hn⟩ := ho.1.2.2.2.2.2.2 (Or.inl rfl)
      have hjj : jn = j := by rw [← hjn, hn]; exact nI_clamp (by omega)
      unfold aAt
      rw [if_pos rfl, hjj]
      exact hR.jump ho (Or.inl rfl) hj hn
theorem callR_one {kd : Nat} {op nn : Nat → Int32} {len : Nat} (hG : Good kd op nn len) (hlen : len ≤ 64) (hkd : kd ≠ 3) (a b d : Int32) (h : (callR op nn a b d).1 ≠ 0) : (callR op nn a b d).1 = 1 := by
  have h1 : (callR op nn a b d).1 ≤ 1 := mRun_18no hG hlen hkd _ _ _ _ _ _ _ Rch.zero
  omega
set_option maxHeartbeats 4000000 in
set_option maxRecDepth 100000 in
theorem fold7 (l_ : Launch) (E : zE) (y : Nat) (sz : Nat) (yrk : Nat) (yrv : Nat) (rn : Nat) (yop : Nat) (ynu : Nat) (yle : Nat) (yk : Nat) (yv : Nat) (ysp : Nat) (prs : Nat) (yxk : Nat) (yxv : Nat) (rs : Nat) (err : Int32) (yto : Nat) (yst : Nat) (ylo : Nat) (stp : Nat) (res : Int32) (wo : Nat) (oo : Nat → Option Nat) (nu : Nat → Option Nat) (ra : Nat) (rb : Nat) (op : Nat → Int32) (nn : Nat → Int32) (kf : Nat → Int32) (vf : Nat → Int32) (sp : Nat → Nat) (st : Nat → Int32) (lo : Nat → Int32) (xk : Nat → Int32) (xv : Nat → Int32) (to : Nat → Nat) (len : Nat) (hoo : oo 2 = some ra) (hnu : nu 2 = some rb) (hG : Good 2 op nn len) (hlen : len ≤ 64) (hprs : prs ≤ 600) : zMi l_ E yX7_fold (zTs yX7_fold cX7_fold 4 (some .boolean)) ({ frames := 2, cells := 0, slots := 0, locals := 54 } : Room) [.ref y] [(y, zo 7 [.int (nI sz), .ref yrk, .ref yrv, .int (nI rn), .ref yop, .ref ynu, .ref yle, .ref yk, .ref yv, .ref ysp, .int (nI prs), .ref yxk, .ref yxv, .int (nI rs), .int err, .ref yto, .ref yst, .ref ylo, .int (nI stp), .int res, .int (nI wo)]), (yop, zg E 4 oo), (ra, zi E 64 op), (ynu, zg E 4 nu), (rb, zi E 64 nn), (yk, zi E 620 kf), (yv, zi E 620 vf), (ysp, zi E 620 (zn sp)), (yst, zi E 8 st), (ylo, zi E 4 lo), (yxk, zi E 600 xk), (yxv, zi E 600 xv), (yto, zi E 8 (zn to))] (fun r_ w_ => ∃ n2 : Nat, ∃ xk2 : Nat → Int32, ∃ xv2 : Nat → Int32, ∃ st2 : Nat → Int32, ∃ lo2 : Nat → Int32, ∃ to2 : Nat → Nat, ∃ stp2 : Nat, ∃ res2 : Int32, ∃ wo2 : Nat, ∃ err2 : Int32, (r_ = (zb ((mgL (pF op nn) (tab kf vf 0 prs) (fun _ => none, 0)) ≠ none)) ∧ w_ = [(y, zo 7 [.int (nI sz), .ref yrk, .ref yrv, .int (nI rn), .ref yop, .ref ynu, .ref yle, .ref yk, .ref yv, .ref ysp, .int (nI prs), .ref yxk, .ref yxv, .int (nI n2), .int err2, .ref yto, .ref yst, .ref ylo, .int (nI stp2), .int res2, .int (nI wo2)]), (yop, zg E 4 oo), (ra, zi E 64 op), (ynu, zg E 4 nu), (rb, zi E 64 nn), (yk, zi E 620 kf), (yv, zi E 620 vf), (ysp, zi E 620 (zn sp)), (yst, zi E 8 st2), (ylo, zi E 4 lo2), (yxk, zi E 600 xk2), (yxv, zi E 600 xv2), (yto, zi E 8 (zn to2))]) ∧ (n2 ≤ prs) ∧ (∀ M s, (mgL (pF op nn) (tab kf vf 0 prs) (fun _ => none, 0)) = some (M, s) → tbl n2 xk2 xv2 M ∧ to2 = va_up (va_up to 6 (to 6 + s)) 3 n2 ∧ err2 = err) ∧ ((mgL (pF op nn) (tab kf vf 0 prs) (fun _ => none, 0)) = none → err2 = nI 2000)) 0 0 := by
  refine zMi.of (cc := cX7_fold) (nL := 4) (ret := (some .boolean)) (by decide) rfl (Nat.le_of_ble_eq_true rfl) ?_
  intro p_ e_ s_ m_ args_ below_ meth_ c_ A_ C0 hin0
  have C0 : zC E p_ s_ m_ args_ meth_ c_ cX7_fold 4 (some .boolean) RX7 (zTs yX7_fold cX7_fold 4 (some .boolean)) A_ := C0
  refine z_eqL (L1 := [(0, .ref y)]) rfl ?_
  refine z_aload_n 1 C0 0 dX7_fold_0 rfl rfl rfl ?_
  refine z_iconst 2 C0 (v := (nI 0)) dX7_fold_1 rfl rfl ?_
  refine z_put 5 C0 0 13 [(y, zo 7 [.int (nI sz), .ref yrk, .ref yrv, .int (nI rn), .ref yop, .ref ynu, .ref yle, .ref yk, .ref yv, .ref ysp, .int (nI prs), .ref yxk, .ref yxv, .int (nI 0), .int err, .ref yto, .ref yst, .ref ylo, .int (nI stp), .int res, .int (nI wo)]), (yop, zg E 4 oo), (ra, zi E 64 op), (ynu, zg E 4 nu), (rb, zi E 64 nn), (yk, zi E 620 kf), (yv, zi E 620 vf), (ysp, zi E 620 (zn sp)), (yst, zi E 8 st), (ylo, zi E 4 lo), (yxk, zi E 600 xk), (yxv, zi E 600 xv), (yto, zi E 8 (zn to))] wz_7 rfl (by decide) (zTs_in wk_461) tyX7 tyX7_ok nmX7 rfl rfl rfl rfl dX7_fold_2 rfl rfl (Nat.le_of_ble_eq_true rfl) rfl ?_
  refine z_iconst 6 C0 (v := (nI 0)) dX7_fold_5 rfl rfl ?_
  refine z_istore_n 7 C0 [1, 0] [(0, .ref y), (1, .int (nI 0))] dX7_fold_6 rfl rfl (by decide) rfl ?_
  have CUT7 : ∀ (N7 : Nat) (i : Nat) (tn : Nat) (xk : Nat → Int32) (xv : Nat → Int32) (M : mapT) (s : Nat) (st : Nat → Int32) (lo : Nat → Int32) (tx : Nat → Nat) (stp : Nat) (res : Int32) (wo : Nat), (i ≤ prs) → (tn ≤ i) → (tbl tn xk xv M) → (tx = va_up to 6 (to 6 + s)) → (mgL (pF op nn) (tab kf vf i (prs - i)) (M, s) = (mgL (pF op nn) (tab kf vf 0 prs) (fun _ => none, 0))) → prs - i < N7 → Z E p_ l_ e_ ({ frames := 2, cells := 0, slots := 0, locals := 54 } : Room) s_ m_ args_ below_ meth_ c_ (MQ below_ (va_Qi (fun r_ w_ => ∃ n2 : Nat, ∃ xk2 : Nat → Int32, ∃ xv2 : Nat → Int32, ∃ st2 : Nat → Int32, ∃ lo2 : Nat → Int32, ∃ to2 : Nat → Nat, ∃ stp2 : Nat, ∃ res2 : Int32, ∃ wo2 : Nat, ∃ err2 : Int32, (r_ = (zb ((mgL (pF op nn) (tab kf vf 0 prs) (fun _ => none, 0)) ≠ none)) ∧ w_ = [(y, zo 7 [.int (nI sz), .ref yrk, .ref yrv, .int (nI rn), .ref yop, .ref ynu, .ref yle, .ref yk, .ref yv, .ref ysp, .int (nI prs), .ref yxk, .ref yxv, .int (nI n2), .int err2, .ref yto, .ref yst, .ref ylo, .int (nI stp2), .int res2, .int (nI wo2)]), (yop, zg E 4 oo), (ra, zi E 64 op), (ynu, zg E 4 nu), (rb, zi E 64 nn), (yk, zi E 620 kf), (yv, zi E 620 vf), (ysp, zi E 620 (zn sp)), (yst, zi E 8 st2), (ylo, zi E 4 lo2), (yxk, zi E 600 xk2), (yxv, zi E 600 xv2), (yto, zi E 8 (zn to2))]) ∧ (n2 ≤ prs) ∧ (∀ M s, (mgL (pF op nn) (tab kf vf 0 prs) (fun _ => none, 0)) = some (M, s) → tbl n2 xk2 xv2 M ∧ to2 = va_up (va_up to 6 (to 6 + s)) 3 n2 ∧ err2 = err) ∧ ((mgL (pF op nn) (tab kf vf 0 prs) (fun _ => none, 0)) = none → err2 = nI 2000)) (zPost E A_) A_) args_ s_ 0 0 A_) A_ 4 7 [(0, .ref y), (1, .int (nI i))] [] [(y, zo 7 [.int (nI sz), .ref yrk, .ref yrv, .int (nI rn), .ref yop, .ref ynu, .ref yle, .ref yk, .ref yv, .ref ysp, .int (nI prs), .ref yxk, .ref yxv, .int (nI tn), .int err, .ref yto, .ref yst, .ref ylo, .int (nI stp), .int res, .int (nI wo)]), (yop, zg E 4 oo), (ra, zi E 64 op), (ynu, zg E 4 nu), (rb, zi E 64 nn), (yk, zi E 620 kf), (yv, zi E 620 vf), (ysp, zi E 620 (zn sp)), (yst, zi E 8 st), (ylo, zi E 4 lo), (yxk, zi E 600 xk), (yxv, zi E 600 xv), (yto, zi E 8 (zn tx))] 0 0 := by
    intro N7
    induction N7 with
    | zero => intro i tn xk xv M s st lo tx stp res wo hi htn htb htx hM hm7; exact absurd hm7 (Nat.not_lt_zero _)
    | succ N7 ih7 =>
      intro i tn xk xv M s st lo tx stp res wo hi htn htb htx hM hm7
      refine z_iload_n 8 C0 1 dX7_fold_7 rfl rfl rfl ?_
      refine z_aload_n 9 C0 0 dX7_fold_8 rfl rfl rfl ?_
      refine z_get 12 C0 0 10 wz_7 rfl (by decide) (zTs_in wk_458) dX7_fold_9 rfl rfl rfl ?_
      refine z_icmp_geN 15 216 C0 (by omega) (by omega) dX7_fold_12 rfl (by decide) (fun k12 => ?_) (fun k12 => ?_)
      · skip
        refine z_aload_n 217 C0 0 dX7_fold_216 rfl rfl rfl ?_
        refine z_get 220 C0 0 15 wz_7 rfl (by decide) (zTs_in wk_463) dX7_fold_217 rfl rfl rfl ?_
        refine z_iconst 221 C0 (v := (nI 3)) dX7_fold_220 rfl rfl ?_
        refine z_aload_n 222 C0 0 dX7_fold_221 rfl rfl rfl ?_
        refine z_get 225 C0 0 13 wz_7 rfl (by decide) (zTs_in wk_461) dX7_fold_222 rfl rfl rfl ?_
        refine z_iastN 226 C0 12 [(y, zo 7 [.int (nI sz), .ref yrk, .ref yrv, .int (nI rn), .ref yop, .ref ynu, .ref yle, .ref yk, .ref yv, .ref ysp, .int (nI prs), .ref yxk, .ref yxv, .int (nI tn), .int err, .ref yto, .ref yst, .ref ylo, .int (nI stp), .int res, .int (nI wo)]), (yop, zg E 4 oo), (ra, zi E 64 op), (ynu, zg E 4 nu), (rb, zi E 64 nn), (yk, zi E 620 kf), (yv, zi E 620 vf), (ysp, zi E 620 (zn sp)), (yst, zi E 8 st), (ylo, zi E 4 lo), (yxk, zi E 600 xk), (yxv, zi E 600 xv), (yto, zi E 8 (zn (va_up tx 3 tn)))] dX7_fold_225 rfl rfl (by omega) (by decide) (by rw [z_upN]; rfl) ?_
        refine z_iconst 227 C0 (v := (nI 1)) dX7_fold_226 rfl rfl ?_
        have hsome : (mgL (pF op nn) (tab kf vf 0 prs) (fun _ => none, 0)) = some (M, s) := by rw [← hM, show prs - i = 0 by omega]; rfl
        exact z_zret C0 rfl rfl dX7_fold_227 ⟨tn, xk, xv, st, lo, (va_up tx 3 tn), stp, res, wo, err, ⟨(zb_tN (fun q => by rw [hsome] at q; cases q)), rfl⟩, (by omega), (fun M2 s2 q => by rw [hsome] at q; cases q; exact ⟨htb, by rw [htx], rfl⟩), (fun q => by rw [hsome] at q; cases q)⟩ (by decide) (by decide)
      · skip
        have hM2 := hM
        rw [show prs - i = (prs - (i + 1)) + 1 by omega, tab_s] at hM2
        have CUT69 : ∀ (at_ : Nat), (plc tn xk (kf i) at_) → (M (kf i) = none) → Z E p_ l_ e_ ({ frames := 2, cells := 0, slots := 0, locals := 54 } : Room) s_ m_ args_ below_ meth_ c_ (MQ below_ (va_Qi (fun r_ w_ => ∃ n2 : Nat, ∃ xk2 : Nat → Int32, ∃ xv2 : Nat → Int32, ∃ st2 : Nat → Int32, ∃ lo2 : Nat → Int32, ∃ to2 : Nat → Nat, ∃ stp2 : Nat, ∃ res2 : Int32, ∃ wo2 : Nat, ∃ err2 : Int32, (r_ = (zb ((mgL (pF op nn) (tab kf vf 0 prs) (fun _ => none, 0)) ≠ none)) ∧ w_ = [(y, zo 7 [.int (nI sz), .ref yrk, .ref yrv, .int (nI rn), .ref yop, .ref ynu, .ref yle, .ref yk, .ref yv, .ref ysp, .int (nI prs), .ref yxk, .ref yxv, .int (nI n2), .int err2, .ref yto, .ref yst, .ref ylo, .int (nI stp2), .int res2, .int (nI wo2)]), (yop, zg E 4 oo), (ra, zi E 64 op), (ynu, zg E 4 nu), (rb, zi E 64 nn), (yk, zi E 620 kf), (yv, zi E 620 vf), (ysp, zi E 620 (zn sp)), (yst, zi E 8 st2), (ylo, zi E 4 lo2), (yxk, zi E 600 xk2), (yxv, zi E 600 xv2), (yto, zi E 8 (zn to2))]) ∧ (n2 ≤ prs) ∧ (∀ M s, (mgL (pF op nn) (tab kf vf 0 prs) (fun _ => none, 0)) = some (M, s) → tbl n2 xk2 xv2 M ∧ to2 = va_up (va_up to 6 (to 6 + s)) 3 n2 ∧ err2 = err) ∧ ((mgL (pF op nn) (tab kf vf 0 prs) (fun _ => none, 0)) = none → err2 = nI 2000)) (zPost E A_) A_) args_ s_ 0 0 A_) A_ 4 69 [(0, .ref y), (1, .int (nI i)), (2, .int (nI at_))] [] [(y, zo 7 [.int (nI sz), .ref yrk, .ref yrv, .int (nI rn), .ref yop, .ref ynu, .ref yle, .ref yk, .ref yv, .ref ysp, .int (nI prs), .ref yxk, .ref yxv, .int (nI tn), .int err, .ref yto, .ref yst, .ref ylo, .int (nI stp), .int res, .int (nI wo)]), (yop, zg E 4 oo), (ra, zi E 64 op), (ynu, zg E 4 nu), (rb, zi E 64 nn), (yk, zi E 620 kf), (yv, zi E 620 vf), (ysp, zi E 620 (zn sp)), (yst, zi E 8 st), (ylo, zi E 4 lo), (yxk, zi E 600 xk), (yxv, zi E 600 xv), (yto, zi E 8 (zn tx))] 0 0 := by
          intro at_ hpl hno
          have hatn := hpl.1
          refine z_aload_n 70 C0 0 dX7_fold_69 rfl rfl rfl ?_
          refine z_get 73 C0 0 13 wz_7 rfl (by decide) (zTs_in wk_461) dX7_fold_70 rfl rfl rfl ?_
          refine z_eq (L1 := [(0, .ref y), (1, .int (nI i)), (2, .int (nI at_))]) (st1 := [.int (nI tn)]) (w1 := [(y, zo 7 [.int (nI sz), .ref yrk, .ref yrv, .int (nI rn), .ref yop, .ref ynu, .ref yle, .ref yk, .ref yv, .ref ysp, .int (nI prs), .ref yxk, .ref yxv, .int (nI tn), .int err, .ref yto, .ref yst, .ref ylo, .int (nI stp), .int res, .int (nI wo)]), (yop, zg E 4 oo), (ra, zi E 64 op), (ynu, zg E 4 nu), (rb, zi E 64 nn), (yk, zi E 620 kf), (yv, zi E 620 vf), (ysp, zi E 620 (zn sp)), (yst, zi E 8 st), (ylo, zi E 4 lo), (yxk, zi E 600 (shA xk tn tn)), (yxv, zi E 600 (shA xv tn tn)), (yto, zi E 8 (zn tx))]) rfl rfl (by rw [shA_n, shA_n]) ?_
          refine z_istore_n 74 C0 [1, 2, 3, 0] [(0, .ref y), (1, .int (nI i)), (2, .int (nI at_)), (3, .int (nI tn))] dX7_fold_73 rfl rfl (by decide) rfl ?_
          have CUT74 : ∀ (N74 : Nat) (k : Nat), (at_ ≤ k) → (k ≤ tn) → k < N74 → Z E p_ l_ e_ ({ frames := 2, cells := 0, slots := 0, locals := 54 } : Room) s_ m_ args_ below_ meth_ c_ (MQ below_ (va_Qi (fun r_ w_ => ∃ n2 : Nat, ∃ xk2 : Nat → Int32, ∃ xv2 : Nat → Int32, ∃ st2 : Nat → Int32, ∃ lo2 : Nat → Int32, ∃ to2 : Nat → Nat, ∃ stp2 : Nat, ∃ res2 : Int32, ∃ wo2 : Nat, ∃ err2 : Int32, (r_ = (zb ((mgL (pF op nn) (tab kf vf 0 prs) (fun _ => none, 0)) ≠ none)) ∧ w_ = [(y, zo 7 [.int (nI sz), .ref yrk, .ref yrv, .int (nI rn), .ref yop, .ref ynu, .ref yle, .ref yk, .ref yv, .ref ysp, .int (nI prs), .ref yxk, .ref yxv, .int (nI n2), .int err2, .ref yto, .ref yst, .ref ylo, .int (nI stp2), .int res2, .int (nI wo2)]), (yop, zg E 4 oo), (ra, zi E 64 op), (ynu, zg E 4 nu), (rb, zi E 64 nn), (yk, zi E 620 kf), (yv, zi E 620 vf), (ysp, zi E 620 (zn sp)), (yst, zi E 8 st2), (ylo, zi E 4 lo2), (yxk, zi E 600 xk2), (yxv, zi E 600 xv2), (yto, zi E 8 (zn to2))]) ∧ (n2 ≤ prs) ∧ (∀ M s, (mgL (pF op nn) (tab kf vf 0 prs) (fun _ => none, 0)) = some (M, s) → tbl n2 xk2 xv2 M ∧ to2 = va_up (va_up to 6 (to 6 + s)) 3 n2 ∧ err2 = err) ∧ ((mgL (pF op nn) (tab kf vf 0 prs) (fun _ => none, 0)) = none → err2 = nI 2000)) (zPost E A_) A_) args_ s_ 0 0 A_) A_ 4 74 [(0, .ref y), (1, .int (nI i)), (2, .int (nI at_)), (3, .int (nI k))] [] [(y, zo 7 [.int (nI sz), .ref yrk, .ref yrv, .int (nI rn), .ref yop, .ref ynu, .ref yle, .ref yk, .ref yv, .ref ysp, .int (nI prs), .ref yxk, .ref yxv, .int (nI tn), .int err, .ref yto, .ref yst, .ref ylo, .int (nI stp), .int res, .int (nI wo)]), (yop, zg E 4 oo), (ra, zi E 64 op), (ynu, zg E 4 nu), (rb, zi E 64 nn), (yk, zi E 620 kf), (yv, zi E 620 vf), (ysp, zi E 620 (zn sp)), (yst, zi E 8 st), (ylo, zi E 4 lo), (yxk, zi E 600 (shA xk tn k)), (yxv, zi E 600 (shA xv tn k)), (yto, zi E 8 (zn tx))] 0 0 := by
            intro N74
            induction N74 with
            | zero => intro k hk1 hk2 hm74; exact absurd hm74 (Nat.not_lt_zero _)
            | succ N74 ih74 =>
              intro k hk1 hk2 hm74
              refine z_iload_n 75 C0 3 dX7_fold_74 rfl rfl rfl ?_
              refine z_iload_n 76 C0 2 dX7_fold_75 rfl rfl rfl ?_
              refine z_icmp_leN 79 113 C0 (by omega) (by omega) dX7_fold_76 rfl (by decide) (fun k76 => ?_) (fun k76 => ?_)
              · skip
                obtain rfl : k = at_ := by have := hk1; omega
                refine z_aload_n 114 C0 0 dX7_fold_113 rfl rfl rfl ?_
                refine z_get 117 C0 0 11 wz_7 rfl (by decide) (zTs_in wk_459) dX7_fold_114 rfl rfl rfl ?_
                refine z_iload_n 118 C0 2 dX7_fold_117 rfl rfl rfl ?_
                refine z_aload_n 119 C0 0 dX7_fold_118 rfl rfl rfl ?_
                refine z_get 122 C0 0 7 wz_7 rfl (by decide) (zTs_in wk_455) dX7_fold_119 rfl rfl rfl ?_
                refine z_iload_n 123 C0 1 dX7_fold_122 rfl rfl rfl ?_
                refine z_ialdN 124 C0 5 (v := (kf i)) dX7_fold_123 rfl rfl (by omega) (by decide) rfl ?_
                refine z_iastN 125 C0 10 [(y, zo 7 [.int (nI sz), .ref yrk, .ref yrv, .int (nI rn), .ref yop, .ref ynu, .ref yle, .ref yk, .ref yv, .ref ysp, .int (nI prs), .ref yxk, .ref yxv, .int (nI tn), .int err, .ref yto, .ref yst, .ref ylo, .int (nI stp), .int res, .int (nI wo)]), (yop, zg E 4 oo), (ra, zi E 64 op), (ynu, zg E 4 nu), (rb, zi E 64 nn), (yk, zi E 620 kf), (yv, zi E 620 vf), (ysp, zi E 620 (zn sp)), (yst, zi E 8 st), (ylo, zi E 4 lo), (yxk, zi E 600 (upd (shA xk tn k) k (kf i))), (yxv, zi E 600 (shA xv tn k)), (yto, zi E 8 (zn tx))] dX7_fold_124 rfl rfl (by omega) (by decide) rfl ?_
                refine z_aload_n 126 C0 0 dX7_fold_125 rfl rfl rfl ?_
                refine z_get 129 C0 0 12 wz_7 rfl (by decide) (zTs_in wk_460) dX7_fold_126 rfl rfl rfl ?_
                refine z_iload_n 130 C0 2 dX7_fold_129 rfl rfl rfl ?_
                refine z_aload_n 131 C0 0 dX7_fold_130 rfl rfl rfl ?_
                refine z_get 134 C0 0 8 wz_7 rfl (by decide) (zTs_in wk_456) dX7_fold_131 rfl rfl rfl ?_
                refine z_iload_n 135 C0 1 dX7_fold_134 rfl rfl rfl ?_
                refine z_ialdN 136 C0 6 (v := (vf i)) dX7_fold_135 rfl rfl (by omega) (by decide) rfl ?_
                refine z_iastN 137 C0 11 [(y, zo 7 [.int (nI sz), .ref yrk, .ref yrv, .int (nI rn), .ref yop, .ref ynu, .ref yle, .ref yk, .ref yv, .ref ysp, .int (nI prs), .ref yxk, .ref yxv, .int (nI tn), .int err, .ref yto, .ref yst, .ref ylo, .int (nI stp), .int res, .int (nI wo)]), (yop, zg E 4 oo), (ra, zi E 64 op), (ynu, zg E 4 nu), (rb, zi E 64 nn), (yk, zi E 620 kf), (yv, zi E 620 vf), (ysp, zi E 620 (zn sp)), (yst, zi E 8 st), (ylo, zi E 4 lo), (yxk, zi E 600 (upd (shA xk tn k) k (kf i))), (yxv, zi E 600 (upd (shA xv tn k) k (vf i))), (yto, zi E 8 (zn tx))] dX7_fold_136 rfl rfl (by omega) (by decide) rfl ?_
                refine z_eq (L1 := [(0, .ref y), (1, .int (nI i)), (2, .int (nI k)), (3, .int (nI k))]) (st1 := []) (w1 := [(y, zo 7 [.int (nI sz), .ref yrk, .ref yrv, .int (nI rn), .ref yop, .ref ynu, .ref yle, .ref yk, .ref yv, .ref ysp, .int (nI prs), .ref yxk, .ref yxv, .int (nI tn), .int err, .ref yto, .ref yst, .ref ylo, .int (nI stp), .int res, .int (nI wo)]), (yop, zg E 4 oo), (ra, zi E 64 op), (ynu, zg E 4 nu), (rb, zi E 64 nn), (yk, zi E 620 kf), (yv, zi E 620 vf), (ysp, zi E 620 (zn sp)), (yst, zi E 8 st), (ylo, zi E 4 lo), (yxk, zi E 600 (insA xk k tn (kf i))), (yxv, zi E 600 (insA xv k tn (vf i))), (yto, zi E 8 (zn tx))]) rfl rfl (by rw [shA_ins hk2, shA_ins hk2]) ?_
                refine z_aload_n 138 C0 0 dX7_fold_137 rfl rfl rfl ?_
                refine z_dup 139 C0 dX7_fold_138 rfl rfl ?_
                refine z_get 142 C0 0 13 wz_7 rfl (by decide) (zTs_in wk_461) dX7_fold_139 rfl rfl rfl ?_
                refine z_iconst 143 C0 (v := (nI 1)) dX7_fold_142 rfl rfl ?_
                refine z_iadd 144 C0 (v := (nI (tn + 1))) dX7_fold_143 rfl (nI_add _ _) ?_
                refine z_put 147 C0 0 13 [(y, zo 7 [.int (nI sz), .ref yrk, .ref yrv, .int (nI rn), .ref yop, .ref ynu, .ref yle, .ref yk, .ref yv, .ref ysp, .int (nI prs), .ref yxk, .ref yxv, .int (nI (tn + 1)), .int err, .ref yto, .ref yst, .ref ylo, .int (nI stp), .int res, .int (nI wo)]), (yop, zg E 4 oo), (ra, zi E 64 op), (ynu, zg E 4 nu), (rb, zi E 64 nn), (yk, zi E 620 kf), (yv, zi E 620 vf), (ysp, zi E 620 (zn sp)), (yst, zi E 8 st), (ylo, zi E 4 lo), (yxk, zi E 600 (insA xk k tn (kf i))), (yxv, zi E 600 (insA xv k tn (vf i))), (yto, zi E 8 (zn tx))] wz_7 rfl (by decide) (zTs_in wk_461) tyX7 tyX7_ok nmX7 rfl rfl rfl rfl dX7_fold_144 rfl rfl (Nat.le_of_ble_eq_true rfl) rfl ?_
                refine z_goto 210 C0 dX7_fold_147 (by decide) ?_
                refine z_iinc 213 C0 1 [1, 0, 2, 3] [(0, .ref y), (1, .int (nI (i + 1))), (2, .int (nI k)), (3, .int (nI k))] (v := (nI (i + 1))) dX7_fold_210 rfl rfl (z_incN _ _) (by decide) rfl ?_
                refine z_goto 7 C0 dX7_fold_213 (by decide) ?_
                refine z_loc [0, 1] [(0, .ref y), (1, .int (nI (i + 1)))] rfl ?_
                exact ih7 (i + 1) (tn + 1) (insA xk k tn (kf i)) (insA xv k tn (vf i)) (mset M (kf i) (vf i)) s st lo tx stp res wo (by omega) (by omega) (tbl_ins htb hpl hno) htx ((mgL_new hno).symm.trans hM2) (by omega)
              · skip
                refine z_aload_n 80 C0 0 dX7_fold_79 rfl rfl rfl ?_
                refine z_get 83 C0 0 11 wz_7 rfl (by decide) (zTs_in wk_459) dX7_fold_80 rfl rfl rfl ?_
                refine z_iload_n 84 C0 3 dX7_fold_83 rfl rfl rfl ?_
                refine z_aload_n 85 C0 0 dX7_fold_84 rfl rfl rfl ?_
                refine z_get 88 C0 0 11 wz_7 rfl (by decide) (zTs_in wk_459) dX7_fold_85 rfl rfl rfl ?_
                refine z_iload_n 89 C0 3 dX7_fold_88 rfl rfl rfl ?_
                refine z_iconst 90 C0 (v := (nI 1)) dX7_fold_89 rfl rfl ?_
                refine z_isub 91 C0 (v := (nI (k - 1))) dX7_fold_90 rfl (z_subN (by omega)) ?_
                refine z_ialdN 92 C0 10 (v := ((shA xk tn k) (k - 1))) dX7_fold_91 rfl rfl (by omega) (by decide) rfl ?_
                refine z_iastN 93 C0 10 [(y, zo 7 [.int (nI sz), .ref yrk, .ref yrv, .int (nI rn), .ref yop, .ref ynu, .ref yle, .ref yk, .ref yv, .ref ysp, .int (nI prs), .ref yxk, .ref yxv, .int (nI tn), .int err, .ref yto, .ref yst, .ref ylo, .int (nI stp), .int res, .int (nI wo)]), (yop, zg E 4 oo), (ra, zi E 64 op), (ynu, zg E 4 nu), (rb, zi E 64 nn), (yk, zi E 620 kf), (yv, zi E 620 vf), (ysp, zi E 620 (zn sp)), (yst, zi E 8 st), (ylo, zi E 4 lo), (yxk, zi E 600 (shA xk tn (k - 1))), (yxv, zi E 600 (shA xv tn k)), (yto, zi E 8 (zn tx))] dX7_fold_92 rfl rfl (by omega) (by decide) (by rw [shA_s (by omega) hk2]; rfl) ?_
                refine z_aload_n 94 C0 0 dX7_fold_93 rfl rfl rfl ?_
                refine z_get 97 C0 0 12 wz_7 rfl (by decide) (zTs_in wk_460) dX7_fold_94 rfl rfl rfl ?_
                refine z_iload_n 98 C0 3 dX7_fold_97 rfl rfl rfl ?_
                refine z_aload_n 99 C0 0 dX7_fold_98 rfl rfl rfl ?_
                refine z_get 102 C0 0 12 wz_7 rfl (by decide) (zTs_in wk_460) dX7_fold_99 rfl rfl rfl ?_
                refine z_iload_n 103 C0 3 dX7_fold_102 rfl rfl rfl ?_
                refine z_iconst 104 C0 (v := (nI 1)) dX7_fold_103 rfl rfl ?_
                refine z_isub 105 C0 (v := (nI (k - 1))) dX7_fold_104 rfl (z_subN (by omega)) ?_
                refine z_ialdN 106 C0 11 (v := ((shA xv tn k) (k - 1))) dX7_fold_105 rfl rfl (by omega) (by decide) rfl ?_
                refine z_iastN 107 C0 11 [(y, zo 7 [.int (nI sz), .ref yrk, .ref yrv, .int (nI rn), .ref yop, .ref ynu, .ref yle, .ref yk, .ref yv, .ref ysp, .int (nI prs), .ref yxk, .ref yxv, .int (nI tn), .int err, .ref yto, .ref yst, .ref ylo, .int (nI stp), .int res, .int (nI wo)]), (yop, zg E 4 oo), (ra, zi E 64 op), (ynu, zg E 4 nu), (rb, zi E 64 nn), (yk, zi E 620 kf), (yv, zi E 620 vf), (ysp, zi E 620 (zn sp)), (yst, zi E 8 st), (ylo, zi E 4 lo), (yxk, zi E 600 (shA xk tn (k - 1))), (yxv, zi E 600 (shA xv tn (k - 1))), (yto, zi E 8 (zn tx))] dX7_fold_106 rfl rfl (by omega) (by decide) (by rw [shA_s (by omega) hk2]; rfl) ?_
                refine z_iinc 110 C0 3 [1, 2, 3, 0] [(0, .ref y), (1, .int (nI i)), (2, .int (nI at_)), (3, .int (nI (k - 1)))] (v := (nI (k - 1))) dX7_fold_107 rfl rfl (z_decC (a := k) (c := 1) (b := (k - 1)) (by omega) (by omega)) (by decide) rfl ?_
                refine z_goto 74 C0 dX7_fold_110 (by decide) ?_
                exact ih74 (k - 1) (by omega) (by omega) (by omega)
          exact CUT74 (tn + 1) tn hpl.1 (Nat.le_refl _) (Nat.lt_succ_self _)
        have CUT46 : ∀ (at_ : Nat), (plc tn xk (kf i) at_) → Z E p_ l_ e_ ({ frames := 2, cells := 0, slots := 0, locals := 54 } : Room) s_ m_ args_ below_ meth_ c_ (MQ below_ (va_Qi (fun r_ w_ => ∃ n2 : Nat, ∃ xk2 : Nat → Int32, ∃ xv2 : Nat → Int32, ∃ st2 : Nat → Int32, ∃ lo2 : Nat → Int32, ∃ to2 : Nat → Nat, ∃ stp2 : Nat, ∃ res2 : Int32, ∃ wo2 : Nat, ∃ err2 : Int32, (r_ = (zb ((mgL (pF op nn) (tab kf vf 0 prs) (fun _ => none, 0)) ≠ none)) ∧ w_ = [(y, zo 7 [.int (nI sz), .ref yrk, .ref yrv, .int (nI rn), .ref yop, .ref ynu, .ref yle, .ref yk, .ref yv, .ref ysp, .int (nI prs), .ref yxk, .ref yxv, .int (nI n2), .int err2, .ref yto, .ref yst, .ref ylo, .int (nI stp2), .int res2, .int (nI wo2)]), (yop, zg E 4 oo), (ra, zi E 64 op), (ynu, zg E 4 nu), (rb, zi E 64 nn), (yk, zi E 620 kf), (yv, zi E 620 vf), (ysp, zi E 620 (zn sp)), (yst, zi E 8 st2), (ylo, zi E 4 lo2), (yxk, zi E 600 xk2), (yxv, zi E 600 xv2), (yto, zi E 8 (zn to2))]) ∧ (n2 ≤ prs) ∧ (∀ M s, (mgL (pF op nn) (tab kf vf 0 prs) (fun _ => none, 0)) = some (M, s) → tbl n2 xk2 xv2 M ∧ to2 = va_up (va_up to 6 (to 6 + s)) 3 n2 ∧ err2 = err) ∧ ((mgL (pF op nn) (tab kf vf 0 prs) (fun _ => none, 0)) = none → err2 = nI 2000)) (zPost E A_) A_) args_ s_ 0 0 A_) A_ 4 46 [(0, .ref y), (1, .int (nI i)), (2, .int (nI at_))] [] [(y, zo 7 [.int (nI sz), .ref yrk, .ref yrv, .int (nI rn), .ref yop, .ref ynu, .ref yle, .ref yk, .ref yv, .ref ysp, .int (nI prs), .ref yxk, .ref yxv, .int (nI tn), .int err, .ref yto, .ref yst, .ref ylo, .int (nI stp), .int res, .int (nI wo)]), (yop, zg E 4 oo), (ra, zi E 64 op), (ynu, zg E 4 nu), (rb, zi E 64 nn), (yk, zi E 620 kf), (yv, zi E 620 vf), (ysp, zi E 620 (zn sp)), (yst, zi E 8 st), (ylo, zi E 4 lo), (yxk, zi E 600 xk), (yxv, zi E 600 xv), (yto, zi E 8 (zn tx))] 0 0 := by
          intro at_ hpl
          have hatn := hpl.1
          refine z_iload_n 47 C0 2 dX7_fold_46 rfl rfl rfl ?_
          refine z_aload_n 48 C0 0 dX7_fold_47 rfl rfl rfl ?_
          refine z_get 51 C0 0 13 wz_7 rfl (by decide) (zTs_in wk_461) dX7_fold_48 rfl rfl rfl ?_
          refine z_icmp_eqN 54 69 C0 (by omega) (by omega) dX7_fold_51 rfl (by decide) (fun k51 => ?_) (fun k51 => ?_)
          · skip
            exact CUT69 at_ hpl (tbl_none htb hpl (fun q => by omega))
          · skip
            refine z_aload_n 55 C0 0 dX7_fold_54 rfl rfl rfl ?_
            refine z_get 58 C0 0 11 wz_7 rfl (by decide) (zTs_in wk_459) dX7_fold_55 rfl rfl rfl ?_
            refine z_iload_n 59 C0 2 dX7_fold_58 rfl rfl rfl ?_
            refine z_ialdN 60 C0 10 (v := (xk at_)) dX7_fold_59 rfl rfl (by omega) (by decide) rfl ?_
            refine z_aload_n 61 C0 0 dX7_fold_60 rfl rfl rfl ?_
            refine z_get 64 C0 0 7 wz_7 rfl (by decide) (zTs_in wk_455) dX7_fold_61 rfl rfl rfl ?_
            refine z_iload_n 65 C0 1 dX7_fold_64 rfl rfl rfl ?_
            refine z_ialdN 66 C0 5 (v := (kf i)) dX7_fold_65 rfl rfl (by omega) (by decide) rfl ?_
            refine z_icmp_eq 69 150 C0 dX7_fold_66 rfl (by decide) (fun k66 => ?_) (fun k66 => ?_)
            · skip
              have hlt : at_ < tn := by have := hpl.1; omega
              have heq : xk at_ = (kf i) := k66
              have hyes : M (kf i) = some (xv at_) := by rw [← heq]; exact htb.2.1 _ hlt
              refine z_aload_n 151 C0 0 dX7_fold_150 rfl rfl rfl ?_
              refine z_iconst 152 C0 (v := (nI 2)) dX7_fold_151 rfl rfl ?_
              refine z_aload_n 153 C0 0 dX7_fold_152 rfl rfl rfl ?_
              refine z_get 156 C0 0 7 wz_7 rfl (by decide) (zTs_in wk_455) dX7_fold_153 rfl rfl rfl ?_
              refine z_iload_n 157 C0 1 dX7_fold_156 rfl rfl rfl ?_
              refine z_ialdN 158 C0 5 (v := (kf i)) dX7_fold_157 rfl rfl (by omega) (by decide) rfl ?_
              refine z_aload_n 159 C0 0 dX7_fold_158 rfl rfl rfl ?_
              refine z_get 162 C0 0 12 wz_7 rfl (by decide) (zTs_in wk_460) dX7_fold_159 rfl rfl rfl ?_
              refine z_iload_n 163 C0 2 dX7_fold_162 rfl rfl rfl ?_
              refine z_ialdN 164 C0 11 (v := (xv at_)) dX7_fold_163 rfl rfl (by omega) (by decide) rfl ?_
              refine z_aload_n 165 C0 0 dX7_fold_164 rfl rfl rfl ?_
              refine z_get 168 C0 0 8 wz_7 rfl (by decide) (zTs_in wk_456) dX7_fold_165 rfl rfl rfl ?_
              refine z_iload_n 169 C0 1 dX7_fold_168 rfl rfl rfl ?_
              refine z_ialdN 170 C0 6 (v := (vf i)) dX7_fold_169 rfl rfl (by omega) (by decide) rfl ?_
              refine z_iconst 171 C0 (v := (nI 0)) dX7_fold_170 rfl rfl ?_
              refine z_callVi 174 C0 [0, 1, 2, 3, 4, 5, 6, 7, 8, 9] [10, 11, 12] [(yxk, zi E 600 xk), (yxv, zi E 600 xv), (yto, zi E 8 (zn tx))] 0 0 (As := [.int (nI 2), .int (kf i), .int (xv at_), .int (vf i), .int (nI 0)]) (T := TX7) (N := 21) (C := RX7) (ci := 7) (n := 5) 0 (call7 l_ E y sz yrk yrv rn yop ynu yle yk yv ysp prs yxk yxv tn err yto yst ylo stp res wo 2 oo nu ra rb op nn kf vf sp st lo len (kf i) (xv at_) (vf i) 0 (by decide) (hoo) (hnu) (hG) (hlen) (by omega)) (zGIV (fun _ => zTs_in) wk_571 wk_568 wk_570 wk_7 wk_20) rfl ⟨rfl, by decide, by decide, by decide +kernel⟩ rfl rfl rfl rfl (by decide) rfl rfl (Nat.le_of_ble_eq_true rfl) ⟨by decide, by decide⟩ rfl rfl ⟨by decide, by decide⟩ ⟨by decide, by decide⟩ dX7_fold_171 rfl (fun r171 w171 hB171 => ?_)
              obtain ⟨stp2_171, res2_171, wo2_171, st2_171, lo2_171, ⟨rfl, rfl⟩, fs_171, fa_171⟩ := hB171
              refine z_perm [3, 4, 5, 6, 7, 8, 9, 10, 11, 12, 0, 1, 2] [(y, zo 7 [.int (nI sz), .ref yrk, .ref yrv, .int (nI rn), .ref yop, .ref ynu, .ref yle, .ref yk, .ref yv, .ref ysp, .int (nI (prs + (callR op nn (kf i) (xv at_) (vf i)).2.2.2.length)), .ref yxk, .ref yxv, .int (nI tn), .int err, .ref yto, .ref yst, .ref ylo, .int (nI stp2_171), .int res2_171, .int (nI wo2_171)]), (yop, zg E 4 oo), (ra, zi E 64 op), (ynu, zg E 4 nu), (rb, zi E 64 nn), (yk, zi E 620 (rwK 620 prs kf (callR op nn (kf i) (xv at_) (vf i)).2.2.2)), (yv, zi E 620 (rwV 620 prs vf (callR op nn (kf i) (xv at_) (vf i)).2.2.2)), (ysp, zi E 620 (zn (rwS 620 prs sp 0 (callR op nn (kf i) (xv at_) (vf i)).2.2.2))), (yst, zi E 8 st2_171), (ylo, zi E 4 lo2_171), (yxk, zi E 600 xk), (yxv, zi E 600 xv), (yto, zi E 8 (zn tx))] (by decide) rfl ?_
              have hP0 : (callR op nn (kf i) (xv at_) (vf i)).2.2.2 = [] := callR_nil hG hlen (by decide) _ _ _
              refine z_eq (L1 := [(0, .ref y), (1, .int (nI i)), (2, .int (nI at_))]) (st1 := [.int (zb ((callR op nn (kf i) (xv at_) (vf i)).1 ≠ 0))]) (w1 := [(y, zo 7 [.int (nI sz), .ref yrk, .ref yrv, .int (nI rn), .ref yop, .ref ynu, .ref yle, .ref yk, .ref yv, .ref ysp, .int (nI prs), .ref yxk, .ref yxv, .int (nI tn), .int err, .ref yto, .ref yst, .ref ylo, .int (nI stp2_171), .int res2_171, .int (nI wo2_171)]), (yop, zg E 4 oo), (ra, zi E 64 op), (ynu, zg E 4 nu), (rb, zi E 64 nn), (yk, zi E 620 kf), (yv, zi E 620 vf), (ysp, zi E 620 (zn sp)), (yst, zi E 8 st2_171), (ylo, zi E 4 lo2_171), (yxk, zi E 600 xk), (yxv, zi E 600 xv), (yto, zi E 8 (zn tx))]) rfl rfl (by rw [hP0, rwK_0, rwV_0, rwS_0]; rfl) ?_
              refine z_if_neP 177 186 C0 dX7_fold_174 rfl (by decide) (fun k174 => ?_) (fun k174 => ?_)
              · skip
                have hst := (fs_171 k174).1
                have hone : (callR op nn (kf i) (xv at_) (vf i)).1 = 1 := callR_one hG hlen (by decide) _ _ _ k174
                have hres := fa_171 hone (by decide)
                refine z_aload_n 187 C0 0 dX7_fold_186 rfl rfl rfl ?_
                refine z_get 190 C0 0 15 wz_7 rfl (by decide) (zTs_in wk_463) dX7_fold_187 rfl rfl rfl ?_
                refine z_bipush 192 C0 (v := (nI 6)) dX7_fold_190 rfl rfl ?_
                refine z_dup2 193 C0 dX7_fold_192 rfl rfl rfl ?_
                refine z_ialdN 194 C0 12 (v := (nI (tx 6))) dX7_fold_193 rfl rfl (by omega) (by decide) rfl ?_
                refine z_aload_n 195 C0 0 dX7_fold_194 rfl rfl rfl ?_
                refine z_get 198 C0 0 18 wz_7 rfl (by decide) (zTs_in wk_466) dX7_fold_195 rfl rfl rfl ?_
                refine z_iadd 199 C0 (v := (nI ((tx 6) + stp2_171))) dX7_fold_198 rfl (nI_add _ _) ?_
                refine z_iastN 200 C0 12 [(y, zo 7 [.int (nI sz), .ref yrk, .ref yrv, .int (nI rn), .ref yop, .ref ynu, .ref yle, .ref yk, .ref yv, .ref ysp, .int (nI prs), .ref yxk, .ref yxv, .int (nI tn), .int err, .ref yto, .ref yst, .ref ylo, .int (nI stp2_171), .int res2_171, .int (nI wo2_171)]), (yop, zg E 4 oo), (ra, zi E 64 op), (ynu, zg E 4 nu), (rb, zi E 64 nn), (yk, zi E 620 kf), (yv, zi E 620 vf), (ysp, zi E 620 (zn sp)), (yst, zi E 8 st2_171), (ylo, zi E 4 lo2_171), (yxk, zi E 600 xk), (yxv, zi E 600 xv), (yto, zi E 8 (zn (va_up tx 6 ((tx 6) + stp2_171))))] dX7_fold_199 rfl rfl (by omega) (by decide) (by rw [z_upN]; rfl) ?_
                have hcall := k174
                refine z_aload_n 201 C0 0 dX7_fold_200 rfl rfl rfl ?_
                refine z_get 204 C0 0 12 wz_7 rfl (by decide) (zTs_in wk_460) dX7_fold_201 rfl rfl rfl ?_
                refine z_iload_n 205 C0 2 dX7_fold_204 rfl rfl rfl ?_
                refine z_aload_n 206 C0 0 dX7_fold_205 rfl rfl rfl ?_
                refine z_get 209 C0 0 19 wz_7 rfl (by decide) (zTs_in wk_467) dX7_fold_206 rfl rfl rfl ?_
                refine z_iastN 210 C0 11 [(y, zo 7 [.int (nI sz), .ref yrk, .ref yrv, .int (nI rn), .ref yop, .ref ynu, .ref yle, .ref yk, .ref yv, .ref ysp, .int (nI prs), .ref yxk, .ref yxv, .int (nI tn), .int err, .ref yto, .ref yst, .ref ylo, .int (nI stp2_171), .int res2_171, .int (nI wo2_171)]), (yop, zg E 4 oo), (ra, zi E 64 op), (ynu, zg E 4 nu), (rb, zi E 64 nn), (yk, zi E 620 kf), (yv, zi E 620 vf), (ysp, zi E 620 (zn sp)), (yst, zi E 8 st2_171), (ylo, zi E 4 lo2_171), (yxk, zi E 600 xk), (yxv, zi E 600 (upd xv at_ res2_171)), (yto, zi E 8 (zn (va_up tx 6 ((tx 6) + stp2_171))))] dX7_fold_209 rfl rfl (by omega) (by decide) rfl ?_
                refine z_iinc 213 C0 1 [1, 0, 2] [(0, .ref y), (1, .int (nI (i + 1))), (2, .int (nI at_))] (v := (nI (i + 1))) dX7_fold_210 rfl rfl (z_incN _ _) (by decide) rfl ?_
                refine z_goto 7 C0 dX7_fold_213 (by decide) ?_
                refine z_loc [0, 1] [(0, .ref y), (1, .int (nI (i + 1)))] rfl ?_
                exact ih7 (i + 1) tn xk (upd xv at_ res2_171) (mset M (kf i) (callR op nn (kf i) (xv at_) (vf i)).2.1) (s + (callR op nn (kf i) (xv at_) (vf i)).2.2.1) st2_171 lo2_171 (va_up tx 6 ((tx 6) + stp2_171)) stp2_171 res2_171 wo2_171 (by omega) (by omega) (by have := tbl_upd (r := res2_171) htb hlt; rw [heq] at this; rw [hres] at this ⊢; exact this) (by rw [htx, hst]; exact z_up_add _ _ _ _) ((mgL_old hyes (pF_1 k174)).symm.trans hM2) (by omega)
              · skip
                refine z_aload_n 178 C0 0 dX7_fold_177 rfl rfl rfl ?_
                refine z_sipush 181 C0 (v := (nI 2000)) dX7_fold_178 rfl rfl ?_
                refine z_put 184 C0 0 14 [(y, zo 7 [.int (nI sz), .ref yrk, .ref yrv, .int (nI rn), .ref yop, .ref ynu, .ref yle, .ref yk, .ref yv, .ref ysp, .int (nI prs), .ref yxk, .ref yxv, .int (nI tn), .int (nI 2000), .ref yto, .ref yst, .ref ylo, .int (nI stp2_171), .int res2_171, .int (nI wo2_171)]), (yop, zg E 4 oo), (ra, zi E 64 op), (ynu, zg E 4 nu), (rb, zi E 64 nn), (yk, zi E 620 kf), (yv, zi E 620 vf), (ysp, zi E 620 (zn sp)), (yst, zi E 8 st2_171), (ylo, zi E 4 lo2_171), (yxk, zi E 600 xk), (yxv, zi E 600 xv), (yto, zi E 8 (zn tx))] wz_7 rfl (by decide) (zTs_in wk_462) tyX7 tyX7_ok nmX7 rfl rfl rfl rfl dX7_fold_181 rfl rfl (Nat.le_of_ble_eq_true rfl) rfl ?_
                refine z_iconst 185 C0 (v := (nI 0)) dX7_fold_184 rfl rfl ?_
                have hnone : (mgL (pF op nn) (tab kf vf 0 prs) (fun _ => none, 0)) = none := hM2.symm.trans (mgL_fail hyes (pF_0 (Classical.byContradiction fun q => k174 q)))
                exact z_zret C0 rfl rfl dX7_fold_185 ⟨tn, xk, xv, st2_171, lo2_171, tx, stp2_171, res2_171, wo2_171, (nI 2000), ⟨(zb_fN (fun q => q hnone)), rfl⟩, (by omega), (fun M s q => by rw [hnone] at q; cases q), (fun _ => rfl)⟩ (by decide) (by decide)
            · skip
              exact CUT69 at_ hpl (tbl_none htb hpl (fun q => k66 q.2))
        refine z_iconst 16 C0 (v := (nI 0)) dX7_fold_15 rfl rfl ?_
        refine z_istore_n 17 C0 [1, 2, 0] [(0, .ref y), (1, .int (nI i)), (2, .int (nI 0))] dX7_fold_16 rfl rfl (by decide) rfl ?_
        have CUT17 : ∀ (N17 : Nat) (at_ : Nat), (at_ ≤ tn) → (∀ j, j < at_ → xk j < (kf i)) → tn - at_ < N17 → Z E p_ l_ e_ ({ frames := 2, cells := 0, slots := 0, locals := 54 } : Room) s_ m_ args_ below_ meth_ c_ (MQ below_ (va_Qi (fun r_ w_ => ∃ n2 : Nat, ∃ xk2 : Nat → Int32, ∃ xv2 : Nat → Int32, ∃ st2 : Nat → Int32, ∃ lo2 : Nat → Int32, ∃ to2 : Nat → Nat, ∃ stp2 : Nat, ∃ res2 : Int32, ∃ wo2 : Nat, ∃ err2 : Int32, (r_ = (zb ((mgL (pF op nn) (tab kf vf 0 prs) (fun _ => none, 0)) ≠ none)) ∧ w_ = [(y, zo 7 [.int (nI sz), .ref yrk, .ref yrv, .int (nI rn), .ref yop, .ref ynu, .ref yle, .ref yk, .ref yv, .ref ysp, .int (nI prs), .ref yxk, .ref yxv, .int (nI n2), .int err2, .ref yto, .ref yst, .ref ylo, .int (nI stp2), .int res2, .int (nI wo2)]), (yop, zg E 4 oo), (ra, zi E 64 op), (ynu, zg E 4 nu), (rb, zi E 64 nn), (yk, zi E 620 kf), (yv, zi E 620 vf), (ysp, zi E 620 (zn sp)), (yst, zi E 8 st2), (ylo, zi E 4 lo2), (yxk, zi E 600 xk2), (yxv, zi E 600 xv2), (yto, zi E 8 (zn to2))]) ∧ (n2 ≤ prs) ∧ (∀ M s, (mgL (pF op nn) (tab kf vf 0 prs) (fun _ => none, 0)) = some (M, s) → tbl n2 xk2 xv2 M ∧ to2 = va_up (va_up to 6 (to 6 + s)) 3 n2 ∧ err2 = err) ∧ ((mgL (pF op nn) (tab kf vf 0 prs) (fun _ => none, 0)) = none → err2 = nI 2000)) (zPost E A_) A_) args_ s_ 0 0 A_) A_ 4 17 [(0, .ref y), (1, .int (nI i)), (2, .int (nI at_))] [] [(y, zo 7 [.int (nI sz), .ref yrk, .ref yrv, .int (nI rn), .ref yop, .ref ynu, .ref yle, .ref yk, .ref yv, .ref ysp, .int (nI prs), .ref yxk, .ref yxv, .int (nI tn), .int err, .ref yto, .ref yst, .ref ylo, .int (nI stp), .int res, .int (nI wo)]), (yop, zg E 4 oo), (ra, zi E 64 op), (ynu, zg E 4 nu), (rb, zi E 64 nn), (yk, zi E 620 kf), (yv, zi E 620 vf), (ysp, zi E 620 (zn sp)), (yst, zi E 8 st), (ylo, zi E 4 lo), (yxk, zi E 600 xk), (yxv, zi E 600 xv), (yto, zi E 8 (zn tx))] 0 0 := by
          intro N17
          induction N17 with
          | zero => intro at_ hat hlo hm17; exact absurd hm17 (Nat.not_lt_zero _)
          | succ N17 ih17 =>
            intro at_ hat hlo hm17
            refine z_iload_n 18 C0 2 dX7_fold_17 rfl rfl rfl ?_
            refine z_aload_n 19 C0 0 dX7_fold_18 rfl rfl rfl ?_
            refine z_get 22 C0 0 13 wz_7 rfl (by decide) (zTs_in wk_461) dX7_fold_19 rfl rfl rfl ?_
            refine z_icmp_geN 25 46 C0 (by omega) (by omega) dX7_fold_22 rfl (by decide) (fun k22 => ?_) (fun k22 => ?_)
            · skip
              exact CUT46 at_ (⟨hat, hlo, fun j h1 h2 => by omega⟩)
            · skip
              refine z_aload_n 26 C0 0 dX7_fold_25 rfl rfl rfl ?_
              refine z_get 29 C0 0 11 wz_7 rfl (by decide) (zTs_in wk_459) dX7_fold_26 rfl rfl rfl ?_
              refine z_iload_n 30 C0 2 dX7_fold_29 rfl rfl rfl ?_
              refine z_ialdN 31 C0 10 (v := (xk at_)) dX7_fold_30 rfl rfl (by omega) (by decide) rfl ?_
              refine z_aload_n 32 C0 0 dX7_fold_31 rfl rfl rfl ?_
              refine z_get 35 C0 0 7 wz_7 rfl (by decide) (zTs_in wk_455) dX7_fold_32 rfl rfl rfl ?_
              refine z_iload_n 36 C0 1 dX7_fold_35 rfl rfl rfl ?_
              refine z_ialdN 37 C0 5 (v := (kf i)) dX7_fold_36 rfl rfl (by omega) (by decide) rfl ?_
              refine z_icmp_ge 40 46 C0 dX7_fold_37 rfl (by decide) (fun k37 => ?_) (fun k37 => ?_)
              · skip
                exact CUT46 at_ (⟨hat, hlo, fun j h1 h2 => by rcases Nat.lt_or_ge at_ j with q | q; exact fun z => i32_nlt_of_le k37 (i32_lt_trans (htb.1 at_ j q h2) z); rw [show j = at_ by omega]; exact i32_nlt_of_le k37⟩)
              · skip
                refine z_iinc 43 C0 2 [1, 2, 0] [(0, .ref y), (1, .int (nI i)), (2, .int (nI (at_ + 1)))] (v := (nI (at_ + 1))) dX7_fold_40 rfl rfl (z_incN _ _) (by decide) rfl ?_
                refine z_goto 17 C0 dX7_fold_43 (by decide) ?_
                exact ih17 (at_ + 1) (by omega) (fun j hj => by rcases Nat.lt_or_ge j at_ with q | q; exact hlo j q; rw [show j = at_ by omega]; exact i32_lt_of_nle k37) (by omega)
        exact CUT17 (tn - 0 + 1) 0 (Nat.zero_le _) (fun j hj => absurd hj (Nat.not_lt_zero j)) (Nat.lt_succ_self _)
  exact CUT7 (prs - 0 + 1) 0 0 xk xv (fun _ => none) 0 st lo to stp res wo (Nat.zero_le _) (Nat.le_refl _) (tbl_0 _ _) (z_up_self _ _).symm rfl (Nat.lt_succ_self _)
