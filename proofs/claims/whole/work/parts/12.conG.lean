theorem tab_snoc {f g : Nat → Int32} {i c : Nat} : tab f g i (c + 1) = tab f g i c ++ [(f (i + c), g (i + c))] := by
  unfold tab
  rw [List.range'_concat, List.map_append, List.map_singleton, Nat.one_mul]
theorem tab_len {f g : Nat → Int32} {i c : Nat} : (tab f g i c).length = c := by unfold tab; rw [List.length_map, List.length_range']
/-- where a split's pairs begin -/
def sst (se : Nat → Nat) : Nat → Nat
  | 0 => 0
  | s + 1 => se s
theorem sst_le {se : Nat → Nat} : ∀ {s : Nat}, (∀ x, x < s → se x ≤ 600) → sst se s ≤ 600
  | 0, _ => Nat.zero_le _
  | s + 1, h => h s (Nat.lt_succ_self s)
def sok (F : Int32 → Int32 → Int32 → Option (Int32 × Nat)) (f g : Nat → Int32) (se : Nat → Nat) (s : Nat) : Prop := mgL F (tab f g (sst se s) (se s - sst se s)) (fun _ => none, 0) ≠ none
/-- a map's rows, by rising keys -/
def tblL (M : mapT) (L : List (Int32 × Int32)) : Prop := ∃ n kf vf, tbl n kf vf M ∧ L = tab kf vf 0 n
/-- what is joined out of the first splits, and the steps -/
def jnR (F : Int32 → Int32 → Int32 → Option (Int32 × Nat)) (f g : Nat → Int32) (se : Nat → Nat) : Nat → List (Int32 × Int32) → Nat → Prop
  | 0, J, t => J = [] ∧ t = 0
  | s + 1, J, t => ∃ J0 t0 M t1 L, jnR F f g se s J0 t0 ∧ mgL F (tab f g (sst se s) (se s - sst se s)) (fun _ => none, 0) = some (M, t1) ∧ tblL M L ∧ J = J0 ++ L ∧ t = t0 + t1
def joinR (F : Int32 → Int32 → Int32 → Option (Int32 × Nat)) (f g : Nat → Int32) (se : Nat → Nat) (spl : Nat) (r : Int32) : Prop :=
  (∃ s, s < spl ∧ ¬ sok F f g se s ∧ (∀ x, x < s → sok F f g se x) ∧ r = nI (1000 + s)) ∨ ((∀ x, x < spl → sok F f g se x) ∧ r = -1)
def fldR (o : Option (mapT × Nat)) : Int32 := match o with
  | none => nI 2000
  | some _ => -1
/-- the calls of END, by place -/
def enC (op nn kf vf : Nat → Int32) (i : Nat) : aT := callR op nn (kf i) (vf i) (nI 0)
def enK (op nn kf vf : Nat → Int32) : Nat → List (Int32 × Int32)
  | 0 => []
  | i + 1 => enK op nn kf vf i ++ (if (enC op nn kf vf i).1 = 1 then [(kf i, (enC op nn kf vf i).2.1)] else [])
def enS (op nn kf vf : Nat → Int32) : Nat → Nat
  | 0 => 0
  | i + 1 => enS op nn kf vf i + (enC op nn kf vf i).2.2.1
def endR (op nn kf vf : Nat → Int32) (n : Nat) (r : Int32) : Prop := (∃ i, i < n ∧ (enC op nn kf vf i).1 = 0 ∧ r = nI 3000) ∨ ((∀ x, x < n → (enC op nn kf vf x).1 ≠ 0) ∧ r = -1)
theorem enK_take {op nn kf vf : Nat → Int32} {i : Nat} (h : (enC op nn kf vf i).1 = 1) : enK op nn kf vf (i + 1) = enK op nn kf vf i ++ [(kf i, (enC op nn kf vf i).2.1)] := by
  show enK op nn kf vf i ++ (if (enC op nn kf vf i).1 = 1 then _ else _) = _
  rw [if_pos h]
theorem enK_skip {op nn kf vf : Nat → Int32} {i : Nat} (h : (enC op nn kf vf i).1 ≠ 1) : enK op nn kf vf (i + 1) = enK op nn kf vf i := by
  show enK op nn kf vf i ++ (if (enC op nn kf vf i).1 = 1 then _ else _) = _
  rw [if_neg h, List.append_nil]
theorem enK_len (op nn kf vf : Nat → Int32) (i : Nat) : (enK op nn kf vf i).length ≤ i := by
  induction i with
  | zero => exact Nat.le_refl 0
  | succ i ih =>
    by_cases h : (enC op nn kf vf i).1 = 1
    · rw [enK_take h, List.length_append, List.length_singleton]; omega
    · rw [enK_skip h]; omega
theorem en_upd {f : Nat → Int32} {k j : Nat} {x : Int32} (h : k ≠ j) : upd f k x j = f j := if_neg (fun q => h q.symm)
theorem en_put {op nn kf vf kx vx : Nat → Int32} {i : Nat} {a : Int32} (_ : (enK op nn kf vf i).length < 600) (hA : ∀ j, j < (enK op nn kf vf i).length → (kx j, vx j) = (enK op nn kf vf i).getD j (0, 0)) (hk : kx i = kf i) (h1 : (enC op nn kf vf i).1 = 1) (ha : a = (enC op nn kf vf i).2.1) :
    ∀ j, j < (enK op nn kf vf (i + 1)).length → (upd kx (enK op nn kf vf i).length (kx i) j, upd vx (enK op nn kf vf i).length a j) = (enK op nn kf vf (i + 1)).getD j (0, 0) := by
  intro j hj
  rw [enK_take h1, List.length_append, List.length_singleton] at hj
  rw [enK_take h1, getD_snoc hj]
  by_cases e : j < (enK op nn kf vf i).length
  · rw [if_pos e, en_upd (by omega), en_upd (by omega)]
    exact hA j e
  · obtain rfl : j = (enK op nn kf vf i).length := by omega
    rw [if_neg e]
    show (if _ = _ then kx i else _, if _ = _ then a else _) = _
    rw [if_pos rfl, if_pos rfl, hk, ha]
set_option maxHeartbeats 4000000 in
set_option maxRecDepth 100000 in
theorem appendAll (l_ : Launch) (E : zE) (r : Nat) (rk : Nat) (rv : Nat) (f : Nat → Int32) (g : Nat → Int32) (n : Nat) (t : Nat) (tk : Nat) (tv : Nat) (kf : Nat → Int32) (vf : Nat → Int32) (tn : Nat) (hn : n + tn ≤ 600) : zMv l_ E yX4_appendAll (zTs yX4_appendAll cX4_appendAll 3 none) ({ frames := 1, cells := 0, slots := 0, locals := 22 } : Room) [.ref r, .ref t] [(r, zo 4 [.ref rk, .ref rv, .int (nI n)]), (rk, zi E 600 f), (rv, zi E 600 g), (t, zo 2 [.ref tk, .ref tv, .int (nI tn)]), (tk, zi E 600 kf), (tv, zi E 600 vf)] (fun w_ => (w_ = [(r, zo 4 [.ref rk, .ref rv, .int (nI (rwN 600 n (tab kf vf 0 tn)))]), (rk, zi E 600 (rwK 600 n f (tab kf vf 0 tn))), (rv, zi E 600 (rwV 600 n g (tab kf vf 0 tn))), (t, zo 2 [.ref tk, .ref tv, .int (nI tn)]), (tk, zi E 600 kf), (tv, zi E 600 vf)])) 0 0 := by
  refine zMv.of (cc := cX4_appendAll) (nL := 3) (ret := none) (by decide) rfl (Nat.le_of_ble_eq_true rfl) ?_
  intro p_ e_ s_ m_ args_ below_ meth_ c_ A_ C0 hin0
  have C0 : zC E p_ s_ m_ args_ meth_ c_ cX4_appendAll 3 none RX4 (zTs yX4_appendAll cX4_appendAll 3 none) A_ := C0
  refine z_eqL (L1 := [(0, .ref r), (1, .ref t)]) rfl ?_
  refine z_iconst 1 C0 (v := (nI 0)) dX4_appendAll_0 rfl rfl ?_
  refine z_eq (L1 := [(0, .ref r), (1, .ref t)]) (st1 := [.int (nI 0)]) (w1 := [(r, zo 4 [.ref rk, .ref rv, .int (nI (rwN 600 n (tab kf vf 0 0)))]), (rk, zi E 600 (rwK 600 n f (tab kf vf 0 0))), (rv, zi E 600 (rwV 600 n g (tab kf vf 0 0))), (t, zo 2 [.ref tk, .ref tv, .int (nI tn)]), (tk, zi E 600 kf), (tv, zi E 600 vf)]) rfl rfl (by rw [tab_0, rwK_0, rwV_0, rwN_0 (by omega)]) ?_
  refine z_istore_n 2 C0 [1, 2, 0] [(0, .ref r), (1, .ref t), (2, .int (nI 0))] dX4_appendAll_1 rfl rfl (by decide) rfl ?_
  have CUT2 : ∀ (N2 : Nat) (i : Nat), (i ≤ tn) → tn - i < N2 → Z E p_ l_ e_ ({ frames := 1, cells := 0, slots := 0, locals := 22 } : Room) s_ m_ args_ below_ meth_ c_ (MQ below_ (va_Qv (fun w_ => (w_ = [(r, zo 4 [.ref rk, .ref rv, .int (nI (rwN 600 n (tab kf vf 0 tn)))]), (rk, zi E 600 (rwK 600 n f (tab kf vf 0 tn))), (rv, zi E 600 (rwV 600 n g (tab kf vf 0 tn))), (t, zo 2 [.ref tk, .ref tv, .int (nI tn)]), (tk, zi E 600 kf), (tv, zi E 600 vf)])) (zPost E A_) A_) args_ s_ 0 0 A_) A_ 3 2 [(0, .ref r), (1, .ref t), (2, .int (nI i))] [] [(r, zo 4 [.ref rk, .ref rv, .int (nI (rwN 600 n (tab kf vf 0 i)))]), (rk, zi E 600 (rwK 600 n f (tab kf vf 0 i))), (rv, zi E 600 (rwV 600 n g (tab kf vf 0 i))), (t, zo 2 [.ref tk, .ref tv, .int (nI tn)]), (tk, zi E 600 kf), (tv, zi E 600 vf)] 0 0 := by
    intro N2
    induction N2 with
    | zero => intro i hi hm2; exact absurd hm2 (Nat.not_lt_zero _)
    | succ N2 ih2 =>
      intro i hi hm2
      refine z_iload_n 3 C0 2 dX4_appendAll_2 rfl rfl rfl ?_
      refine z_aload_n 4 C0 1 dX4_appendAll_3 rfl rfl rfl ?_
      refine z_get 7 C0 3 2 wz_2 rfl (by decide) (zTs_in wk_164) dX4_appendAll_4 rfl rfl rfl ?_
      refine z_icmp_geN 10 33 C0 (by omega) (by omega) dX4_appendAll_7 rfl (by decide) (fun k7 => ?_) (fun k7 => ?_)
      · skip
        obtain rfl : i = tn := by omega
        exact z_vret C0 rfl dX4_appendAll_33 rfl (by decide) (by decide)
      · skip
        refine z_aload_n 11 C0 0 dX4_appendAll_10 rfl rfl rfl ?_
        refine z_aload_n 12 C0 1 dX4_appendAll_11 rfl rfl rfl ?_
        refine z_get 15 C0 3 0 wz_2 rfl (by decide) (zTs_in wk_155) dX4_appendAll_12 rfl rfl rfl ?_
        refine z_iload_n 16 C0 2 dX4_appendAll_15 rfl rfl rfl ?_
        refine z_ialdN 17 C0 4 (v := (kf i)) dX4_appendAll_16 rfl rfl (by omega) (by decide) rfl ?_
        refine z_aload_n 18 C0 1 dX4_appendAll_17 rfl rfl rfl ?_
        refine z_get 21 C0 3 1 wz_2 rfl (by decide) (zTs_in wk_159) dX4_appendAll_18 rfl rfl rfl ?_
        refine z_iload_n 22 C0 2 dX4_appendAll_21 rfl rfl rfl ?_
        refine z_ialdN 23 C0 5 (v := (vf i)) dX4_appendAll_22 rfl rfl (by omega) (by decide) rfl ?_
        refine z_callVi 26 C0 [0, 1, 2] [3, 4, 5] [(t, zo 2 [.ref tk, .ref tv, .int (nI tn)]), (tk, zi E 600 kf), (tv, zi E 600 vf)] 0 0 (As := [.int (kf i), .int (vf i)]) (T := TX4) (N := 3) (C := RX4) (ci := 4) (n := 2) 0 (rappend l_ E r rk rv (rwK 600 n f (tab kf vf 0 i)) (rwV 600 n g (tab kf vf 0 i)) (rwN 600 n (tab kf vf 0 i)) 600 (kf i) (vf i) (rwN_le (by omega)) (Nat.le_refl _)) (zGIV (fun _ => zTs_in) wk_219 wk_412 wk_217 wk_218 wk_14) rfl ⟨rfl, by decide, by decide, by decide +kernel⟩ rfl rfl rfl rfl (by decide) rfl rfl (Nat.le_of_ble_eq_true rfl) ⟨by decide, by decide⟩ rfl rfl ⟨by decide, by decide⟩ ⟨by decide, by decide⟩ dX4_appendAll_23 rfl (fun r23 w23 hB23 => ?_)
        obtain ⟨rfl, rfl⟩ := hB23
        refine z_perm [3, 4, 5, 0, 1, 2] [(r, zo 4 [.ref rk, .ref rv, .int (nI (capN 600 (rwN 600 n (tab kf vf 0 i))))]), (rk, zi E 600 (capU 600 (rwN 600 n (tab kf vf 0 i)) (rwK 600 n f (tab kf vf 0 i)) (kf i))), (rv, zi E 600 (capU 600 (rwN 600 n (tab kf vf 0 i)) (rwV 600 n g (tab kf vf 0 i)) (vf i))), (t, zo 2 [.ref tk, .ref tv, .int (nI tn)]), (tk, zi E 600 kf), (tv, zi E 600 vf)] (by decide) rfl ?_
        refine z_eq (L1 := [(0, .ref r), (1, .ref t), (2, .int (nI i))]) (st1 := [.int (zb ((rwN 600 n (tab kf vf 0 i)) < 600))]) (w1 := [(r, zo 4 [.ref rk, .ref rv, .int (nI (rwN 600 n (tab kf vf 0 (i + 1))))]), (rk, zi E 600 (rwK 600 n f (tab kf vf 0 (i + 1)))), (rv, zi E 600 (rwV 600 n g (tab kf vf 0 (i + 1)))), (t, zo 2 [.ref tk, .ref tv, .int (nI tn)]), (tk, zi E 600 kf), (tv, zi E 600 vf)]) rfl rfl (by rw [tab_snoc, Nat.zero_add, rwK_s (by omega), rwV_s (by omega), rwN_s (by omega)]) ?_
        refine z_pop 27 C0 dX4_appendAll_26 rfl rfl ?_
        refine z_iinc 30 C0 2 [1, 2, 0] [(0, .ref r), (1, .ref t), (2, .int (nI (i + 1)))] (v := (nI (i + 1))) dX4_appendAll_27 rfl rfl (z_incN _ _) (by decide) rfl ?_
        refine z_goto 2 C0 dX4_appendAll_30 (by decide) ?_
        exact ih2 (i + 1) (by omega) (by omega)
  exact CUT2 (tn - 0 + 1) 0 (by omega) (Nat.lt_succ_self _)

set_option maxHeartbeats 4000000 in
set_option maxRecDepth 100000 in
theorem joinSplits (l_ : Launch) (E : zE) (jb : Nat) (jse : Nat) (jst : Nat) (jjo : Nat) (jre : Nat) (jco : Nat) (m : Nat) (ma : Nat) (ml : Nat) (ms : Nat) (mp : Nat) (mt : Nat) (h : Nat) (an : Int32) (em : Nat) (ar : Nat → Int32) (lo : Nat → Int32) (st : Nat → Int32) (mpk : Nat) (mpv : Nat) (f : Nat → Int32) (g : Nat → Int32) (n : Nat) (stp : Nat → Nat) (p : Nat) (po : Nat) (pn : Nat) (op : Nat → Int32) (nn : Nat → Int32) (len : Nat) (tk : Nat) (tv : Nat) (kf : Nat → Int32) (vf : Nat → Int32) (tn : Nat) (jok : Nat) (jov : Nat) (jf : Nat → Int32) (jg : Nat → Int32) (se : Nat → Nat) (spl : Nat) (hG : Good 1 op nn len) (hlen : len ≤ 64) (hn : n ≤ 600) (hspl : spl ≤ 120) (hse : ∀ s, s < spl → sst se s ≤ se s ∧ se s ≤ 600) : zMi l_ E yX1_joinSplits (zTs yX1_joinSplits cX1_joinSplits 5 (some .int)) ({ frames := 5, cells := 0, slots := 0, locals := 126 } : Room) [.ref jb, .ref p, .int (nI spl)] [(jb, zo 1 [.ref m, .ref jse, .ref jst, .ref jjo, .ref jre, .ref jco]), (m, zo 3 [.ref ma, .ref ml, .ref ms, .int (nI h), .int an, .ref mp, .int (nI em), .ref mt]), (ma, zi E 3 ar), (ml, zi E 4 lo), (ms, zi E 8 st), (mp, zo 4 [.ref mpk, .ref mpv, .int (nI n)]), (mpk, zi E 600 f), (mpv, zi E 600 g), (mt, zi E 4 (zn stp)), (p, zo 5 [.int (nI 1), .ref po, .ref pn, .int (nI len)]), (po, zi E 64 op), (pn, zi E 64 nn), (jst, zo 2 [.ref tk, .ref tv, .int (nI tn)]), (tk, zi E 600 kf), (tv, zi E 600 vf), (jjo, zo 4 [.ref jok, .ref jov, .int (nI 0)]), (jok, zi E 600 jf), (jov, zi E 600 jg), (jse, zi E 120 (zn se))] (fun r_ w_ => ∃ h2 : Nat, ∃ an2 : Int32, ∃ em2 : Nat, ∃ ar2 : Nat → Int32, ∃ lo2 : Nat → Int32, ∃ st2 : Nat → Int32, ∃ stp2 : Nat → Nat, ∃ n2 : Nat, ∃ kf2 : Nat → Int32, ∃ vf2 : Nat → Int32, ∃ J2 : List (Int32 × Int32), ∃ r2 : Int32, (r_ = r2 ∧ w_ = [(jb, zo 1 [.ref m, .ref jse, .ref jst, .ref jjo, .ref jre, .ref jco]), (m, zo 3 [.ref ma, .ref ml, .ref ms, .int (nI h2), .int an2, .ref mp, .int (nI em2), .ref mt]), (ma, zi E 3 ar2), (ml, zi E 4 lo2), (ms, zi E 8 st2), (mp, zo 4 [.ref mpk, .ref mpv, .int (nI n)]), (mpk, zi E 600 f), (mpv, zi E 600 g), (mt, zi E 4 (zn stp2)), (p, zo 5 [.int (nI 1), .ref po, .ref pn, .int (nI len)]), (po, zi E 64 op), (pn, zi E 64 nn), (jst, zo 2 [.ref tk, .ref tv, .int (nI n2)]), (tk, zi E 600 kf2), (tv, zi E 600 vf2), (jjo, zo 4 [.ref jok, .ref jov, .int (nI (rwN 600 0 J2))]), (jok, zi E 600 (rwK 600 0 jf J2)), (jov, zi E 600 (rwV 600 0 jg J2)), (jse, zi E 120 (zn se))]) ∧ (joinR (pF op nn) f g se spl r2) ∧ (J2.length ≤ 600) ∧ (r2 = -1 → ∃ tot, jnR (pF op nn) f g se spl J2 tot ∧ stp2 = va_up stp 1 (stp 1 + tot))) 0 0 := by
  refine zMi.of (cc := cX1_joinSplits) (nL := 5) (ret := (some .int)) (by decide) rfl (Nat.le_of_ble_eq_true rfl) ?_
  intro p_ e_ s_ m_ args_ below_ meth_ c_ A_ C0 hin0
  have C0 : zC E p_ s_ m_ args_ meth_ c_ cX1_joinSplits 5 (some .int) RX1 (zTs yX1_joinSplits cX1_joinSplits 5 (some .int)) A_ := C0
  refine z_eqL (L1 := [(0, .ref jb), (1, .ref p), (2, .int (nI spl))]) rfl ?_
  refine z_iconst 1 C0 (v := (nI 0)) dX1_joinSplits_0 rfl rfl ?_
  refine z_istore_n 2 C0 [1, 2, 3, 0] [(0, .ref jb), (1, .ref p), (2, .int (nI spl)), (3, .int (nI 0))] dX1_joinSplits_1 rfl rfl (by decide) rfl ?_
  refine z_eq (L1 := [(0, .ref jb), (1, .ref p), (2, .int (nI spl)), (3, .int (nI (sst se 0)))]) (st1 := []) (w1 := [(jb, zo 1 [.ref m, .ref jse, .ref jst, .ref jjo, .ref jre, .ref jco]), (m, zo 3 [.ref ma, .ref ml, .ref ms, .int (nI h), .int an, .ref mp, .int (nI em), .ref mt]), (ma, zi E 3 ar), (ml, zi E 4 lo), (ms, zi E 8 st), (mp, zo 4 [.ref mpk, .ref mpv, .int (nI n)]), (mpk, zi E 600 f), (mpv, zi E 600 g), (mt, zi E 4 (zn stp)), (p, zo 5 [.int (nI 1), .ref po, .ref pn, .int (nI len)]), (po, zi E 64 op), (pn, zi E 64 nn), (jst, zo 2 [.ref tk, .ref tv, .int (nI tn)]), (tk, zi E 600 kf), (tv, zi E 600 vf), (jjo, zo 4 [.ref jok, .ref jov, .int (nI (rwN 600 0 ([] : List (Int32 × Int32))))]), (jok, zi E 600 (rwK 600 0 jf ([] : List (Int32 × Int32)))), (jov, zi E 600 (rwV 600 0 jg ([] : List (Int32 × Int32)))), (jse, zi E 120 (zn se))]) rfl rfl (by rw [rwK_0, rwV_0, rwN_0 (Nat.zero_le 600)]) ?_
  refine z_iconst 3 C0 (v := (nI 0)) dX1_joinSplits_2 rfl rfl ?_
  refine z_istore 5 C0 [1, 2, 3, 4, 0] [(0, .ref jb), (1, .ref p), (2, .int (nI spl)), (3, .int (nI (sst se 0))), (4, .int (nI 0))] dX1_joinSplits_3 rfl (by decide) rfl ?_
  have CUT5 : ∀ (N5 : Nat) (s : Nat) (h : Nat) (an : Int32) (em : Nat) (ar : Nat → Int32) (lo : Nat → Int32) (st : Nat → Int32) (sp : Nat → Nat) (tn : Nat) (kf : Nat → Int32) (vf : Nat → Int32) (J : List (Int32 × Int32)) (tot : Nat), (s ≤ spl) → (∀ x, x < s → sok (pF op nn) f g se x) → (jnR (pF op nn) f g se s J tot) → (J.length ≤ sst se s) → (sp = va_up stp 1 (stp 1 + tot)) → spl - s < N5 → Z E p_ l_ e_ ({ frames := 5, cells := 0, slots := 0, locals := 126 } : Room) s_ m_ args_ below_ meth_ c_ (MQ below_ (va_Qi (fun r_ w_ => ∃ h2 : Nat, ∃ an2 : Int32, ∃ em2 : Nat, ∃ ar2 : Nat → Int32, ∃ lo2 : Nat → Int32, ∃ st2 : Nat → Int32, ∃ stp2 : Nat → Nat, ∃ n2 : Nat, ∃ kf2 : Nat → Int32, ∃ vf2 : Nat → Int32, ∃ J2 : List (Int32 × Int32), ∃ r2 : Int32, (r_ = r2 ∧ w_ = [(jb, zo 1 [.ref m, .ref jse, .ref jst, .ref jjo, .ref jre, .ref jco]), (m, zo 3 [.ref ma, .ref ml, .ref ms, .int (nI h2), .int an2, .ref mp, .int (nI em2), .ref mt]), (ma, zi E 3 ar2), (ml, zi E 4 lo2), (ms, zi E 8 st2), (mp, zo 4 [.ref mpk, .ref mpv, .int (nI n)]), (mpk, zi E 600 f), (mpv, zi E 600 g), (mt, zi E 4 (zn stp2)), (p, zo 5 [.int (nI 1), .ref po, .ref pn, .int (nI len)]), (po, zi E 64 op), (pn, zi E 64 nn), (jst, zo 2 [.ref tk, .ref tv, .int (nI n2)]), (tk, zi E 600 kf2), (tv, zi E 600 vf2), (jjo, zo 4 [.ref jok, .ref jov, .int (nI (rwN 600 0 J2))]), (jok, zi E 600 (rwK 600 0 jf J2)), (jov, zi E 600 (rwV 600 0 jg J2)), (jse, zi E 120 (zn se))]) ∧ (joinR (pF op nn) f g se spl r2) ∧ (J2.length ≤ 600) ∧ (r2 = -1 → ∃ tot, jnR (pF op nn) f g se spl J2 tot ∧ stp2 = va_up stp 1 (stp 1 + tot))) (zPost E A_) A_) args_ s_ 0 0 A_) A_ 5 5 [(0, .ref jb), (1, .ref p), (2, .int (nI spl)), (3, .int (nI (sst se s))), (4, .int (nI s))] [] [(jb, zo 1 [.ref m, .ref jse, .ref jst, .ref jjo, .ref jre, .ref jco]), (m, zo 3 [.ref ma, .ref ml, .ref ms, .int (nI h), .int an, .ref mp, .int (nI em), .ref mt]), (ma, zi E 3 ar), (ml, zi E 4 lo), (ms, zi E 8 st), (mp, zo 4 [.ref mpk, .ref mpv, .int (nI n)]), (mpk, zi E 600 f), (mpv, zi E 600 g), (mt, zi E 4 (zn sp)), (p, zo 5 [.int (nI 1), .ref po, .ref pn, .int (nI len)]), (po, zi E 64 op), (pn, zi E 64 nn), (jst, zo 2 [.ref tk, .ref tv, .int (nI tn)]), (tk, zi E 600 kf), (tv, zi E 600 vf), (jjo, zo 4 [.ref jok, .ref jov, .int (nI (rwN 600 0 J))]), (jok, zi E 600 (rwK 600 0 jf J)), (jov, zi E 600 (rwV 600 0 jg J)), (jse, zi E 120 (zn se))] 0 0 := by
    intro N5
    induction N5 with
    | zero => intro s h an em ar lo st sp tn kf vf J tot hs hok hJ hJl hsp hm5; exact absurd hm5 (Nat.not_lt_zero _)
    | succ N5 ih5 =>
      intro s h an em ar lo st sp tn kf vf J tot hs hok hJ hJl hsp hm5
      refine z_iload 7 C0 4 dX1_joinSplits_5 rfl rfl ?_
      refine z_iload_n 8 C0 2 dX1_joinSplits_7 rfl rfl rfl ?_
      refine z_icmp_geN 11 78 C0 (by omega) (by omega) dX1_joinSplits_8 rfl (by decide) (fun k8 => ?_) (fun k8 => ?_)
      · skip
        refine z_iconst 79 C0 (v := (-1)) dX1_joinSplits_78 rfl (by decide) ?_
        obtain rfl : s = spl := by omega
        exact z_iret C0 rfl dX1_joinSplits_79 ⟨h, an, em, ar, lo, st, sp, tn, kf, vf, J, (-1), ⟨rfl, rfl⟩, (Or.inr ⟨hok, rfl⟩), (by have := sst_le (se := se) (s := s) (fun x hx => (hse x hx).2); omega), (fun _ => ⟨tot, hJ, hsp⟩)⟩ (by decide) (by decide)
      · skip
        refine z_aload_n 12 C0 0 dX1_joinSplits_11 rfl rfl rfl ?_
        refine z_get 15 C0 0 2 wz_1 rfl (by decide) (zTs_in wk_177) dX1_joinSplits_12 rfl rfl rfl ?_
        refine z_iconst 16 C0 (v := (nI 0)) dX1_joinSplits_15 rfl rfl ?_
        refine z_put 19 C0 12 2 [(jb, zo 1 [.ref m, .ref jse, .ref jst, .ref jjo, .ref jre, .ref jco]), (m, zo 3 [.ref ma, .ref ml, .ref ms, .int (nI h), .int an, .ref mp, .int (nI em), .ref mt]), (ma, zi E 3 ar), (ml, zi E 4 lo), (ms, zi E 8 st), (mp, zo 4 [.ref mpk, .ref mpv, .int (nI n)]), (mpk, zi E 600 f), (mpv, zi E 600 g), (mt, zi E 4 (zn sp)), (p, zo 5 [.int (nI 1), .ref po, .ref pn, .int (nI len)]), (po, zi E 64 op), (pn, zi E 64 nn), (jst, zo 2 [.ref tk, .ref tv, .int (nI 0)]), (tk, zi E 600 kf), (tv, zi E 600 vf), (jjo, zo 4 [.ref jok, .ref jov, .int (nI (rwN 600 0 J))]), (jok, zi E 600 (rwK 600 0 jf J)), (jov, zi E 600 (rwV 600 0 jg J)), (jse, zi E 120 (zn se))] wz_2 rfl (by decide) (zTs_in wk_163) tyX2 tyX2_ok nmX2 rfl rfl rfl rfl dX1_joinSplits_16 rfl rfl (Nat.le_of_ble_eq_true rfl) rfl ?_
        refine z_aload_n 20 C0 0 dX1_joinSplits_19 rfl rfl rfl ?_
        refine z_aload_n 21 C0 1 dX1_joinSplits_20 rfl rfl rfl ?_
        refine z_aload_n 22 C0 0 dX1_joinSplits_21 rfl rfl rfl ?_
        refine z_get 25 C0 0 2 wz_1 rfl (by decide) (zTs_in wk_177) dX1_joinSplits_22 rfl rfl rfl ?_
        refine z_aload_n 26 C0 0 dX1_joinSplits_25 rfl rfl rfl ?_
        refine z_get 29 C0 0 0 wz_1 rfl (by decide) (zTs_in wk_175) dX1_joinSplits_26 rfl rfl rfl ?_
        refine z_get 32 C0 1 5 wz_3 rfl (by decide) (zTs_in wk_126) dX1_joinSplits_29 rfl rfl rfl ?_
        refine z_iload_n 33 C0 3 dX1_joinSplits_32 rfl rfl rfl ?_
        refine z_aload_n 34 C0 0 dX1_joinSplits_33 rfl rfl rfl ?_
        refine z_get 37 C0 0 1 wz_1 rfl (by decide) (zTs_in wk_176) dX1_joinSplits_34 rfl rfl rfl ?_
        refine z_iload 39 C0 4 dX1_joinSplits_37 rfl rfl ?_
        refine z_ialdN 40 C0 18 (v := (nI (se s))) dX1_joinSplits_39 rfl rfl (by omega) (by decide) rfl ?_
        refine z_callVi 43 C0 [0, 1, 2, 3, 4, 5, 6, 7, 8, 9, 10, 11, 12, 13, 14] [15, 16, 17, 18] [(jjo, zo 4 [.ref jok, .ref jov, .int (nI (rwN 600 0 J))]), (jok, zi E 600 (rwK 600 0 jf J)), (jov, zi E 600 (rwV 600 0 jg J)), (jse, zi E 120 (zn se))] 0 0 (As := [.ref p, .ref jst, .ref mp, .int (nI (sst se s)), .int (nI (se s))]) (T := TX1) (N := 6) (C := RX1) (ci := 1) (n := 5) 0 (merge_a l_ E jb jse jst jjo jre jco m ma ml ms mp mt h an em ar lo st mpk mpv f g n sp p po pn 1 op nn len jst tk tv kf vf (sst se s) (se s) (by omega) (by omega) (by omega) (by omega) (hse s (by omega)).1 (hse s (by omega)).2) (zGIV (fun _ => zTs_in) wk_392 wk_389 wk_390 wk_391 wk_17) rfl ⟨rfl, by decide, by decide, by decide +kernel⟩ rfl rfl rfl rfl (by decide) rfl rfl (Nat.le_of_ble_eq_true rfl) ⟨by decide, by decide⟩ rfl rfl ⟨by decide, by decide⟩ ⟨by decide, by decide⟩ dX1_joinSplits_40 rfl (fun r40 w40 hB40 => ?_)
        obtain ⟨h2_40, an2_40, em2_40, ar2_40, lo2_40, st2_40, stp2_40, n2_40, kf2_40, vf2_40, ⟨rfl, rfl⟩, fn_40, fM_40⟩ := hB40
        refine z_perm [4, 5, 6, 7, 8, 9, 10, 11, 12, 13, 14, 15, 16, 17, 18, 0, 1, 2, 3] [(jb, zo 1 [.ref m, .ref jse, .ref jst, .ref jjo, .ref jre, .ref jco]), (m, zo 3 [.ref ma, .ref ml, .ref ms, .int (nI h2_40), .int an2_40, .ref mp, .int (nI em2_40), .ref mt]), (ma, zi E 3 ar2_40), (ml, zi E 4 lo2_40), (ms, zi E 8 st2_40), (mp, zo 4 [.ref mpk, .ref mpv, .int (nI n)]), (mpk, zi E 600 f), (mpv, zi E 600 g), (mt, zi E 4 (zn stp2_40)), (p, zo 5 [.int (nI 1), .ref po, .ref pn, .int (nI len)]), (po, zi E 64 op), (pn, zi E 64 nn), (jst, zo 2 [.ref tk, .ref tv, .int (nI n2_40)]), (tk, zi E 600 kf2_40), (tv, zi E 600 vf2_40), (jjo, zo 4 [.ref jok, .ref jov, .int (nI (rwN 600 0 J))]), (jok, zi E 600 (rwK 600 0 jf J)), (jov, zi E 600 (rwV 600 0 jg J)), (jse, zi E 120 (zn se))] (by decide) rfl ?_
        refine z_if_neP 46 53 C0 dX1_joinSplits_43 rfl (by decide) (fun k43 => ?_) (fun k43 => ?_)
        · skip
          obtain ⟨M, t, hMt⟩ : ∃ M t, (mgL (pF op nn) (tab f g (sst se s) (se s - sst se s)) (fun _ => none, 0)) = some (M, t) := by
            cases hq : (mgL (pF op nn) (tab f g (sst se s) (se s - sst se s)) (fun _ => none, 0)) with
            | none => exact absurd hq k43
            | some z => exact ⟨z.1, z.2, rfl⟩
          have hfM := fM_40 M t hMt
          refine z_aload_n 54 C0 0 dX1_joinSplits_53 rfl rfl rfl ?_
          refine z_get 57 C0 0 3 wz_1 rfl (by decide) (zTs_in wk_178) dX1_joinSplits_54 rfl rfl rfl ?_
          refine z_aload_n 58 C0 0 dX1_joinSplits_57 rfl rfl rfl ?_
          refine z_get 61 C0 0 2 wz_1 rfl (by decide) (zTs_in wk_177) dX1_joinSplits_58 rfl rfl rfl ?_
          refine z_callVv 64 C0 [15, 16, 17, 12, 13, 14] [0, 1, 2, 3, 4, 5, 6, 7, 8, 9, 10, 11, 18] [(jb, zo 1 [.ref m, .ref jse, .ref jst, .ref jjo, .ref jre, .ref jco]), (m, zo 3 [.ref ma, .ref ml, .ref ms, .int (nI h2_40), .int an2_40, .ref mp, .int (nI em2_40), .ref mt]), (ma, zi E 3 ar2_40), (ml, zi E 4 lo2_40), (ms, zi E 8 st2_40), (mp, zo 4 [.ref mpk, .ref mpv, .int (nI n)]), (mpk, zi E 600 f), (mpv, zi E 600 g), (mt, zi E 4 (zn stp2_40)), (p, zo 5 [.int (nI 1), .ref po, .ref pn, .int (nI len)]), (po, zi E 64 op), (pn, zi E 64 nn), (jse, zi E 120 (zn se))] 0 0 (As := [.ref jst]) (T := TX4) (N := 3) (C := RX4) (ci := 4) (n := 1) 0 (appendAll l_ E jjo jok jov (rwK 600 0 jf J) (rwV 600 0 jg J) (rwN 600 0 J) jst tk tv kf2_40 vf2_40 n2_40 (by have := hse s (by omega); rw [show rwN 600 0 J = J.length by unfold rwN; rw [if_pos (by omega)]; omega]; omega)) (zGIV (fun _ => zTs_in) wk_411 wk_408 wk_409 wk_410 wk_14) rfl ⟨rfl, by decide, by decide, by decide +kernel⟩ rfl rfl rfl rfl (by decide) rfl rfl (Nat.le_of_ble_eq_true rfl) ⟨by decide, by decide⟩ rfl rfl ⟨by decide, by decide⟩ ⟨by decide, by decide⟩ dX1_joinSplits_61 rfl (fun w61 hB61 => ?_)
          obtain rfl := hB61
          refine z_perm [0, 1, 2, 3, 4, 5, 6, 7, 8, 9, 10, 11, 16, 17, 18, 13, 14, 15, 12] [(jb, zo 1 [.ref m, .ref jse, .ref jst, .ref jjo, .ref jre, .ref jco]), (m, zo 3 [.ref ma, .ref ml, .ref ms, .int (nI h2_40), .int an2_40, .ref mp, .int (nI em2_40), .ref mt]), (ma, zi E 3 ar2_40), (ml, zi E 4 lo2_40), (ms, zi E 8 st2_40), (mp, zo 4 [.ref mpk, .ref mpv, .int (nI n)]), (mpk, zi E 600 f), (mpv, zi E 600 g), (mt, zi E 4 (zn stp2_40)), (p, zo 5 [.int (nI 1), .ref po, .ref pn, .int (nI len)]), (po, zi E 64 op), (pn, zi E 64 nn), (jst, zo 2 [.ref tk, .ref tv, .int (nI n2_40)]), (tk, zi E 600 kf2_40), (tv, zi E 600 vf2_40), (jjo, zo 4 [.ref jok, .ref jov, .int (nI (rwN 600 (rwN 600 0 J) (tab kf2_40 vf2_40 0 n2_40)))]), (jok, zi E 600 (rwK 600 (rwN 600 0 J) (rwK 600 0 jf J) (tab kf2_40 vf2_40 0 n2_40))), (jov, zi E 600 (rwV 600 (rwN 600 0 J) (rwV 600 0 jg J) (tab kf2_40 vf2_40 0 n2_40))), (jse, zi E 120 (zn se))] (by decide) rfl ?_
          refine z_eq (L1 := [(0, .ref jb), (1, .ref p), (2, .int (nI spl)), (3, .int (nI (sst se s))), (4, .int (nI s))]) (st1 := []) (w1 := [(jb, zo 1 [.ref m, .ref jse, .ref jst, .ref jjo, .ref jre, .ref jco]), (m, zo 3 [.ref ma, .ref ml, .ref ms, .int (nI h2_40), .int an2_40, .ref mp, .int (nI em2_40), .ref mt]), (ma, zi E 3 ar2_40), (ml, zi E 4 lo2_40), (ms, zi E 8 st2_40), (mp, zo 4 [.ref mpk, .ref mpv, .int (nI n)]), (mpk, zi E 600 f), (mpv, zi E 600 g), (mt, zi E 4 (zn stp2_40)), (p, zo 5 [.int (nI 1), .ref po, .ref pn, .int (nI len)]), (po, zi E 64 op), (pn, zi E 64 nn), (jst, zo 2 [.ref tk, .ref tv, .int (nI n2_40)]), (tk, zi E 600 kf2_40), (tv, zi E 600 vf2_40), (jjo, zo 4 [.ref jok, .ref jov, .int (nI (rwN 600 0 (J ++ tab kf2_40 vf2_40 0 n2_40)))]), (jok, zi E 600 (rwK 600 0 jf (J ++ tab kf2_40 vf2_40 0 n2_40))), (jov, zi E 600 (rwV 600 0 jg (J ++ tab kf2_40 vf2_40 0 n2_40))), (jse, zi E 120 (zn se))]) rfl rfl (by rw [rwK_app (Nat.zero_le 600), rwV_app (Nat.zero_le 600), rwN_app (Nat.zero_le 600)]) ?_
          refine z_aload_n 65 C0 0 dX1_joinSplits_64 rfl rfl rfl ?_
          refine z_get 68 C0 0 1 wz_1 rfl (by decide) (zTs_in wk_176) dX1_joinSplits_65 rfl rfl rfl ?_
          refine z_iload 70 C0 4 dX1_joinSplits_68 rfl rfl ?_
          refine z_ialdN 71 C0 18 (v := (nI (se s))) dX1_joinSplits_70 rfl rfl (by omega) (by decide) rfl ?_
          refine z_istore_n 72 C0 [1, 2, 3, 0, 4] [(0, .ref jb), (1, .ref p), (2, .int (nI spl)), (3, .int (nI (se s))), (4, .int (nI s))] dX1_joinSplits_71 rfl rfl (by decide) rfl ?_
          refine z_eq (L1 := [(0, .ref jb), (1, .ref p), (2, .int (nI spl)), (3, .int (nI (sst se (s + 1)))), (4, .int (nI s))]) (st1 := []) (w1 := [(jb, zo 1 [.ref m, .ref jse, .ref jst, .ref jjo, .ref jre, .ref jco]), (m, zo 3 [.ref ma, .ref ml, .ref ms, .int (nI h2_40), .int an2_40, .ref mp, .int (nI em2_40), .ref mt]), (ma, zi E 3 ar2_40), (ml, zi E 4 lo2_40), (ms, zi E 8 st2_40), (mp, zo 4 [.ref mpk, .ref mpv, .int (nI n)]), (mpk, zi E 600 f), (mpv, zi E 600 g), (mt, zi E 4 (zn stp2_40)), (p, zo 5 [.int (nI 1), .ref po, .ref pn, .int (nI len)]), (po, zi E 64 op), (pn, zi E 64 nn), (jst, zo 2 [.ref tk, .ref tv, .int (nI n2_40)]), (tk, zi E 600 kf2_40), (tv, zi E 600 vf2_40), (jjo, zo 4 [.ref jok, .ref jov, .int (nI (rwN 600 0 (J ++ tab kf2_40 vf2_40 0 n2_40)))]), (jok, zi E 600 (rwK 600 0 jf (J ++ tab kf2_40 vf2_40 0 n2_40))), (jov, zi E 600 (rwV 600 0 jg (J ++ tab kf2_40 vf2_40 0 n2_40))), (jse, zi E 120 (zn se))]) rfl rfl rfl ?_
          refine z_iinc 75 C0 4 [1, 2, 3, 4, 0] [(0, .ref jb), (1, .ref p), (2, .int (nI spl)), (3, .int (nI (sst se (s + 1)))), (4, .int (nI (s + 1)))] (v := (nI (s + 1))) dX1_joinSplits_72 rfl rfl (z_incN _ _) (by decide) rfl ?_
          refine z_goto 5 C0 dX1_joinSplits_75 (by decide) ?_
          exact ih5 (s + 1) h2_40 an2_40 em2_40 ar2_40 lo2_40 st2_40 stp2_40 n2_40 kf2_40 vf2_40 (J ++ tab kf2_40 vf2_40 0 n2_40) (tot + t) (by omega) (fun x hx => by rcases Nat.lt_or_ge x s with q | q; exact hok x q; rw [show x = s by omega]; exact k43) (⟨J, tot, M, t, _, hJ, hMt, ⟨_, _, _, hfM.1, rfl⟩, rfl, rfl⟩) (by rw [List.length_append, tab_len]; show _ ≤ se s; have := hse s k8; omega) (by rw [hfM.2, hsp]; exact z_up_add _ _ _ _) (by omega)
        · skip
          refine z_sipush 49 C0 (v := (nI 1000)) dX1_joinSplits_46 rfl rfl ?_
          refine z_iload 51 C0 4 dX1_joinSplits_49 rfl rfl ?_
          refine z_iadd 52 C0 (v := (nI (1000 + s))) dX1_joinSplits_51 rfl (nI_add _ _) ?_
          exact z_iret C0 rfl dX1_joinSplits_52 ⟨h2_40, an2_40, em2_40, ar2_40, lo2_40, st2_40, stp2_40, n2_40, kf2_40, vf2_40, J, (nI (1000 + s)), ⟨rfl, rfl⟩, (Or.inl ⟨s, by omega, k43, hok, rfl⟩), (by have := hse s (by omega); omega), (fun q => absurd q (nI_neg1 (by omega)))⟩ (by decide) (by decide)
  exact CUT5 (spl - 0 + 1) 0 h an em ar lo st stp tn kf vf ([] : List (Int32 × Int32)) 0 (Nat.zero_le _) (fun x hx => absurd hx (Nat.not_lt_zero x)) (⟨rfl, rfl⟩) (Nat.zero_le _) (z_up_self _ _).symm (Nat.lt_succ_self _)

set_option maxHeartbeats 4000000 in
set_option maxRecDepth 100000 in
theorem fold_a (l_ : Launch) (E : zE) (jb : Nat) (jse : Nat) (jst : Nat) (jjo : Nat) (jre : Nat) (jco : Nat) (m : Nat) (ma : Nat) (ml : Nat) (ms : Nat) (mp : Nat) (mt : Nat) (h : Nat) (an : Int32) (em : Nat) (ar : Nat → Int32) (lo : Nat → Int32) (st : Nat → Int32) (mpk : Nat) (mpv : Nat) (f : Nat → Int32) (g : Nat → Int32) (n : Nat) (stp : Nat → Nat) (p : Nat) (po : Nat) (pn : Nat) (op : Nat → Int32) (nn : Nat → Int32) (len : Nat) (tk : Nat) (tv : Nat) (kf : Nat → Int32) (vf : Nat → Int32) (co : Nat → Int32) (hG : Good 2 op nn len) (hlen : len ≤ 64) (hn : n ≤ 600) : zMi l_ E yX1_foldValues (zTs yX1_foldValues cX1_foldValues 3 (some .int)) ({ frames := 5, cells := 0, slots := 0, locals := 126 } : Room) [.ref jb, .ref p, .ref mp] [(jb, zo 1 [.ref m, .ref jse, .ref jst, .ref jjo, .ref jre, .ref jco]), (m, zo 3 [.ref ma, .ref ml, .ref ms, .int (nI h), .int an, .ref mp, .int (nI em), .ref mt]), (ma, zi E 3 ar), (ml, zi E 4 lo), (ms, zi E 8 st), (mp, zo 4 [.ref mpk, .ref mpv, .int (nI n)]), (mpk, zi E 600 f), (mpv, zi E 600 g), (mt, zi E 4 (zn stp)), (p, zo 5 [.int (nI 2), .ref po, .ref pn, .int (nI len)]), (po, zi E 64 op), (pn, zi E 64 nn), (jre, zo 2 [.ref tk, .ref tv, .int (nI 0)]), (tk, zi E 600 kf), (tv, zi E 600 vf), (jco, zi E 8 co)] (fun r_ w_ => ∃ h2 : Nat, ∃ an2 : Int32, ∃ em2 : Nat, ∃ ar2 : Nat → Int32, ∃ lo2 : Nat → Int32, ∃ st2 : Nat → Int32, ∃ stp2 : Nat → Nat, ∃ n2 : Nat, ∃ kf2 : Nat → Int32, ∃ vf2 : Nat → Int32, ∃ co2 : Nat → Int32, (r_ = (fldR (mgL (pF op nn) (tab f g 0 n) (fun _ => none, 0))) ∧ w_ = [(jb, zo 1 [.ref m, .ref jse, .ref jst, .ref jjo, .ref jre, .ref jco]), (m, zo 3 [.ref ma, .ref ml, .ref ms, .int (nI h2), .int an2, .ref mp, .int (nI em2), .ref mt]), (ma, zi E 3 ar2), (ml, zi E 4 lo2), (ms, zi E 8 st2), (mp, zo 4 [.ref mpk, .ref mpv, .int (nI n)]), (mpk, zi E 600 f), (mpv, zi E 600 g), (mt, zi E 4 (zn stp2)), (p, zo 5 [.int (nI 2), .ref po, .ref pn, .int (nI len)]), (po, zi E 64 op), (pn, zi E 64 nn), (jre, zo 2 [.ref tk, .ref tv, .int (nI n2)]), (tk, zi E 600 kf2), (tv, zi E 600 vf2), (jco, zi E 8 co2)]) ∧ (n2 ≤ n) ∧ (∀ M s, (mgL (pF op nn) (tab f g 0 n) (fun _ => none, 0)) = some (M, s) → tbl n2 kf2 vf2 M ∧ stp2 = va_up stp 2 (stp 2 + s) ∧ co2 = upd (upd co 2 (nI n)) 3 (nI n2))) 0 0 := by
  refine zMi.of (cc := cX1_foldValues) (nL := 3) (ret := (some .int)) (by decide) rfl (Nat.le_of_ble_eq_true rfl) ?_
  intro p_ e_ s_ m_ args_ below_ meth_ c_ A_ C0 hin0
  have C0 : zC E p_ s_ m_ args_ meth_ c_ cX1_foldValues 3 (some .int) RX1 (zTs yX1_foldValues cX1_foldValues 3 (some .int)) A_ := C0
  refine z_eqL (L1 := [(0, .ref jb), (1, .ref p), (2, .ref mp)]) rfl ?_
  refine z_aload_n 1 C0 0 dX1_foldValues_0 rfl rfl rfl ?_
  refine z_get 4 C0 0 5 wz_1 rfl (by decide) (zTs_in wk_181) dX1_foldValues_1 rfl rfl rfl ?_
  refine z_iconst 5 C0 (v := (nI 2)) dX1_foldValues_4 rfl rfl ?_
  refine z_aload_n 6 C0 2 dX1_foldValues_5 rfl rfl rfl ?_
  refine z_get 9 C0 5 2 wz_4 rfl (by decide) (zTs_in wk_50) dX1_foldValues_6 rfl rfl rfl ?_
  refine z_iastN 10 C0 15 [(jb, zo 1 [.ref m, .ref jse, .ref jst, .ref jjo, .ref jre, .ref jco]), (m, zo 3 [.ref ma, .ref ml, .ref ms, .int (nI h), .int an, .ref mp, .int (nI em), .ref mt]), (ma, zi E 3 ar), (ml, zi E 4 lo), (ms, zi E 8 st), (mp, zo 4 [.ref mpk, .ref mpv, .int (nI n)]), (mpk, zi E 600 f), (mpv, zi E 600 g), (mt, zi E 4 (zn stp)), (p, zo 5 [.int (nI 2), .ref po, .ref pn, .int (nI len)]), (po, zi E 64 op), (pn, zi E 64 nn), (jre, zo 2 [.ref tk, .ref tv, .int (nI 0)]), (tk, zi E 600 kf), (tv, zi E 600 vf), (jco, zi E 8 (upd co 2 (nI n)))] dX1_foldValues_9 rfl rfl (by omega) (by decide) rfl ?_
  refine z_aload_n 11 C0 0 dX1_foldValues_10 rfl rfl rfl ?_
  refine z_aload_n 12 C0 1 dX1_foldValues_11 rfl rfl rfl ?_
  refine z_aload_n 13 C0 0 dX1_foldValues_12 rfl rfl rfl ?_
  refine z_get 16 C0 0 4 wz_1 rfl (by decide) (zTs_in wk_179) dX1_foldValues_13 rfl rfl rfl ?_
  refine z_aload_n 17 C0 2 dX1_foldValues_16 rfl rfl rfl ?_
  refine z_iconst 18 C0 (v := (nI 0)) dX1_foldValues_17 rfl rfl ?_
  refine z_aload_n 19 C0 2 dX1_foldValues_18 rfl rfl rfl ?_
  refine z_get 22 C0 5 2 wz_4 rfl (by decide) (zTs_in wk_50) dX1_foldValues_19 rfl rfl rfl ?_
  refine z_callVi 25 C0 [0, 1, 2, 3, 4, 5, 6, 7, 8, 9, 10, 11, 12, 13, 14] [15] [(jco, zi E 8 (upd co 2 (nI n)))] 0 0 (As := [.ref p, .ref jre, .ref mp, .int (nI 0), .int (nI n)]) (T := TX1) (N := 6) (C := RX1) (ci := 1) (n := 5) 0 (merge_a l_ E jb jse jst jjo jre jco m ma ml ms mp mt h an em ar lo st mpk mpv f g n stp p po pn 2 op nn len jre tk tv kf vf 0 n (by omega) (by omega) (by omega) (by omega) (Nat.zero_le _) (by omega)) (zGIV (fun _ => zTs_in) wk_392 wk_389 wk_390 wk_391 wk_17) rfl ⟨rfl, by decide, by decide, by decide +kernel⟩ rfl rfl rfl rfl (by decide) rfl rfl (Nat.le_of_ble_eq_true rfl) ⟨by decide, by decide⟩ rfl rfl ⟨by decide, by decide⟩ ⟨by decide, by decide⟩ dX1_foldValues_22 rfl (fun r22 w22 hB22 => ?_)
  obtain ⟨h2_22, an2_22, em2_22, ar2_22, lo2_22, st2_22, stp2_22, n2_22, kf2_22, vf2_22, ⟨rfl, rfl⟩, fn_22, fM_22⟩ := hB22
  refine z_perm [1, 2, 3, 4, 5, 6, 7, 8, 9, 10, 11, 12, 13, 14, 15, 0] [(jb, zo 1 [.ref m, .ref jse, .ref jst, .ref jjo, .ref jre, .ref jco]), (m, zo 3 [.ref ma, .ref ml, .ref ms, .int (nI h2_22), .int an2_22, .ref mp, .int (nI em2_22), .ref mt]), (ma, zi E 3 ar2_22), (ml, zi E 4 lo2_22), (ms, zi E 8 st2_22), (mp, zo 4 [.ref mpk, .ref mpv, .int (nI n)]), (mpk, zi E 600 f), (mpv, zi E 600 g), (mt, zi E 4 (zn stp2_22)), (p, zo 5 [.int (nI 2), .ref po, .ref pn, .int (nI len)]), (po, zi E 64 op), (pn, zi E 64 nn), (jre, zo 2 [.ref tk, .ref tv, .int (nI n2_22)]), (tk, zi E 600 kf2_22), (tv, zi E 600 vf2_22), (jco, zi E 8 (upd co 2 (nI n)))] (by decide) rfl ?_
  refine z_if_neP 28 32 C0 dX1_foldValues_25 rfl (by decide) (fun k25 => ?_) (fun k25 => ?_)
  · skip
    refine z_aload_n 33 C0 0 dX1_foldValues_32 rfl rfl rfl ?_
    refine z_get 36 C0 0 5 wz_1 rfl (by decide) (zTs_in wk_181) dX1_foldValues_33 rfl rfl rfl ?_
    refine z_iconst 37 C0 (v := (nI 3)) dX1_foldValues_36 rfl rfl ?_
    refine z_aload_n 38 C0 0 dX1_foldValues_37 rfl rfl rfl ?_
    refine z_get 41 C0 0 4 wz_1 rfl (by decide) (zTs_in wk_179) dX1_foldValues_38 rfl rfl rfl ?_
    refine z_get 44 C0 12 2 wz_2 rfl (by decide) (zTs_in wk_163) dX1_foldValues_41 rfl rfl rfl ?_
    refine z_iastN 45 C0 15 [(jb, zo 1 [.ref m, .ref jse, .ref jst, .ref jjo, .ref jre, .ref jco]), (m, zo 3 [.ref ma, .ref ml, .ref ms, .int (nI h2_22), .int an2_22, .ref mp, .int (nI em2_22), .ref mt]), (ma, zi E 3 ar2_22), (ml, zi E 4 lo2_22), (ms, zi E 8 st2_22), (mp, zo 4 [.ref mpk, .ref mpv, .int (nI n)]), (mpk, zi E 600 f), (mpv, zi E 600 g), (mt, zi E 4 (zn stp2_22)), (p, zo 5 [.int (nI 2), .ref po, .ref pn, .int (nI len)]), (po, zi E 64 op), (pn, zi E 64 nn), (jre, zo 2 [.ref tk, .ref tv, .int (nI n2_22)]), (tk, zi E 600 kf2_22), (tv, zi E 600 vf2_22), (jco, zi E 8 (upd (upd co 2 (nI n)) 3 (nI n2_22)))] dX1_foldValues_44 rfl rfl (by omega) (by decide) rfl ?_
    refine z_iconst 46 C0 (v := (-1)) dX1_foldValues_45 rfl (by decide) ?_
    obtain ⟨z, hz⟩ : ∃ z, (mgL (pF op nn) (tab f g 0 n) (fun _ => none, 0)) = some z := Option.ne_none_iff_exists'.mp k25
    exact z_iret C0 rfl dX1_foldValues_46 ⟨h2_22, an2_22, em2_22, ar2_22, lo2_22, st2_22, stp2_22, n2_22, kf2_22, vf2_22, (upd (upd co 2 (nI n)) 3 (nI n2_22)), ⟨(by rw [hz]; rfl), rfl⟩, (by omega), (fun M s q => ⟨(fM_22 M s q).1, (fM_22 M s q).2, rfl⟩)⟩ (by decide) (by decide)
  · skip
    refine z_sipush 31 C0 (v := (nI 2000)) dX1_foldValues_28 rfl rfl ?_
    have hno : (mgL (pF op nn) (tab f g 0 n) (fun _ => none, 0)) = none := Classical.byContradiction fun q => k25 q
    exact z_iret C0 rfl dX1_foldValues_31 ⟨h2_22, an2_22, em2_22, ar2_22, lo2_22, st2_22, stp2_22, n2_22, kf2_22, vf2_22, (upd co 2 (nI n)), ⟨(by rw [hno]; rfl), rfl⟩, (by omega), (fun M s q => by rw [hno] at q; cases q)⟩ (by decide) (by decide)

set_option maxHeartbeats 4000000 in
set_option maxRecDepth 100000 in
theorem fold_s (l_ : Launch) (E : zE) (jb : Nat) (jse : Nat) (jst : Nat) (jjo : Nat) (jre : Nat) (jco : Nat) (m : Nat) (ma : Nat) (ml : Nat) (ms : Nat) (mp : Nat) (mt : Nat) (h : Nat) (an : Int32) (em : Nat) (ar : Nat → Int32) (lo : Nat → Int32) (st : Nat → Int32) (mpk : Nat) (mpv : Nat) (f : Nat → Int32) (g : Nat → Int32) (n : Nat) (stp : Nat → Nat) (p : Nat) (po : Nat) (pn : Nat) (op : Nat → Int32) (nn : Nat → Int32) (len : Nat) (tk : Nat) (tv : Nat) (kf : Nat → Int32) (vf : Nat → Int32) (r : Nat) (rk : Nat) (rv : Nat) (rf : Nat → Int32) (rg : Nat → Int32) (rn : Nat) (co : Nat → Int32) (hG : Good 2 op nn len) (hlen : len ≤ 64) (hn : n ≤ 600) (hrn : rn ≤ 600) : zMi l_ E yX1_foldValues (zTs yX1_foldValues cX1_foldValues 3 (some .int)) ({ frames := 5, cells := 0, slots := 0, locals := 126 } : Room) [.ref jb, .ref p, .ref r] [(jb, zo 1 [.ref m, .ref jse, .ref jst, .ref jjo, .ref jre, .ref jco]), (m, zo 3 [.ref ma, .ref ml, .ref ms, .int (nI h), .int an, .ref mp, .int (nI em), .ref mt]), (ma, zi E 3 ar), (ml, zi E 4 lo), (ms, zi E 8 st), (mp, zo 4 [.ref mpk, .ref mpv, .int (nI n)]), (mpk, zi E 600 f), (mpv, zi E 600 g), (mt, zi E 4 (zn stp)), (p, zo 5 [.int (nI 2), .ref po, .ref pn, .int (nI len)]), (po, zi E 64 op), (pn, zi E 64 nn), (jre, zo 2 [.ref tk, .ref tv, .int (nI 0)]), (tk, zi E 600 kf), (tv, zi E 600 vf), (r, zo 4 [.ref rk, .ref rv, .int (nI rn)]), (rk, zi E 600 rf), (rv, zi E 600 rg), (jco, zi E 8 co)] (fun r_ w_ => ∃ h2 : Nat, ∃ an2 : Int32, ∃ em2 : Nat, ∃ ar2 : Nat → Int32, ∃ lo2 : Nat → Int32, ∃ st2 : Nat → Int32, ∃ stp2 : Nat → Nat, ∃ n2 : Nat, ∃ kf2 : Nat → Int32, ∃ vf2 : Nat → Int32, ∃ co2 : Nat → Int32, (r_ = (fldR (mgL (pF op nn) (tab rf rg 0 rn) (fun _ => none, 0))) ∧ w_ = [(jb, zo 1 [.ref m, .ref jse, .ref jst, .ref jjo, .ref jre, .ref jco]), (m, zo 3 [.ref ma, .ref ml, .ref ms, .int (nI h2), .int an2, .ref mp, .int (nI em2), .ref mt]), (ma, zi E 3 ar2), (ml, zi E 4 lo2), (ms, zi E 8 st2), (mp, zo 4 [.ref mpk, .ref mpv, .int (nI n)]), (mpk, zi E 600 f), (mpv, zi E 600 g), (mt, zi E 4 (zn stp2)), (p, zo 5 [.int (nI 2), .ref po, .ref pn, .int (nI len)]), (po, zi E 64 op), (pn, zi E 64 nn), (jre, zo 2 [.ref tk, .ref tv, .int (nI n2)]), (tk, zi E 600 kf2), (tv, zi E 600 vf2), (r, zo 4 [.ref rk, .ref rv, .int (nI rn)]), (rk, zi E 600 rf), (rv, zi E 600 rg), (jco, zi E 8 co2)]) ∧ (n2 ≤ rn) ∧ (∀ M s, (mgL (pF op nn) (tab rf rg 0 rn) (fun _ => none, 0)) = some (M, s) → tbl n2 kf2 vf2 M ∧ stp2 = va_up stp 2 (stp 2 + s) ∧ co2 = upd (upd co 2 (nI rn)) 3 (nI n2))) 0 0 := by
  refine zMi.of (cc := cX1_foldValues) (nL := 3) (ret := (some .int)) (by decide) rfl (Nat.le_of_ble_eq_true rfl) ?_
  intro p_ e_ s_ m_ args_ below_ meth_ c_ A_ C0 hin0
  have C0 : zC E p_ s_ m_ args_ meth_ c_ cX1_foldValues 3 (some .int) RX1 (zTs yX1_foldValues cX1_foldValues 3 (some .int)) A_ := C0
  refine z_eqL (L1 := [(0, .ref jb), (1, .ref p), (2, .ref r)]) rfl ?_
  refine z_aload_n 1 C0 0 dX1_foldValues_0 rfl rfl rfl ?_
  refine z_get 4 C0 0 5 wz_1 rfl (by decide) (zTs_in wk_181) dX1_foldValues_1 rfl rfl rfl ?_
  refine z_iconst 5 C0 (v := (nI 2)) dX1_foldValues_4 rfl rfl ?_
  refine z_aload_n 6 C0 2 dX1_foldValues_5 rfl rfl rfl ?_
  refine z_get 9 C0 15 2 wz_4 rfl (by decide) (zTs_in wk_50) dX1_foldValues_6 rfl rfl rfl ?_
  refine z_iastN 10 C0 18 [(jb, zo 1 [.ref m, .ref jse, .ref jst, .ref jjo, .ref jre, .ref jco]), (m, zo 3 [.ref ma, .ref ml, .ref ms, .int (nI h), .int an, .ref mp, .int (nI em), .ref mt]), (ma, zi E 3 ar), (ml, zi E 4 lo), (ms, zi E 8 st), (mp, zo 4 [.ref mpk, .ref mpv, .int (nI n)]), (mpk, zi E 600 f), (mpv, zi E 600 g), (mt, zi E 4 (zn stp)), (p, zo 5 [.int (nI 2), .ref po, .ref pn, .int (nI len)]), (po, zi E 64 op), (pn, zi E 64 nn), (jre, zo 2 [.ref tk, .ref tv, .int (nI 0)]), (tk, zi E 600 kf), (tv, zi E 600 vf), (r, zo 4 [.ref rk, .ref rv, .int (nI rn)]), (rk, zi E 600 rf), (rv, zi E 600 rg), (jco, zi E 8 (upd co 2 (nI rn)))] dX1_foldValues_9 rfl rfl (by omega) (by decide) rfl ?_
  refine z_aload_n 11 C0 0 dX1_foldValues_10 rfl rfl rfl ?_
  refine z_aload_n 12 C0 1 dX1_foldValues_11 rfl rfl rfl ?_
  refine z_aload_n 13 C0 0 dX1_foldValues_12 rfl rfl rfl ?_
  refine z_get 16 C0 0 4 wz_1 rfl (by decide) (zTs_in wk_179) dX1_foldValues_13 rfl rfl rfl ?_
  refine z_aload_n 17 C0 2 dX1_foldValues_16 rfl rfl rfl ?_
  refine z_iconst 18 C0 (v := (nI 0)) dX1_foldValues_17 rfl rfl ?_
  refine z_aload_n 19 C0 2 dX1_foldValues_18 rfl rfl rfl ?_
  refine z_get 22 C0 15 2 wz_4 rfl (by decide) (zTs_in wk_50) dX1_foldValues_19 rfl rfl rfl ?_
  refine z_callVi 25 C0 [0, 1, 2, 3, 4, 5, 6, 7, 8, 9, 10, 11, 12, 13, 14, 15, 16, 17] [18] [(jco, zi E 8 (upd co 2 (nI rn)))] 0 0 (As := [.ref p, .ref jre, .ref r, .int (nI 0), .int (nI rn)]) (T := TX1) (N := 6) (C := RX1) (ci := 1) (n := 5) 0 (merge_s l_ E jb jse jst jjo jre jco m ma ml ms mp mt h an em ar lo st mpk mpv f g n stp p po pn 2 op nn len jre tk tv kf vf r rk rv rf rg rn 0 rn (by omega) (by omega) (by omega) (by omega) (Nat.zero_le _) (by omega)) (zGIV (fun _ => zTs_in) wk_392 wk_389 wk_390 wk_391 wk_17) rfl ⟨rfl, by decide, by decide, by decide +kernel⟩ rfl rfl rfl rfl (by decide) rfl rfl (Nat.le_of_ble_eq_true rfl) ⟨by decide, by decide⟩ rfl rfl ⟨by decide, by decide⟩ ⟨by decide, by decide⟩ dX1_foldValues_22 rfl (fun r22 w22 hB22 => ?_)
  obtain ⟨h2_22, an2_22, em2_22, ar2_22, lo2_22, st2_22, stp2_22, n2_22, kf2_22, vf2_22, ⟨rfl, rfl⟩, fn_22, fM_22⟩ := hB22
  refine z_perm [1, 2, 3, 4, 5, 6, 7, 8, 9, 10, 11, 12, 13, 14, 15, 16, 17, 18, 0] [(jb, zo 1 [.ref m, .ref jse, .ref jst, .ref jjo, .ref jre, .ref jco]), (m, zo 3 [.ref ma, .ref ml, .ref ms, .int (nI h2_22), .int an2_22, .ref mp, .int (nI em2_22), .ref mt]), (ma, zi E 3 ar2_22), (ml, zi E 4 lo2_22), (ms, zi E 8 st2_22), (mp, zo 4 [.ref mpk, .ref mpv, .int (nI n)]), (mpk, zi E 600 f), (mpv, zi E 600 g), (mt, zi E 4 (zn stp2_22)), (p, zo 5 [.int (nI 2), .ref po, .ref pn, .int (nI len)]), (po, zi E 64 op), (pn, zi E 64 nn), (jre, zo 2 [.ref tk, .ref tv, .int (nI n2_22)]), (tk, zi E 600 kf2_22), (tv, zi E 600 vf2_22), (r, zo 4 [.ref rk, .ref rv, .int (nI rn)]), (rk, zi E 600 rf), (rv, zi E 600 rg), (jco, zi E 8 (upd co 2 (nI rn)))] (by decide) rfl ?_
  refine z_if_neP 28 32 C0 dX1_foldValues_25 rfl (by decide) (fun k25 => ?_) (fun k25 => ?_)
  · skip
    refine z_aload_n 33 C0 0 dX1_foldValues_32 rfl rfl rfl ?_
    refine z_get 36 C0 0 5 wz_1 rfl (by decide) (zTs_in wk_181) dX1_foldValues_33 rfl rfl rfl ?_
    refine z_iconst 37 C0 (v := (nI 3)) dX1_foldValues_36 rfl rfl ?_
    refine z_aload_n 38 C0 0 dX1_foldValues_37 rfl rfl rfl ?_
    refine z_get 41 C0 0 4 wz_1 rfl (by decide) (zTs_in wk_179) dX1_foldValues_38 rfl rfl rfl ?_
    refine z_get 44 C0 12 2 wz_2 rfl (by decide) (zTs_in wk_163) dX1_foldValues_41 rfl rfl rfl ?_
    refine z_iastN 45 C0 18 [(jb, zo 1 [.ref m, .ref jse, .ref jst, .ref jjo, .ref jre, .ref jco]), (m, zo 3 [.ref ma, .ref ml, .ref ms, .int (nI h2_22), .int an2_22, .ref mp, .int (nI em2_22), .ref mt]), (ma, zi E 3 ar2_22), (ml, zi E 4 lo2_22), (ms, zi E 8 st2_22), (mp, zo 4 [.ref mpk, .ref mpv, .int (nI n)]), (mpk, zi E 600 f), (mpv, zi E 600 g), (mt, zi E 4 (zn stp2_22)), (p, zo 5 [.int (nI 2), .ref po, .ref pn, .int (nI len)]), (po, zi E 64 op), (pn, zi E 64 nn), (jre, zo 2 [.ref tk, .ref tv, .int (nI n2_22)]), (tk, zi E 600 kf2_22), (tv, zi E 600 vf2_22), (r, zo 4 [.ref rk, .ref rv, .int (nI rn)]), (rk, zi E 600 rf), (rv, zi E 600 rg), (jco, zi E 8 (upd (upd co 2 (nI rn)) 3 (nI n2_22)))] dX1_foldValues_44 rfl rfl (by omega) (by decide) rfl ?_
    refine z_iconst 46 C0 (v := (-1)) dX1_foldValues_45 rfl (by decide) ?_
    obtain ⟨z, hz⟩ : ∃ z, (mgL (pF op nn) (tab rf rg 0 rn) (fun _ => none, 0)) = some z := Option.ne_none_iff_exists'.mp k25
    exact z_iret C0 rfl dX1_foldValues_46 ⟨h2_22, an2_22, em2_22, ar2_22, lo2_22, st2_22, stp2_22, n2_22, kf2_22, vf2_22, (upd (upd co 2 (nI rn)) 3 (nI n2_22)), ⟨(by rw [hz]; rfl), rfl⟩, (by omega), (fun M s q => ⟨(fM_22 M s q).1, (fM_22 M s q).2, rfl⟩)⟩ (by decide) (by decide)
  · skip
    refine z_sipush 31 C0 (v := (nI 2000)) dX1_foldValues_28 rfl rfl ?_
    have hno : (mgL (pF op nn) (tab rf rg 0 rn) (fun _ => none, 0)) = none := Classical.byContradiction fun q => k25 q
    exact z_iret C0 rfl dX1_foldValues_31 ⟨h2_22, an2_22, em2_22, ar2_22, lo2_22, st2_22, stp2_22, n2_22, kf2_22, vf2_22, (upd co 2 (nI rn)), ⟨(by rw [hno]; rfl), rfl⟩, (by omega), (fun M s q => by rw [hno] at q; cases q)⟩ (by decide) (by decide)

set_option maxHeartbeats 4000000 in
set_option maxRecDepth 100000 in
theorem endKeys (l_ : Launch) (E : zE) (jb : Nat) (jse : Nat) (jst : Nat) (jjo : Nat) (jre : Nat) (jco : Nat) (m : Nat) (ma : Nat) (ml : Nat) (ms : Nat) (mp : Nat) (mt : Nat) (h : Nat) (an : Int32) (em : Nat) (ar : Nat → Int32) (lo : Nat → Int32) (st : Nat → Int32) (mpk : Nat) (mpv : Nat) (f : Nat → Int32) (g : Nat → Int32) (n : Nat) (stp : Nat → Nat) (p : Nat) (po : Nat) (pn : Nat) (op : Nat → Int32) (nn : Nat → Int32) (len : Nat) (tk : Nat) (tv : Nat) (kf : Nat → Int32) (vf : Nat → Int32) (tn : Nat) (hG : Good 3 op nn len) (hlen : len ≤ 64) (hn : n ≤ 600) (htn : tn ≤ 600) : zMi l_ E yX1_endKeys (zTs yX1_endKeys cX1_endKeys 5 (some .int)) ({ frames := 4, cells := 0, slots := 0, locals := 97 } : Room) [.ref jb, .ref p] [(jb, zo 1 [.ref m, .ref jse, .ref jst, .ref jjo, .ref jre, .ref jco]), (m, zo 3 [.ref ma, .ref ml, .ref ms, .int (nI h), .int an, .ref mp, .int (nI em), .ref mt]), (ma, zi E 3 ar), (ml, zi E 4 lo), (ms, zi E 8 st), (mp, zo 4 [.ref mpk, .ref mpv, .int (nI n)]), (mpk, zi E 600 f), (mpv, zi E 600 g), (mt, zi E 4 (zn stp)), (p, zo 5 [.int (nI 3), .ref po, .ref pn, .int (nI len)]), (po, zi E 64 op), (pn, zi E 64 nn), (jre, zo 2 [.ref tk, .ref tv, .int (nI tn)]), (tk, zi E 600 kf), (tv, zi E 600 vf)] (fun r_ w_ => ∃ h2 : Nat, ∃ an2 : Int32, ∃ em2 : Nat, ∃ ar2 : Nat → Int32, ∃ lo2 : Nat → Int32, ∃ st2 : Nat → Int32, ∃ stp2 : Nat → Nat, ∃ n2 : Nat, ∃ kf2 : Nat → Int32, ∃ vf2 : Nat → Int32, ∃ r2 : Int32, (r_ = r2 ∧ w_ = [(jb, zo 1 [.ref m, .ref jse, .ref jst, .ref jjo, .ref jre, .ref jco]), (m, zo 3 [.ref ma, .ref ml, .ref ms, .int (nI h2), .int an2, .ref mp, .int (nI em2), .ref mt]), (ma, zi E 3 ar2), (ml, zi E 4 lo2), (ms, zi E 8 st2), (mp, zo 4 [.ref mpk, .ref mpv, .int (nI n)]), (mpk, zi E 600 f), (mpv, zi E 600 g), (mt, zi E 4 (zn stp2)), (p, zo 5 [.int (nI 3), .ref po, .ref pn, .int (nI len)]), (po, zi E 64 op), (pn, zi E 64 nn), (jre, zo 2 [.ref tk, .ref tv, .int (nI n2)]), (tk, zi E 600 kf2), (tv, zi E 600 vf2)]) ∧ (endR op nn kf vf tn r2) ∧ (n2 ≤ 600) ∧ (r2 = -1 → n2 = (enK op nn kf vf tn).length ∧ (∀ j, j < n2 → (kf2 j, vf2 j) = (enK op nn kf vf tn).getD j (0, 0)) ∧ stp2 = va_up stp 3 (stp 3 + enS op nn kf vf tn))) 0 0 := by
  refine zMi.of (cc := cX1_endKeys) (nL := 5) (ret := (some .int)) (by decide) rfl (Nat.le_of_ble_eq_true rfl) ?_
  intro p_ e_ s_ m_ args_ below_ meth_ c_ A_ C0 hin0
  have C0 : zC E p_ s_ m_ args_ meth_ c_ cX1_endKeys 5 (some .int) RX1 (zTs yX1_endKeys cX1_endKeys 5 (some .int)) A_ := C0
  refine z_eqL (L1 := [(0, .ref jb), (1, .ref p)]) rfl ?_
  refine z_iconst 1 C0 (v := (nI 0)) dX1_endKeys_0 rfl rfl ?_
  refine z_istore_n 2 C0 [1, 2, 0] [(0, .ref jb), (1, .ref p), (2, .int (nI 0))] dX1_endKeys_1 rfl rfl (by decide) rfl ?_
  refine z_iconst 3 C0 (v := (nI 0)) dX1_endKeys_2 rfl rfl ?_
  refine z_eq (L1 := [(0, .ref jb), (1, .ref p), (2, .int (nI ((enK op nn kf vf 0).length)))]) (st1 := [.int (nI 0)]) (w1 := [(jb, zo 1 [.ref m, .ref jse, .ref jst, .ref jjo, .ref jre, .ref jco]), (m, zo 3 [.ref ma, .ref ml, .ref ms, .int (nI h), .int an, .ref mp, .int (nI em), .ref mt]), (ma, zi E 3 ar), (ml, zi E 4 lo), (ms, zi E 8 st), (mp, zo 4 [.ref mpk, .ref mpv, .int (nI n)]), (mpk, zi E 600 f), (mpv, zi E 600 g), (mt, zi E 4 (zn stp)), (p, zo 5 [.int (nI 3), .ref po, .ref pn, .int (nI len)]), (po, zi E 64 op), (pn, zi E 64 nn), (jre, zo 2 [.ref tk, .ref tv, .int (nI tn)]), (tk, zi E 600 kf), (tv, zi E 600 vf)]) rfl rfl rfl ?_
  refine z_istore_n 4 C0 [1, 2, 3, 0] [(0, .ref jb), (1, .ref p), (2, .int (nI ((enK op nn kf vf 0).length))), (3, .int (nI 0))] dX1_endKeys_3 rfl rfl (by decide) rfl ?_
  have CUT4 : ∀ (N4 : Nat) (i : Nat) (h : Nat) (an : Int32) (em : Nat) (ar : Nat → Int32) (lo : Nat → Int32) (st : Nat → Int32) (sp : Nat → Nat) (kx : Nat → Int32) (vx : Nat → Int32), (i ≤ tn) → (∀ x, x < i → (enC op nn kf vf x).1 ≠ 0) → (∀ j, j < (enK op nn kf vf i).length → (kx j, vx j) = (enK op nn kf vf i).getD j (0, 0)) → (∀ j, i ≤ j → kx j = kf j ∧ vx j = vf j) → (sp = va_up stp 3 (stp 3 + enS op nn kf vf i)) → tn - i < N4 → Z E p_ l_ e_ ({ frames := 4, cells := 0, slots := 0, locals := 97 } : Room) s_ m_ args_ below_ meth_ c_ (MQ below_ (va_Qi (fun r_ w_ => ∃ h2 : Nat, ∃ an2 : Int32, ∃ em2 : Nat, ∃ ar2 : Nat → Int32, ∃ lo2 : Nat → Int32, ∃ st2 : Nat → Int32, ∃ stp2 : Nat → Nat, ∃ n2 : Nat, ∃ kf2 : Nat → Int32, ∃ vf2 : Nat → Int32, ∃ r2 : Int32, (r_ = r2 ∧ w_ = [(jb, zo 1 [.ref m, .ref jse, .ref jst, .ref jjo, .ref jre, .ref jco]), (m, zo 3 [.ref ma, .ref ml, .ref ms, .int (nI h2), .int an2, .ref mp, .int (nI em2), .ref mt]), (ma, zi E 3 ar2), (ml, zi E 4 lo2), (ms, zi E 8 st2), (mp, zo 4 [.ref mpk, .ref mpv, .int (nI n)]), (mpk, zi E 600 f), (mpv, zi E 600 g), (mt, zi E 4 (zn stp2)), (p, zo 5 [.int (nI 3), .ref po, .ref pn, .int (nI len)]), (po, zi E 64 op), (pn, zi E 64 nn), (jre, zo 2 [.ref tk, .ref tv, .int (nI n2)]), (tk, zi E 600 kf2), (tv, zi E 600 vf2)]) ∧ (endR op nn kf vf tn r2) ∧ (n2 ≤ 600) ∧ (r2 = -1 → n2 = (enK op nn kf vf tn).length ∧ (∀ j, j < n2 → (kf2 j, vf2 j) = (enK op nn kf vf tn).getD j (0, 0)) ∧ stp2 = va_up stp 3 (stp 3 + enS op nn kf vf tn))) (zPost E A_) A_) args_ s_ 0 0 A_) A_ 5 4 [(0, .ref jb), (1, .ref p), (2, .int (nI ((enK op nn kf vf i).length))), (3, .int (nI i))] [] [(jb, zo 1 [.ref m, .ref jse, .ref jst, .ref jjo, .ref jre, .ref jco]), (m, zo 3 [.ref ma, .ref ml, .ref ms, .int (nI h), .int an, .ref mp, .int (nI em), .ref mt]), (ma, zi E 3 ar), (ml, zi E 4 lo), (ms, zi E 8 st), (mp, zo 4 [.ref mpk, .ref mpv, .int (nI n)]), (mpk, zi E 600 f), (mpv, zi E 600 g), (mt, zi E 4 (zn sp)), (p, zo 5 [.int (nI 3), .ref po, .ref pn, .int (nI len)]), (po, zi E 64 op), (pn, zi E 64 nn), (jre, zo 2 [.ref tk, .ref tv, .int (nI tn)]), (tk, zi E 600 kx), (tv, zi E 600 vx)] 0 0 := by
    intro N4
    induction N4 with
    | zero => intro i h an em ar lo st sp kx vx hi hok hA hB hsp hm4; exact absurd hm4 (Nat.not_lt_zero _)
    | succ N4 ih4 =>
      intro i h an em ar lo st sp kx vx hi hok hA hB hsp hm4
      refine z_iload_n 5 C0 3 dX1_endKeys_4 rfl rfl rfl ?_
      refine z_aload_n 6 C0 0 dX1_endKeys_5 rfl rfl rfl ?_
      refine z_get 9 C0 0 4 wz_1 rfl (by decide) (zTs_in wk_179) dX1_endKeys_6 rfl rfl rfl ?_
      refine z_get 12 C0 12 2 wz_2 rfl (by decide) (zTs_in wk_163) dX1_endKeys_9 rfl rfl rfl ?_
      refine z_icmp_geN 15 102 C0 (by omega) (by omega) dX1_endKeys_12 rfl (by decide) (fun k12 => ?_) (fun k12 => ?_)
      · skip
        refine z_aload_n 103 C0 0 dX1_endKeys_102 rfl rfl rfl ?_
        refine z_get 106 C0 0 4 wz_1 rfl (by decide) (zTs_in wk_179) dX1_endKeys_103 rfl rfl rfl ?_
        refine z_iload_n 107 C0 2 dX1_endKeys_106 rfl rfl rfl ?_
        refine z_put 110 C0 12 2 [(jb, zo 1 [.ref m, .ref jse, .ref jst, .ref jjo, .ref jre, .ref jco]), (m, zo 3 [.ref ma, .ref ml, .ref ms, .int (nI h), .int an, .ref mp, .int (nI em), .ref mt]), (ma, zi E 3 ar), (ml, zi E 4 lo), (ms, zi E 8 st), (mp, zo 4 [.ref mpk, .ref mpv, .int (nI n)]), (mpk, zi E 600 f), (mpv, zi E 600 g), (mt, zi E 4 (zn sp)), (p, zo 5 [.int (nI 3), .ref po, .ref pn, .int (nI len)]), (po, zi E 64 op), (pn, zi E 64 nn), (jre, zo 2 [.ref tk, .ref tv, .int (nI ((enK op nn kf vf i).length))]), (tk, zi E 600 kx), (tv, zi E 600 vx)] wz_2 rfl (by decide) (zTs_in wk_163) tyX2 tyX2_ok nmX2 rfl rfl rfl rfl dX1_endKeys_107 rfl rfl (Nat.le_of_ble_eq_true rfl) rfl ?_
        refine z_iconst 111 C0 (v := (-1)) dX1_endKeys_110 rfl (by decide) ?_
        obtain rfl : i = tn := by omega
        have hle := enK_len op nn kf vf i
        exact z_iret C0 rfl dX1_endKeys_111 ⟨h, an, em, ar, lo, st, sp, ((enK op nn kf vf i).length), kx, vx, (-1), ⟨rfl, rfl⟩, (Or.inr ⟨hok, rfl⟩), (by omega), (fun _ => ⟨rfl, hA, hsp⟩)⟩ (by decide) (by decide)
      · skip
        refine z_aload_n 16 C0 0 dX1_endKeys_15 rfl rfl rfl ?_
        refine z_get 19 C0 0 0 wz_1 rfl (by decide) (zTs_in wk_175) dX1_endKeys_16 rfl rfl rfl ?_
        refine z_aload_n 20 C0 1 dX1_endKeys_19 rfl rfl rfl ?_
        refine z_aload_n 21 C0 0 dX1_endKeys_20 rfl rfl rfl ?_
        refine z_get 24 C0 0 4 wz_1 rfl (by decide) (zTs_in wk_179) dX1_endKeys_21 rfl rfl rfl ?_
        refine z_get 27 C0 12 0 wz_2 rfl (by decide) (zTs_in wk_156) dX1_endKeys_24 rfl rfl rfl ?_
        refine z_iload_n 28 C0 3 dX1_endKeys_27 rfl rfl rfl ?_
        refine z_ialdN 29 C0 13 (v := (kf i)) dX1_endKeys_28 rfl rfl (by omega) (by decide) (hB i (Nat.le_refl i)).1 ?_
        refine z_aload_n 30 C0 0 dX1_endKeys_29 rfl rfl rfl ?_
        refine z_get 33 C0 0 4 wz_1 rfl (by decide) (zTs_in wk_179) dX1_endKeys_30 rfl rfl rfl ?_
        refine z_get 36 C0 12 1 wz_2 rfl (by decide) (zTs_in wk_160) dX1_endKeys_33 rfl rfl rfl ?_
        refine z_iload_n 37 C0 3 dX1_endKeys_36 rfl rfl rfl ?_
        refine z_ialdN 38 C0 14 (v := (vf i)) dX1_endKeys_37 rfl rfl (by omega) (by decide) (hB i (Nat.le_refl i)).2 ?_
        refine z_iconst 39 C0 (v := (nI 0)) dX1_endKeys_38 rfl rfl ?_
        refine z_callVi 42 C0 [1, 2, 3, 4, 5, 6, 7, 8, 9, 10, 11] [0, 12, 13, 14] [(jb, zo 1 [.ref m, .ref jse, .ref jst, .ref jjo, .ref jre, .ref jco]), (jre, zo 2 [.ref tk, .ref tv, .int (nI tn)]), (tk, zi E 600 kx), (tv, zi E 600 vx)] 0 0 (As := [.ref p, .int (kf i), .int (vf i), .int (nI 0)]) (T := TX3) (N := 8) (C := RX3) (ci := 3) (n := 4) 0 (call l_ E m ma ml ms mp mt h an em ar lo st mpk mpv f g n sp p po pn 3 op nn len (kf i) (vf i) (nI 0) (by omega) (by omega) (by omega) (by omega)) (zGIV (fun _ => zTs_in) wk_343 wk_340 wk_341 wk_342 wk_18) rfl ⟨rfl, by decide, by decide, by decide +kernel⟩ rfl rfl rfl rfl (by decide) rfl rfl (Nat.le_of_ble_eq_true rfl) ⟨by decide, by decide⟩ rfl rfl ⟨by decide, by decide⟩ ⟨by decide, by decide⟩ dX1_endKeys_39 rfl (fun r39 w39 hB39 => ?_)
        obtain ⟨h2_39, an2_39, ar2_39, lo2_39, st2_39, ⟨rfl, rfl⟩, fh_39, fa_39⟩ := hB39
        refine z_perm [0, 4, 5, 6, 7, 8, 9, 10, 11, 12, 13, 14, 1, 2, 3] [(jb, zo 1 [.ref m, .ref jse, .ref jst, .ref jjo, .ref jre, .ref jco]), (m, zo 3 [.ref ma, .ref ml, .ref ms, .int (nI h2_39), .int an2_39, .ref mp, .int (nI ((callR op nn (kf i) (vf i) (nI 0)).2.2.2.length)), .ref mt]), (ma, zi E 3 ar2_39), (ml, zi E 4 lo2_39), (ms, zi E 8 st2_39), (mp, zo 4 [.ref mpk, .ref mpv, .int (nI (rwN 600 n (callR op nn (kf i) (vf i) (nI 0)).2.2.2))]), (mpk, zi E 600 (rwK 600 n f (callR op nn (kf i) (vf i) (nI 0)).2.2.2)), (mpv, zi E 600 (rwV 600 n g (callR op nn (kf i) (vf i) (nI 0)).2.2.2)), (mt, zi E 4 (zn (stpU sp 3 (callR op nn (kf i) (vf i) (nI 0))))), (p, zo 5 [.int (nI 3), .ref po, .ref pn, .int (nI len)]), (po, zi E 64 op), (pn, zi E 64 nn), (jre, zo 2 [.ref tk, .ref tv, .int (nI tn)]), (tk, zi E 600 kx), (tv, zi E 600 vx)] (by decide) rfl ?_
        have hP0 : (enC op nn kf vf i).2.2.2 = [] := callR_nil hG hlen (by decide) _ _ _
        have hle := callR_le op nn (kf i) (vf i) (nI 0)
        refine z_eq (L1 := [(0, .ref jb), (1, .ref p), (2, .int (nI ((enK op nn kf vf i).length))), (3, .int (nI i))]) (st1 := [.int (nI ((callR op nn (kf i) (vf i) (nI 0)).1))]) (w1 := [(jb, zo 1 [.ref m, .ref jse, .ref jst, .ref jjo, .ref jre, .ref jco]), (m, zo 3 [.ref ma, .ref ml, .ref ms, .int (nI h2_39), .int an2_39, .ref mp, .int (nI ((callR op nn (kf i) (vf i) (nI 0)).2.2.2.length)), .ref mt]), (ma, zi E 3 ar2_39), (ml, zi E 4 lo2_39), (ms, zi E 8 st2_39), (mp, zo 4 [.ref mpk, .ref mpv, .int (nI n)]), (mpk, zi E 600 f), (mpv, zi E 600 g), (mt, zi E 4 (zn (stpU sp 3 (callR op nn (kf i) (vf i) (nI 0))))), (p, zo 5 [.int (nI 3), .ref po, .ref pn, .int (nI len)]), (po, zi E 64 op), (pn, zi E 64 nn), (jre, zo 2 [.ref tk, .ref tv, .int (nI tn)]), (tk, zi E 600 kx), (tv, zi E 600 vx)]) rfl rfl (by show [_, _, _, _, _, (_, zo 4 [_, _, .int (nI (rwN 600 n (enC op nn kf vf i).2.2.2))]), (_, zi E 600 (rwK 600 n f (enC op nn kf vf i).2.2.2)), (_, zi E 600 (rwV 600 n g (enC op nn kf vf i).2.2.2)), _, _, _, _, _, _, _] = _; rw [hP0, rwK_0, rwV_0, rwN_0 hn]) ?_
        refine z_istore 44 C0 [1, 2, 3, 4, 0] [(0, .ref jb), (1, .ref p), (2, .int (nI ((enK op nn kf vf i).length))), (3, .int (nI i)), (4, .int (nI ((callR op nn (kf i) (vf i) (nI 0)).1)))] dX1_endKeys_42 rfl (by decide) rfl ?_
        refine z_iload 46 C0 4 dX1_endKeys_44 rfl rfl ?_
        refine z_if_neN 49 53 C0 (by omega) dX1_endKeys_46 rfl (by decide) (fun k46 => ?_) (fun k46 => ?_)
        · skip
          refine z_iload 55 C0 4 dX1_endKeys_53 rfl rfl ?_
          refine z_iconst 56 C0 (v := (nI 1)) dX1_endKeys_55 rfl rfl ?_
          refine z_icmp_neN 59 96 C0 (by omega) (by decide) dX1_endKeys_56 rfl (by decide) (fun k56 => ?_) (fun k56 => ?_)
          · skip
            refine z_eq (L1 := [(0, .ref jb), (1, .ref p), (2, .int (nI ((enK op nn kf vf (i + 1)).length))), (3, .int (nI i)), (4, .int (nI ((callR op nn (kf i) (vf i) (nI 0)).1)))]) (st1 := []) (w1 := [(jb, zo 1 [.ref m, .ref jse, .ref jst, .ref jjo, .ref jre, .ref jco]), (m, zo 3 [.ref ma, .ref ml, .ref ms, .int (nI h2_39), .int an2_39, .ref mp, .int (nI ((callR op nn (kf i) (vf i) (nI 0)).2.2.2.length)), .ref mt]), (ma, zi E 3 ar2_39), (ml, zi E 4 lo2_39), (ms, zi E 8 st2_39), (mp, zo 4 [.ref mpk, .ref mpv, .int (nI n)]), (mpk, zi E 600 f), (mpv, zi E 600 g), (mt, zi E 4 (zn (stpU sp 3 (callR op nn (kf i) (vf i) (nI 0))))), (p, zo 5 [.int (nI 3), .ref po, .ref pn, .int (nI len)]), (po, zi E 64 op), (pn, zi E 64 nn), (jre, zo 2 [.ref tk, .ref tv, .int (nI tn)]), (tk, zi E 600 kx), (tv, zi E 600 vx)]) (by rw [enK_skip k56]) rfl rfl ?_
            refine z_iinc 99 C0 3 [1, 2, 3, 0, 4] [(0, .ref jb), (1, .ref p), (2, .int (nI ((enK op nn kf vf (i + 1)).length))), (3, .int (nI (i + 1))), (4, .int (nI ((callR op nn (kf i) (vf i) (nI 0)).1)))] (v := (nI (i + 1))) dX1_endKeys_96 rfl rfl (z_incN _ _) (by decide) rfl ?_
            refine z_goto 4 C0 dX1_endKeys_99 (by decide) ?_
            refine z_loc [0, 1, 2, 3] [(0, .ref jb), (1, .ref p), (2, .int (nI ((enK op nn kf vf (i + 1)).length))), (3, .int (nI (i + 1)))] rfl ?_
            exact ih4 (i + 1) h2_39 an2_39 ((callR op nn (kf i) (vf i) (nI 0)).2.2.2.length) ar2_39 lo2_39 st2_39 (stpU sp 3 (callR op nn (kf i) (vf i) (nI 0))) kx vx (by omega) (fun x hx => by rcases Nat.lt_or_ge x i with q | q; exact hok x q; rw [show x = i by omega]; exact k46) (by rw [enK_skip k56]; exact hA) (fun j hj => hB j (by omega)) (by show _ = va_up stp 3 (stp 3 + (enS op nn kf vf i + (enC op nn kf vf i).2.2.1)); unfold stpU; rw [if_neg k46, hsp]; exact z_up_add _ _ _ _) (by omega)
          · skip
            have hlt : (enK op nn kf vf i).length < 600 := by have := enK_len op nn kf vf i; omega
            refine z_aload_n 60 C0 0 dX1_endKeys_59 rfl rfl rfl ?_
            refine z_get 63 C0 0 4 wz_1 rfl (by decide) (zTs_in wk_179) dX1_endKeys_60 rfl rfl rfl ?_
            refine z_get 66 C0 12 0 wz_2 rfl (by decide) (zTs_in wk_156) dX1_endKeys_63 rfl rfl rfl ?_
            refine z_iload_n 67 C0 2 dX1_endKeys_66 rfl rfl rfl ?_
            refine z_aload_n 68 C0 0 dX1_endKeys_67 rfl rfl rfl ?_
            refine z_get 71 C0 0 4 wz_1 rfl (by decide) (zTs_in wk_179) dX1_endKeys_68 rfl rfl rfl ?_
            refine z_get 74 C0 12 0 wz_2 rfl (by decide) (zTs_in wk_156) dX1_endKeys_71 rfl rfl rfl ?_
            refine z_iload_n 75 C0 3 dX1_endKeys_74 rfl rfl rfl ?_
            refine z_ialdN 76 C0 13 (v := (kx i)) dX1_endKeys_75 rfl rfl (by omega) (by decide) rfl ?_
            refine z_iastN 77 C0 13 [(jb, zo 1 [.ref m, .ref jse, .ref jst, .ref jjo, .ref jre, .ref jco]), (m, zo 3 [.ref ma, .ref ml, .ref ms, .int (nI h2_39), .int an2_39, .ref mp, .int (nI ((callR op nn (kf i) (vf i) (nI 0)).2.2.2.length)), .ref mt]), (ma, zi E 3 ar2_39), (ml, zi E 4 lo2_39), (ms, zi E 8 st2_39), (mp, zo 4 [.ref mpk, .ref mpv, .int (nI n)]), (mpk, zi E 600 f), (mpv, zi E 600 g), (mt, zi E 4 (zn (stpU sp 3 (callR op nn (kf i) (vf i) (nI 0))))), (p, zo 5 [.int (nI 3), .ref po, .ref pn, .int (nI len)]), (po, zi E 64 op), (pn, zi E 64 nn), (jre, zo 2 [.ref tk, .ref tv, .int (nI tn)]), (tk, zi E 600 (upd kx ((enK op nn kf vf i).length) (kx i))), (tv, zi E 600 vx)] dX1_endKeys_76 rfl rfl (by omega) (by decide) rfl ?_
            refine z_aload_n 78 C0 0 dX1_endKeys_77 rfl rfl rfl ?_
            refine z_get 81 C0 0 4 wz_1 rfl (by decide) (zTs_in wk_179) dX1_endKeys_78 rfl rfl rfl ?_
            refine z_get 84 C0 12 1 wz_2 rfl (by decide) (zTs_in wk_160) dX1_endKeys_81 rfl rfl rfl ?_
            refine z_iload_n 85 C0 2 dX1_endKeys_84 rfl rfl rfl ?_
            refine z_aload_n 86 C0 0 dX1_endKeys_85 rfl rfl rfl ?_
            refine z_get 89 C0 0 0 wz_1 rfl (by decide) (zTs_in wk_175) dX1_endKeys_86 rfl rfl rfl ?_
            refine z_get 92 C0 1 4 wz_3 rfl (by decide) (zTs_in wk_124) dX1_endKeys_89 rfl rfl rfl ?_
            refine z_iastN 93 C0 14 [(jb, zo 1 [.ref m, .ref jse, .ref jst, .ref jjo, .ref jre, .ref jco]), (m, zo 3 [.ref ma, .ref ml, .ref ms, .int (nI h2_39), .int an2_39, .ref mp, .int (nI ((callR op nn (kf i) (vf i) (nI 0)).2.2.2.length)), .ref mt]), (ma, zi E 3 ar2_39), (ml, zi E 4 lo2_39), (ms, zi E 8 st2_39), (mp, zo 4 [.ref mpk, .ref mpv, .int (nI n)]), (mpk, zi E 600 f), (mpv, zi E 600 g), (mt, zi E 4 (zn (stpU sp 3 (callR op nn (kf i) (vf i) (nI 0))))), (p, zo 5 [.int (nI 3), .ref po, .ref pn, .int (nI len)]), (po, zi E 64 op), (pn, zi E 64 nn), (jre, zo 2 [.ref tk, .ref tv, .int (nI tn)]), (tk, zi E 600 (upd kx ((enK op nn kf vf i).length) (kx i))), (tv, zi E 600 (upd vx ((enK op nn kf vf i).length) an2_39))] dX1_endKeys_92 rfl rfl (by omega) (by decide) rfl ?_
            refine z_iinc 96 C0 2 [1, 2, 0, 3, 4] [(0, .ref jb), (1, .ref p), (2, .int (nI (((enK op nn kf vf i).length) + 1))), (3, .int (nI i)), (4, .int (nI ((callR op nn (kf i) (vf i) (nI 0)).1)))] (v := (nI (((enK op nn kf vf i).length) + 1))) dX1_endKeys_93 rfl rfl (z_incN _ _) (by decide) rfl ?_
            refine z_eq (L1 := [(0, .ref jb), (1, .ref p), (2, .int (nI ((enK op nn kf vf (i + 1)).length))), (3, .int (nI i)), (4, .int (nI ((callR op nn (kf i) (vf i) (nI 0)).1)))]) (st1 := []) (w1 := [(jb, zo 1 [.ref m, .ref jse, .ref jst, .ref jjo, .ref jre, .ref jco]), (m, zo 3 [.ref ma, .ref ml, .ref ms, .int (nI h2_39), .int an2_39, .ref mp, .int (nI ((callR op nn (kf i) (vf i) (nI 0)).2.2.2.length)), .ref mt]), (ma, zi E 3 ar2_39), (ml, zi E 4 lo2_39), (ms, zi E 8 st2_39), (mp, zo 4 [.ref mpk, .ref mpv, .int (nI n)]), (mpk, zi E 600 f), (mpv, zi E 600 g), (mt, zi E 4 (zn (stpU sp 3 (callR op nn (kf i) (vf i) (nI 0))))), (p, zo 5 [.int (nI 3), .ref po, .ref pn, .int (nI len)]), (po, zi E 64 op), (pn, zi E 64 nn), (jre, zo 2 [.ref tk, .ref tv, .int (nI tn)]), (tk, zi E 600 (upd kx ((enK op nn kf vf i).length) (kx i))), (tv, zi E 600 (upd vx ((enK op nn kf vf i).length) an2_39))]) (by rw [enK_take k56, List.length_append]; rfl) rfl rfl ?_
            refine z_iinc 99 C0 3 [1, 2, 3, 0, 4] [(0, .ref jb), (1, .ref p), (2, .int (nI ((enK op nn kf vf (i + 1)).length))), (3, .int (nI (i + 1))), (4, .int (nI ((callR op nn (kf i) (vf i) (nI 0)).1)))] (v := (nI (i + 1))) dX1_endKeys_96 rfl rfl (z_incN _ _) (by decide) rfl ?_
            refine z_goto 4 C0 dX1_endKeys_99 (by decide) ?_
            refine z_loc [0, 1, 2, 3] [(0, .ref jb), (1, .ref p), (2, .int (nI ((enK op nn kf vf (i + 1)).length))), (3, .int (nI (i + 1)))] rfl ?_
            exact ih4 (i + 1) h2_39 an2_39 ((callR op nn (kf i) (vf i) (nI 0)).2.2.2.length) ar2_39 lo2_39 st2_39 (stpU sp 3 (callR op nn (kf i) (vf i) (nI 0))) (upd kx ((enK op nn kf vf i).length) (kx i)) (upd vx ((enK op nn kf vf i).length) an2_39) (by omega) (fun x hx => by rcases Nat.lt_or_ge x i with q | q; exact hok x q; rw [show x = i by omega]; exact k46) (en_put hlt hA (hB i (Nat.le_refl i)).1 k56 (fa_39 k46)) (fun j hj => by have := enK_len op nn kf vf i; rw [en_upd (by omega), en_upd (by omega)]; exact hB j (by omega)) (by show _ = va_up stp 3 (stp 3 + (enS op nn kf vf i + (enC op nn kf vf i).2.2.1)); unfold stpU; rw [if_neg k46, hsp]; exact z_up_add _ _ _ _) (by omega)
        · skip
          refine z_sipush 52 C0 (v := (nI 3000)) dX1_endKeys_49 rfl rfl ?_
          exact z_iret C0 rfl dX1_endKeys_52 ⟨h2_39, an2_39, ((enC op nn kf vf i).2.2.2.length), ar2_39, lo2_39, st2_39, (stpU sp 3 (enC op nn kf vf i)), tn, kx, vx, (nI 3000), ⟨rfl, rfl⟩, (Or.inl ⟨i, by omega, k46, rfl⟩), (by omega), (fun q => absurd q (nI_neg1 (by omega)))⟩ (by decide) (by decide)
  exact CUT4 (tn - 0 + 1) 0 h an em ar lo st stp kf vf (Nat.zero_le _) (fun x hx => absurd hx (Nat.not_lt_zero x)) (fun j hj => absurd hj (Nat.not_lt_zero j)) (fun j _ => ⟨rfl, rfl⟩) (z_up_self _ _).symm (Nat.lt_succ_self _)
