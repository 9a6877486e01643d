theorem rwN_app {cap n : Nat} {P P2 : List (Int32 × Int32)} (h : n ≤ cap) : rwN cap (rwN cap n P) P2 = rwN cap n (P ++ P2) := by
  unfold rwN
  rw [List.length_append]
  split <;> split <;> split <;> omega
theorem getD_app {P P2 : List (Int32 × Int32)} {d : Int32 × Int32} {i : Nat} : (P ++ P2).getD i d = if i < P.length then P.getD i d else P2.getD (i - P.length) d := by
  rw [List.getD_eq_getElem?_getD, List.getD_eq_getElem?_getD, List.getD_eq_getElem?_getD]
  by_cases hi : i < P.length
  · rw [if_pos hi, List.getElem?_append_left hi]
  · rw [if_neg hi, List.getElem?_append_right (by omega)]
theorem rwK_app {cap n : Nat} {f : Nat → Int32} {P P2 : List (Int32 × Int32)} (h : n ≤ cap) : rwK cap (rwN cap n P) (rwK cap n f P) P2 = rwK cap n f (P ++ P2) := by
  funext j
  unfold rwK
  rw [List.length_append, getD_app]
  unfold rwN
  by_cases hc : n + P.length ≤ cap
  · rw [if_pos hc]
    by_cases h1 : n + P.length ≤ j ∧ j < cap ∧ j - (n + P.length) < P2.length
    · rw [if_pos h1, if_pos ⟨by omega, h1.2.1, by omega⟩, if_neg (by omega), show j - n - P.length = j - (n + P.length) by omega]
    · rw [if_neg h1]
      by_cases h2 : n ≤ j ∧ j < cap ∧ j - n < P.length
      · rw [if_pos h2, if_pos ⟨h2.1, h2.2.1, by omega⟩, if_pos h2.2.2]
      · rw [if_neg h2, if_neg (fun q => by omega)]
  · rw [if_neg hc, if_neg (fun q => by omega)]
    by_cases h2 : n ≤ j ∧ j < cap ∧ j - n < P.length
    · rw [if_pos h2, if_pos ⟨h2.1, h2.2.1, by omega⟩, if_pos h2.2.2]
    · rw [if_neg h2, if_neg (fun q => by omega)]
theorem rwV_app {cap n : Nat} {f : Nat → Int32} {P P2 : List (Int32 × Int32)} (h : n ≤ cap) : rwV cap (rwN cap n P) (rwV cap n f P) P2 = rwV cap n f (P ++ P2) := by
  funext j
  unfold rwV
  rw [List.length_append, getD_app]
  unfold rwN
  by_cases hc : n + P.length ≤ cap
  · rw [if_pos hc]
    by_cases h1 : n + P.length ≤ j ∧ j < cap ∧ j - (n + P.length) < P2.length
    · rw [if_pos h1, if_pos ⟨by omega, h1.2.1, by omega⟩, if_neg (by omega), show j - n - P.length = j - (n + P.length) by omega]
    · rw [if_neg h1]
      by_cases h2 : n ≤ j ∧ j < cap ∧ j - n < P.length
      · rw [if_pos h2, if_pos ⟨h2.1, h2.2.1, by omega⟩, if_pos h2.2.2]
      · rw [if_neg h2, if_neg (fun q => by omega)]
  · rw [if_neg hc, if_neg (fun q => by omega)]
    by_cases h2 : n ≤ j ∧ j < cap ∧ j - n < P.length
    · rw [if_pos h2, if_pos ⟨h2.1, h2.2.1, by omega⟩, if_pos h2.2.2]
    · rw [if_neg h2, if_neg (fun q => by omega)]
theorem upd_upd (f : Nat → Int32) (k : Nat) (x y : Int32) : upd (upd f k x) k y = upd f k y := by
  funext j
  show (if j = k then y else (if j = k then x else f j)) = (if j = k then y else f j)
  by_cases h : j = k
  · rw [if_pos h, if_pos h]
  · rw [if_neg h, if_neg h, if_neg h]
theorem nI_neg1 {n : Nat} (h : n < 2147483648) : ¬ nI n = -1 := by
  intro q
  have h1 := nI_toInt (n := n) h
  rw [q] at h1
  have h2 : (-1 : Int32).toInt = -1 := by decide
  omega
/-- the call of MAP on a record; the pairs and the steps of the first i -/
def mpC (op nn rf rg : Nat → Int32) (i : Nat) : aT := callR op nn (rf i) (rg i) (nI 0)
def mpP (op nn rf rg : Nat → Int32) : Nat → List (Int32 × Int32)
  | 0 => []
  | i + 1 => mpP op nn rf rg i ++ (mpC op nn rf rg i).2.2.2
def mpS (op nn rf rg : Nat → Int32) : Nat → Nat
  | 0 => 0
  | i + 1 => mpS op nn rf rg i + (mpC op nn rf rg i).2.2.1
def mapR (op nn rf rg : Nat → Int32) (n : Nat) (r : Int32) : Prop :=
  (∃ i, i < n ∧ (mpC op nn rf rg i).1 = 0 ∧ (∀ x, x < i → (mpC op nn rf rg x).1 ≠ 0) ∧ r = nI i) ∨
  ((∀ x, x < n → (mpC op nn rf rg x).1 ≠ 0) ∧ 600 < (mpP op nn rf rg n).length ∧ r = nI 4000) ∨
  ((∀ x, x < n → (mpC op nn rf rg x).1 ≠ 0) ∧ (mpP op nn rf rg n).length ≤ 600 ∧ r = -1)
theorem mRun_len {op nn ar : Nat → Int32} : ∀ (fu k i h : Nat) (st lo : Nat → Int32) (P : List (Int32 × Int32)), (mRun op nn ar fu k i h st lo P).2.2.2.length ≤ P.length + fu := by
  intro fu
  induction fu with
  | zero => intros; exact Nat.le_refl _
  | succ fu ih =>
    intro k i h st lo P
    unfold mRun
    split
    · exact Nat.le_add_right _ _
    · split
      · exact Nat.le_add_right _ _
      · split
        · exact Nat.le_add_right _ _
        · refine Nat.le_trans (ih _ _ _ _ _ _) ?_
          unfold aPp
          split
          · rw [List.length_append, List.length_singleton]; omega
          · omega
theorem mp_len (op nn rf rg : Nat → Int32) (i : Nat) : nI (mpP op nn rf rg i).length + nI (mpC op nn rf rg i).2.2.2.length = nI (mpP op nn rf rg (i + 1)).length := by
  rw [nI_add]
  congr 1
  exact List.length_append.symm
theorem mp_len_le (op nn rf rg : Nat → Int32) (i : Nat) : (mpP op nn rf rg i).length ≤ 300 * i := by
  induction i with
  | zero => exact Nat.le_refl 0
  | succ i ih =>
    show (mpP op nn rf rg i ++ (mpC op nn rf rg i).2.2.2).length ≤ _
    rw [List.length_append]
    have : (mpC op nn rf rg i).2.2.2.length ≤ 0 + 300 := mRun_len _ _ _ _ _ _ _
    omega
theorem mp_split {op nn rf rg : Nat → Int32} {sz i : Nat} {sx : Nat → Nat} (hsz : 1 ≤ sz) (h : ∀ s, s * sz < i → sx s = rwN 600 0 (mpP op nn rf rg (min ((s + 1) * sz) i))) :
    ∀ s, s * sz < i + 1 → va_up sx (i / sz) (rwN 600 0 (mpP op nn rf rg (i + 1))) s = rwN 600 0 (mpP op nn rf rg (min ((s + 1) * sz) (i + 1))) := by
  intro s hs
  show (if s = i / sz then _ else sx s) = _
  have hd : i / sz * sz ≤ i := Nat.div_mul_le_self i sz
  have hm : i < (i / sz + 1) * sz := by
    have := Nat.lt_div_mul_add (a := i) (b := sz) (by omega)
    rw [Nat.add_mul, Nat.one_mul]; omega
  by_cases e : s = i / sz
  · rw [if_pos e, e, show min ((i / sz + 1) * sz) (i + 1) = i + 1 by omega]
  · rw [if_neg e]
    have hlt : s < i / sz := by
      rcases Nat.lt_trichotomy s (i / sz) with q | q | q
      · exact q
      · exact absurd q e
      · exfalso
        have : (i / sz + 1) * sz ≤ s * sz := Nat.mul_le_mul_right sz q
        omega
    have hle : (s + 1) * sz ≤ i / sz * sz := Nat.mul_le_mul_right sz hlt
    have hss : s * sz + sz = (s + 1) * sz := by rw [Nat.add_mul, Nat.one_mul]
    rw [h s (by omega), show min ((s + 1) * sz) i = (s + 1) * sz by omega, show min ((s + 1) * sz) (i + 1) = (s + 1) * sz by omega]
set_option maxHeartbeats 4000000 in
set_option maxRecDepth 100000 in
theorem forgetM (l_ : Launch) (E : zE) (m : Nat) (ma : Nat) (ml : Nat) (ms : Nat) (mp : Nat) (mt : Nat) (h : Nat) (an : Int32) (em : Nat) (mpk : Nat) (mpv : Nat) (n : Nat) (stp : Nat → Nat)  : zMv l_ E yX3_forget (zTs yX3_forget cX3_forget 1 none) ({ frames := 1, cells := 0, slots := 0, locals := 23 } : Room) [.ref m] [(m, zo 3 [.ref ma, .ref ml, .ref ms, .int (nI h), .int an, .ref mp, .int (nI em), .ref mt]), (mp, zo 4 [.ref mpk, .ref mpv, .int (nI n)]), (mt, zi E 4 (zn stp))] (fun w_ => (w_ = [(m, zo 3 [.ref ma, .ref ml, .ref ms, .int (nI h), .int an, .ref mp, .int (nI em), .ref mt]), (mp, zo 4 [.ref mpk, .ref mpv, .int (nI 0)]), (mt, zi E 4 (zn (fun _ => 0)))])) 0 0 := by
  refine zMv.of (cc := cX3_forget) (nL := 1) (ret := none) (by decide) rfl (Nat.le_of_ble_eq_true rfl) ?_
  intro p_ e_ s_ m_ args_ below_ meth_ c_ A_ C0 hin0
  have C0 : zC E p_ s_ m_ args_ meth_ c_ cX3_forget 1 none RX3 (zTs yX3_forget cX3_forget 1 none) A_ := C0
  refine z_eqL (L1 := [(0, .ref m)]) rfl ?_
  refine z_aload_n 1 C0 0 dX3_forget_0 rfl rfl rfl ?_
  refine z_get 4 C0 0 5 wz_3 rfl (by decide) (zTs_in wk_125) dX3_forget_1 rfl rfl rfl ?_
  refine z_iconst 5 C0 (v := (nI 0)) dX3_forget_4 rfl rfl ?_
  refine z_put 8 C0 1 2 [(m, zo 3 [.ref ma, .ref ml, .ref ms, .int (nI h), .int an, .ref mp, .int (nI em), .ref mt]), (mp, zo 4 [.ref mpk, .ref mpv, .int (nI 0)]), (mt, zi E 4 (zn stp))] wz_4 rfl (by decide) (zTs_in wk_49) tyX4 tyX4_ok nmX4 rfl rfl rfl rfl dX3_forget_5 rfl rfl (Nat.le_of_ble_eq_true rfl) rfl ?_
  refine z_aload_n 9 C0 0 dX3_forget_8 rfl rfl rfl ?_
  refine z_get 12 C0 0 7 wz_3 rfl (by decide) (zTs_in wk_129) dX3_forget_9 rfl rfl rfl ?_
  refine z_iconst 13 C0 (v := (nI 0)) dX3_forget_12 rfl rfl ?_
  refine z_callSv 16 C0 [2] [0, 1] [(m, zo 3 [.ref ma, .ref ml, .ref ms, .int (nI h), .int an, .ref mp, .int (nI em), .ref mt]), (mp, zo 4 [.ref mpk, .ref mpv, .int (nI 0)])] 0 0 (As := [.ref mt, .int (nI 0)]) (n := 2) (fill l_ E mt 4 (zn stp) (nI 0) (by omega)) (zGIS (fun _ => zTs_in) wk_253 wk_334 wk_252 wk_21) rfl ⟨by decide, by decide, by decide +kernel⟩ rfl rfl (by decide) rfl rfl (Nat.le_of_ble_eq_true rfl) ⟨by decide, by decide⟩ rfl rfl ⟨by decide, by decide⟩ ⟨by decide, by decide⟩ dX3_forget_13 rfl (fun w13 hB13 => ?_)
  obtain rfl := hB13
  refine z_perm [0, 1, 2] [(m, zo 3 [.ref ma, .ref ml, .ref ms, .int (nI h), .int an, .ref mp, .int (nI em), .ref mt]), (mp, zo 4 [.ref mpk, .ref mpv, .int (nI 0)]), (mt, zi E 4 (fun _ => (nI 0)))] (by decide) rfl ?_
  refine z_eq (L1 := [(0, .ref m)]) (st1 := []) (w1 := [(m, zo 3 [.ref ma, .ref ml, .ref ms, .int (nI h), .int an, .ref mp, .int (nI em), .ref mt]), (mp, zo 4 [.ref mpk, .ref mpv, .int (nI 0)]), (mt, zi E 4 (zn (fun _ => 0)))]) rfl rfl rfl ?_
  exact z_vret C0 rfl dX3_forget_16 rfl (by decide) (by decide)

set_option maxHeartbeats 4000000 in
set_option maxRecDepth 100000 in
theorem forget (l_ : Launch) (E : zE) (jb : Nat) (jse : Nat) (jst : Nat) (jjo : Nat) (jre : Nat) (jco : Nat) (m : Nat) (ma : Nat) (ml : Nat) (ms : Nat) (mp : Nat) (mt : Nat) (h : Nat) (an : Int32) (em : Nat) (mpk : Nat) (mpv : Nat) (n : Nat) (stp : Nat → Nat) (jok : Nat) (jov : Nat) (jn : Nat) (tk : Nat) (tv : Nat) (tn : Nat) (co : Nat → Int32) (err : Int32)  : zMv l_ E yX1_forget (zTs yX1_forget cX1_forget 2 none) ({ frames := 2, cells := 0, slots := 0, locals := 43 } : Room) [.ref jb, .int err] [(jb, zo 1 [.ref m, .ref jse, .ref jst, .ref jjo, .ref jre, .ref jco]), (m, zo 3 [.ref ma, .ref ml, .ref ms, .int (nI h), .int an, .ref mp, .int (nI em), .ref mt]), (mp, zo 4 [.ref mpk, .ref mpv, .int (nI n)]), (mt, zi E 4 (zn stp)), (jjo, zo 4 [.ref jok, .ref jov, .int (nI jn)]), (jre, zo 2 [.ref tk, .ref tv, .int (nI tn)]), (jco, zi E 8 co)] (fun w_ => (w_ = [(jb, zo 1 [.ref m, .ref jse, .ref jst, .ref jjo, .ref jre, .ref jco]), (m, zo 3 [.ref ma, .ref ml, .ref ms, .int (nI h), .int an, .ref mp, .int (nI em), .ref mt]), (mp, zo 4 [.ref mpk, .ref mpv, .int (nI 0)]), (mt, zi E 4 (zn (fun _ => 0))), (jjo, zo 4 [.ref jok, .ref jov, .int (nI 0)]), (jre, zo 2 [.ref tk, .ref tv, .int (nI 0)]), (jco, zi E 8 (upd (fun _ => (nI 0)) 0 err))])) 0 0 := by
  refine zMv.of (cc := cX1_forget) (nL := 2) (ret := none) (by decide) rfl (Nat.le_of_ble_eq_true rfl) ?_
  intro p_ e_ s_ m_ args_ below_ meth_ c_ A_ C0 hin0
  have C0 : zC E p_ s_ m_ args_ meth_ c_ cX1_forget 2 none RX1 (zTs yX1_forget cX1_forget 2 none) A_ := C0
  refine z_eqL (L1 := [(0, .ref jb), (1, .int err)]) rfl ?_
  refine z_aload_n 1 C0 0 dX1_forget_0 rfl rfl rfl ?_
  refine z_get 4 C0 0 0 wz_1 rfl (by decide) (zTs_in wk_175) dX1_forget_1 rfl rfl rfl ?_
  refine z_callVv 7 C0 [1, 2, 3] [0, 4, 5, 6] [(jb, zo 1 [.ref m, .ref jse, .ref jst, .ref jjo, .ref jre, .ref jco]), (jjo, zo 4 [.ref jok, .ref jov, .int (nI jn)]), (jre, zo 2 [.ref tk, .ref tv, .int (nI tn)]), (jco, zi E 8 co)] 0 0 (As := []) (T := TX3) (N := 8) (C := RX3) (ci := 3) (n := 0) 0 (forgetM l_ E m ma ml ms mp mt h an em mpk mpv n stp ) (zGIV (fun _ => zTs_in) wk_333 wk_330 wk_331 wk_332 wk_18) rfl ⟨rfl, by decide, by decide, by decide +kernel⟩ rfl rfl rfl rfl (by decide) rfl rfl (Nat.le_of_ble_eq_true rfl) ⟨by decide, by decide⟩ rfl rfl ⟨by decide, by decide⟩ ⟨by decide, by decide⟩ dX1_forget_4 rfl (fun w4 hB4 => ?_)
  obtain rfl := hB4
  refine z_perm [0, 4, 5, 6, 1, 2, 3] [(jb, zo 1 [.ref m, .ref jse, .ref jst, .ref jjo, .ref jre, .ref jco]), (m, zo 3 [.ref ma, .ref ml, .ref ms, .int (nI h), .int an, .ref mp, .int (nI em), .ref mt]), (mp, zo 4 [.ref mpk, .ref mpv, .int (nI 0)]), (mt, zi E 4 (zn (fun _ => 0))), (jjo, zo 4 [.ref jok, .ref jov, .int (nI jn)]), (jre, zo 2 [.ref tk, .ref tv, .int (nI tn)]), (jco, zi E 8 co)] (by decide) rfl ?_
  refine z_aload_n 8 C0 0 dX1_forget_7 rfl rfl rfl ?_
  refine z_get 11 C0 0 3 wz_1 rfl (by decide) (zTs_in wk_178) dX1_forget_8 rfl rfl rfl ?_
  refine z_iconst 12 C0 (v := (nI 0)) dX1_forget_11 rfl rfl ?_
  refine z_put 15 C0 4 2 [(jb, zo 1 [.ref m, .ref jse, .ref jst, .ref jjo, .ref jre, .ref jco]), (m, zo 3 [.ref ma, .ref ml, .ref ms, .int (nI h), .int an, .ref mp, .int (nI em), .ref mt]), (mp, zo 4 [.ref mpk, .ref mpv, .int (nI 0)]), (mt, zi E 4 (zn (fun _ => 0))), (jjo, zo 4 [.ref jok, .ref jov, .int (nI 0)]), (jre, zo 2 [.ref tk, .ref tv, .int (nI tn)]), (jco, zi E 8 co)] wz_4 rfl (by decide) (zTs_in wk_50) tyX4 tyX4_ok nmX4 rfl rfl rfl rfl dX1_forget_12 rfl rfl (Nat.le_of_ble_eq_true rfl) rfl ?_
  refine z_aload_n 16 C0 0 dX1_forget_15 rfl rfl rfl ?_
  refine z_get 19 C0 0 4 wz_1 rfl (by decide) (zTs_in wk_179) dX1_forget_16 rfl rfl rfl ?_
  refine z_iconst 20 C0 (v := (nI 0)) dX1_forget_19 rfl rfl ?_
  refine z_put 23 C0 5 2 [(jb, zo 1 [.ref m, .ref jse, .ref jst, .ref jjo, .ref jre, .ref jco]), (m, zo 3 [.ref ma, .ref ml, .ref ms, .int (nI h), .int an, .ref mp, .int (nI em), .ref mt]), (mp, zo 4 [.ref mpk, .ref mpv, .int (nI 0)]), (mt, zi E 4 (zn (fun _ => 0))), (jjo, zo 4 [.ref jok, .ref jov, .int (nI 0)]), (jre, zo 2 [.ref tk, .ref tv, .int (nI 0)]), (jco, zi E 8 co)] wz_2 rfl (by decide) (zTs_in wk_163) tyX2 tyX2_ok nmX2 rfl rfl rfl rfl dX1_forget_20 rfl rfl (Nat.le_of_ble_eq_true rfl) rfl ?_
  refine z_aload_n 24 C0 0 dX1_forget_23 rfl rfl rfl ?_
  refine z_get 27 C0 0 5 wz_1 rfl (by decide) (zTs_in wk_181) dX1_forget_24 rfl rfl rfl ?_
  refine z_iconst 28 C0 (v := (nI 0)) dX1_forget_27 rfl rfl ?_
  refine z_callSv 31 C0 [6] [0, 1, 2, 3, 4, 5] [(jb, zo 1 [.ref m, .ref jse, .ref jst, .ref jjo, .ref jre, .ref jco]), (m, zo 3 [.ref ma, .ref ml, .ref ms, .int (nI h), .int an, .ref mp, .int (nI em), .ref mt]), (mp, zo 4 [.ref mpk, .ref mpv, .int (nI 0)]), (mt, zi E 4 (zn (fun _ => 0))), (jjo, zo 4 [.ref jok, .ref jov, .int (nI 0)]), (jre, zo 2 [.ref tk, .ref tv, .int (nI 0)])] 0 0 (As := [.ref jco, .int (nI 0)]) (n := 2) (fill l_ E jco 8 co (nI 0) (by omega)) (zGIS (fun _ => zTs_in) wk_253 wk_335 wk_252 wk_21) rfl ⟨by decide, by decide, by decide +kernel⟩ rfl rfl (by decide) rfl rfl (Nat.le_of_ble_eq_true rfl) ⟨by decide, by decide⟩ rfl rfl ⟨by decide, by decide⟩ ⟨by decide, by decide⟩ dX1_forget_28 rfl (fun w28 hB28 => ?_)
  obtain rfl := hB28
  refine z_perm [0, 1, 2, 3, 4, 5, 6] [(jb, zo 1 [.ref m, .ref jse, .ref jst, .ref jjo, .ref jre, .ref jco]), (m, zo 3 [.ref ma, .ref ml, .ref ms, .int (nI h), .int an, .ref mp, .int (nI em), .ref mt]), (mp, zo 4 [.ref mpk, .ref mpv, .int (nI 0)]), (mt, zi E 4 (zn (fun _ => 0))), (jjo, zo 4 [.ref jok, .ref jov, .int (nI 0)]), (jre, zo 2 [.ref tk, .ref tv, .int (nI 0)]), (jco, zi E 8 (fun _ => (nI 0)))] (by decide) rfl ?_
  refine z_aload_n 32 C0 0 dX1_forget_31 rfl rfl rfl ?_
  refine z_get 35 C0 0 5 wz_1 rfl (by decide) (zTs_in wk_181) dX1_forget_32 rfl rfl rfl ?_
  refine z_iconst 36 C0 (v := (nI 0)) dX1_forget_35 rfl rfl ?_
  refine z_iload_n 37 C0 1 dX1_forget_36 rfl rfl rfl ?_
  refine z_iastN 38 C0 6 [(jb, zo 1 [.ref m, .ref jse, .ref jst, .ref jjo, .ref jre, .ref jco]), (m, zo 3 [.ref ma, .ref ml, .ref ms, .int (nI h), .int an, .ref mp, .int (nI em), .ref mt]), (mp, zo 4 [.ref mpk, .ref mpv, .int (nI 0)]), (mt, zi E 4 (zn (fun _ => 0))), (jjo, zo 4 [.ref jok, .ref jov, .int (nI 0)]), (jre, zo 2 [.ref tk, .ref tv, .int (nI 0)]), (jco, zi E 8 (upd (fun _ => (nI 0)) 0 err))] dX1_forget_37 rfl rfl (by omega) (by decide) rfl ?_
  exact z_vret C0 rfl dX1_forget_38 rfl (by decide) (by decide)

set_option maxHeartbeats 4000000 in
set_option maxRecDepth 100000 in
theorem mapRecords (l_ : Launch) (E : zE) (jb : Nat) (jse : Nat) (jst : Nat) (jjo : Nat) (jre : Nat) (jco : Nat) (m : Nat) (ma : Nat) (ml : Nat) (ms : Nat) (mp : Nat) (mt : Nat) (h : Nat) (an : Int32) (em : Nat) (ar : Nat → Int32) (lo : Nat → Int32) (st : Nat → Int32) (mpk : Nat) (mpv : Nat) (f : Nat → Int32) (g : Nat → Int32) (stp : Nat → Nat) (p : Nat) (po : Nat) (pn : Nat) (op : Nat → Int32) (nn : Nat → Int32) (len : Nat) (rr : Nat) (rrk : Nat) (rrv : Nat) (rf : Nat → Int32) (rg : Nat → Int32) (rn : Nat) (se : Nat → Nat) (co : Nat → Int32) (sz : Nat) (hG : Good 0 op nn len) (hlen : len ≤ 64) (hrn : rn ≤ 120) (hsz : 1 ≤ sz) (hsz2 : sz ≤ 16) (hco : co 1 = nI 0) : zMi l_ E yX1_mapRecords (zTs yX1_mapRecords cX1_mapRecords 6 (some .int)) ({ frames := 4, cells := 0, slots := 0, locals := 97 } : Room) [.ref jb, .ref p, .ref rr, .int (nI sz)] [(jb, zo 1 [.ref m, .ref jse, .ref jst, .ref jjo, .ref jre, .ref jco]), (m, zo 3 [.ref ma, .ref ml, .ref ms, .int (nI h), .int an, .ref mp, .int (nI em), .ref mt]), (ma, zi E 3 ar), (ml, zi E 4 lo), (ms, zi E 8 st), (mp, zo 4 [.ref mpk, .ref mpv, .int (nI 0)]), (mpk, zi E 600 f), (mpv, zi E 600 g), (mt, zi E 4 (zn stp)), (p, zo 5 [.int (nI 0), .ref po, .ref pn, .int (nI len)]), (po, zi E 64 op), (pn, zi E 64 nn), (rr, zo 4 [.ref rrk, .ref rrv, .int (nI rn)]), (rrk, zi E 120 rf), (rrv, zi E 120 rg), (jse, zi E 120 (zn se)), (jco, zi E 8 co)] (fun r_ w_ => ∃ h2 : Nat, ∃ an2 : Int32, ∃ em2 : Nat, ∃ ar2 : Nat → Int32, ∃ lo2 : Nat → Int32, ∃ st2 : Nat → Int32, ∃ stp2 : Nat → Nat, ∃ f2 : Nat → Int32, ∃ g2 : Nat → Int32, ∃ n2 : Nat, ∃ se2 : Nat → Nat, ∃ co2 : Nat → Int32, ∃ r2 : Int32, (r_ = r2 ∧ w_ = [(jb, zo 1 [.ref m, .ref jse, .ref jst, .ref jjo, .ref jre, .ref jco]), (m, zo 3 [.ref ma, .ref ml, .ref ms, .int (nI h2), .int an2, .ref mp, .int (nI em2), .ref mt]), (ma, zi E 3 ar2), (ml, zi E 4 lo2), (ms, zi E 8 st2), (mp, zo 4 [.ref mpk, .ref mpv, .int (nI n2)]), (mpk, zi E 600 f2), (mpv, zi E 600 g2), (mt, zi E 4 (zn stp2)), (p, zo 5 [.int (nI 0), .ref po, .ref pn, .int (nI len)]), (po, zi E 64 op), (pn, zi E 64 nn), (rr, zo 4 [.ref rrk, .ref rrv, .int (nI rn)]), (rrk, zi E 120 rf), (rrv, zi E 120 rg), (jse, zi E 120 (zn se2)), (jco, zi E 8 co2)]) ∧ (mapR op nn rf rg rn r2) ∧ (n2 ≤ 600) ∧ (r2 = -1 → f2 = rwK 600 0 f (mpP op nn rf rg rn) ∧ g2 = rwV 600 0 g (mpP op nn rf rg rn) ∧ n2 = rwN 600 0 (mpP op nn rf rg rn) ∧ stp2 = va_up stp 0 (stp 0 + mpS op nn rf rg rn) ∧ co2 = upd co 1 (nI (mpP op nn rf rg rn).length) ∧ ∀ s, s * sz < rn → se2 s = rwN 600 0 (mpP op nn rf rg (min ((s + 1) * sz) rn)))) 0 0 := by
  refine zMi.of (cc := cX1_mapRecords) (nL := 6) (ret := (some .int)) (by decide) rfl (Nat.le_of_ble_eq_true rfl) ?_
  intro p_ e_ s_ m_ args_ below_ meth_ c_ A_ C0 hin0
  have C0 : zC E p_ s_ m_ args_ meth_ c_ cX1_mapRecords 6 (some .int) RX1 (zTs yX1_mapRecords cX1_mapRecords 6 (some .int)) A_ := C0
  refine z_eqL (L1 := [(0, .ref jb), (1, .ref p), (2, .ref rr), (3, .int (nI sz))]) rfl ?_
  refine z_eq (L1 := [(0, .ref jb), (1, .ref p), (2, .ref rr), (3, .int (nI sz))]) (st1 := []) (w1 := [(jb, zo 1 [.ref m, .ref jse, .ref jst, .ref jjo, .ref jre, .ref jco]), (m, zo 3 [.ref ma, .ref ml, .ref ms, .int (nI h), .int an, .ref mp, .int (nI em), .ref mt]), (ma, zi E 3 ar), (ml, zi E 4 lo), (ms, zi E 8 st), (mp, zo 4 [.ref mpk, .ref mpv, .int (nI (rwN 600 0 (mpP op nn rf rg 0)))]), (mpk, zi E 600 (rwK 600 0 f (mpP op nn rf rg 0))), (mpv, zi E 600 (rwV 600 0 g (mpP op nn rf rg 0))), (mt, zi E 4 (zn stp)), (p, zo 5 [.int (nI 0), .ref po, .ref pn, .int (nI len)]), (po, zi E 64 op), (pn, zi E 64 nn), (rr, zo 4 [.ref rrk, .ref rrv, .int (nI rn)]), (rrk, zi E 120 rf), (rrv, zi E 120 rg), (jse, zi E 120 (zn se)), (jco, zi E 8 (upd co 1 (nI ((mpP op nn rf rg 0).length))))]) rfl rfl (by show _ = [_, _, _, _, _, (_, zo 4 [_, _, .int (nI (rwN 600 0 []))]), (_, zi E 600 (rwK 600 0 f [])), (_, zi E 600 (rwV 600 0 g [])), _, _, _, _, _, _, _, _, (_, zi E 8 (upd co 1 (nI 0)))]; rw [rwK_0, rwV_0, rwN_0 (Nat.zero_le 600), ← hco, upd_self]) ?_
  refine z_iconst 1 C0 (v := (nI 0)) dX1_mapRecords_0 rfl rfl ?_
  refine z_istore 3 C0 [1, 2, 3, 4, 0] [(0, .ref jb), (1, .ref p), (2, .ref rr), (3, .int (nI sz)), (4, .int (nI 0))] dX1_mapRecords_1 rfl (by decide) rfl ?_
  have CUT3 : ∀ (N3 : Nat) (i : Nat) (h : Nat) (an : Int32) (em : Nat) (ar : Nat → Int32) (lo : Nat → Int32) (st : Nat → Int32) (sp : Nat → Nat) (sx : Nat → Nat), (i ≤ rn) → (∀ x, x < i → (mpC op nn rf rg x).1 ≠ 0) → (sp = va_up stp 0 (stp 0 + mpS op nn rf rg i)) → (∀ s, s * sz < i → sx s = rwN 600 0 (mpP op nn rf rg (min ((s + 1) * sz) i))) → rn - i < N3 → Z E p_ l_ e_ ({ frames := 4, cells := 0, slots := 0, locals := 97 } : Room) s_ m_ args_ below_ meth_ c_ (MQ below_ (va_Qi (fun r_ w_ => ∃ h2 : Nat, ∃ an2 : Int32, ∃ em2 : Nat, ∃ ar2 : Nat → Int32, ∃ lo2 : Nat → Int32, ∃ st2 : Nat → Int32, ∃ stp2 : Nat → Nat, ∃ f2 : Nat → Int32, ∃ g2 : Nat → Int32, ∃ n2 : Nat, ∃ se2 : Nat → Nat, ∃ co2 : Nat → Int32, ∃ r2 : Int32, (r_ = r2 ∧ w_ = [(jb, zo 1 [.ref m, .ref jse, .ref jst, .ref jjo, .ref jre, .ref jco]), (m, zo 3 [.ref ma, .ref ml, .ref ms, .int (nI h2), .int an2, .ref mp, .int (nI em2), .ref mt]), (ma, zi E 3 ar2), (ml, zi E 4 lo2), (ms, zi E 8 st2), (mp, zo 4 [.ref mpk, .ref mpv, .int (nI n2)]), (mpk, zi E 600 f2), (mpv, zi E 600 g2), (mt, zi E 4 (zn stp2)), (p, zo 5 [.int (nI 0), .ref po, .ref pn, .int (nI len)]), (po, zi E 64 op), (pn, zi E 64 nn), (rr, zo 4 [.ref rrk, .ref rrv, .int (nI rn)]), (rrk, zi E 120 rf), (rrv, zi E 120 rg), (jse, zi E 120 (zn se2)), (jco, zi E 8 co2)]) ∧ (mapR op nn rf rg rn r2) ∧ (n2 ≤ 600) ∧ (r2 = -1 → f2 = rwK 600 0 f (mpP op nn rf rg rn) ∧ g2 = rwV 600 0 g (mpP op nn rf rg rn) ∧ n2 = rwN 600 0 (mpP op nn rf rg rn) ∧ stp2 = va_up stp 0 (stp 0 + mpS op nn rf rg rn) ∧ co2 = upd co 1 (nI (mpP op nn rf rg rn).length) ∧ ∀ s, s * sz < rn → se2 s = rwN 600 0 (mpP op nn rf rg (min ((s + 1) * sz) rn)))) (zPost E A_) A_) args_ s_ 0 0 A_) A_ 6 3 [(0, .ref jb), (1, .ref p), (2, .ref rr), (3, .int (nI sz)), (4, .int (nI i))] [] [(jb, zo 1 [.ref m, .ref jse, .ref jst, .ref jjo, .ref jre, .ref jco]), (m, zo 3 [.ref ma, .ref ml, .ref ms, .int (nI h), .int an, .ref mp, .int (nI em), .ref mt]), (ma, zi E 3 ar), (ml, zi E 4 lo), (ms, zi E 8 st), (mp, zo 4 [.ref mpk, .ref mpv, .int (nI (rwN 600 0 (mpP op nn rf rg i)))]), (mpk, zi E 600 (rwK 600 0 f (mpP op nn rf rg i))), (mpv, zi E 600 (rwV 600 0 g (mpP op nn rf rg i))), (mt, zi E 4 (zn sp)), (p, zo 5 [.int (nI 0), .ref po, .ref pn, .int (nI len)]), (po, zi E 64 op), (pn, zi E 64 nn), (rr, zo 4 [.ref rrk, .ref rrv, .int (nI rn)]), (rrk, zi E 120 rf), (rrv, zi E 120 rg), (jse, zi E 120 (zn sx)), (jco, zi E 8 (upd co 1 (nI ((mpP op nn rf rg i).length))))] 0 0 := by
    intro N3
    induction N3 with
    | zero => intro i h an em ar lo st sp sx hi hok hsp hsx hm3; exact absurd hm3 (Nat.not_lt_zero _)
    | succ N3 ih3 =>
      intro i h an em ar lo st sp sx hi hok hsp hsx hm3
      refine z_iload 5 C0 4 dX1_mapRecords_3 rfl rfl ?_
      refine z_aload_n 6 C0 2 dX1_mapRecords_5 rfl rfl rfl ?_
      refine z_get 9 C0 12 2 wz_4 rfl (by decide) (zTs_in wk_50) dX1_mapRecords_6 rfl rfl rfl ?_
      refine z_icmp_geN 12 86 C0 (by omega) (by omega) dX1_mapRecords_9 rfl (by decide) (fun k9 => ?_) (fun k9 => ?_)
      · skip
        have hpl := mp_len_le op nn rf rg i
        refine z_aload_n 87 C0 0 dX1_mapRecords_86 rfl rfl rfl ?_
        refine z_get 90 C0 0 5 wz_1 rfl (by decide) (zTs_in wk_181) dX1_mapRecords_87 rfl rfl rfl ?_
        refine z_iconst 91 C0 (v := (nI 1)) dX1_mapRecords_90 rfl rfl ?_
        refine z_ialdN 92 C0 16 (v := (nI ((mpP op nn rf rg i).length))) dX1_mapRecords_91 rfl rfl (by omega) (by decide) rfl ?_
        refine z_sipush 95 C0 (v := (nI 600)) dX1_mapRecords_92 rfl rfl ?_
        refine z_icmp_leN 98 104 C0 (by omega) (by decide) dX1_mapRecords_95 rfl (by decide) (fun k95 => ?_) (fun k95 => ?_)
        · skip
          refine z_iconst 105 C0 (v := (-1)) dX1_mapRecords_104 rfl (by decide) ?_
          obtain rfl : rn = i := by omega
          exact z_iret C0 rfl dX1_mapRecords_105 ⟨h, an, em, ar, lo, st, sp, (rwK 600 0 f (mpP op nn rf rg rn)), (rwV 600 0 g (mpP op nn rf rg rn)), (rwN 600 0 (mpP op nn rf rg rn)), sx, (upd co 1 (nI ((mpP op nn rf rg rn).length))), (-1), ⟨rfl, rfl⟩, (Or.inr (Or.inr ⟨hok, k95, rfl⟩)), (rwN_le (Nat.zero_le 600)), (fun _ => ⟨rfl, rfl, rfl, hsp, rfl, hsx⟩)⟩ (by decide) (by decide)
        · skip
          refine z_sipush 101 C0 (v := (nI 4000)) dX1_mapRecords_98 rfl rfl ?_
          refine z_goto 105 C0 dX1_mapRecords_101 (by decide) ?_
          exact z_iret C0 rfl dX1_mapRecords_105 ⟨h, an, em, ar, lo, st, sp, (rwK 600 0 f (mpP op nn rf rg i)), (rwV 600 0 g (mpP op nn rf rg i)), (rwN 600 0 (mpP op nn rf rg i)), sx, (upd co 1 (nI ((mpP op nn rf rg i).length))), (nI 4000), ⟨rfl, rfl⟩, (Or.inr (Or.inl ⟨fun x hx => hok x (by omega), by rw [show rn = i by omega]; exact k95, rfl⟩)), (rwN_le (Nat.zero_le 600)), (fun q => absurd q (nI_neg1 (by omega)))⟩ (by decide) (by decide)
      · skip
        refine z_aload_n 13 C0 0 dX1_mapRecords_12 rfl rfl rfl ?_
        refine z_get 16 C0 0 0 wz_1 rfl (by decide) (zTs_in wk_175) dX1_mapRecords_13 rfl rfl rfl ?_
        refine z_aload_n 17 C0 1 dX1_mapRecords_16 rfl rfl rfl ?_
        refine z_aload_n 18 C0 2 dX1_mapRecords_17 rfl rfl rfl ?_
        refine z_get 21 C0 12 0 wz_4 rfl (by decide) (zTs_in wk_45) dX1_mapRecords_18 rfl rfl rfl ?_
        refine z_iload 23 C0 4 dX1_mapRecords_21 rfl rfl ?_
        refine z_ialdN 24 C0 13 (v := (rf i)) dX1_mapRecords_23 rfl rfl (by omega) (by decide) rfl ?_
        refine z_aload_n 25 C0 2 dX1_mapRecords_24 rfl rfl rfl ?_
        refine z_get 28 C0 12 1 wz_4 rfl (by decide) (zTs_in wk_47) dX1_mapRecords_25 rfl rfl rfl ?_
        refine z_iload 30 C0 4 dX1_mapRecords_28 rfl rfl ?_
        refine z_ialdN 31 C0 14 (v := (rg i)) dX1_mapRecords_30 rfl rfl (by omega) (by decide) rfl ?_
        refine z_iconst 32 C0 (v := (nI 0)) dX1_mapRecords_31 rfl rfl ?_
        refine z_callVi 35 C0 [1, 2, 3, 4, 5, 6, 7, 8, 9, 10, 11] [0, 12, 13, 14, 15, 16] [(jb, zo 1 [.ref m, .ref jse, .ref jst, .ref jjo, .ref jre, .ref jco]), (rr, zo 4 [.ref rrk, .ref rrv, .int (nI rn)]), (rrk, zi E 120 rf), (rrv, zi E 120 rg), (jse, zi E 120 (zn sx)), (jco, zi E 8 (upd co 1 (nI ((mpP op nn rf rg i).length))))] 0 0 (As := [.ref p, .int (rf i), .int (rg i), .int (nI 0)]) (T := TX3) (N := 8) (C := RX3) (ci := 3) (n := 4) 0 (call l_ E m ma ml ms mp mt h an em ar lo st mpk mpv (rwK 600 0 f (mpP op nn rf rg i)) (rwV 600 0 g (mpP op nn rf rg i)) (rwN 600 0 (mpP op nn rf rg i)) sp p po pn 0 op nn len (rf i) (rg i) (nI 0) (hG) (by decide) (hlen) (rwN_le (Nat.zero_le 600))) (zGIV (fun _ => zTs_in) wk_343 wk_340 wk_341 wk_342 wk_18) rfl ⟨rfl, by decide, by decide, by decide +kernel⟩ rfl rfl rfl rfl (by decide) rfl rfl (Nat.le_of_ble_eq_true rfl) ⟨by decide, by decide⟩ rfl rfl ⟨by decide, by decide⟩ ⟨by decide, by decide⟩ dX1_mapRecords_32 rfl (fun r32 w32 hB32 => ?_)
        obtain ⟨h2_32, an2_32, ar2_32, lo2_32, st2_32, ⟨rfl, rfl⟩, fh_32, fa_32⟩ := hB32
        refine z_perm [0, 6, 7, 8, 9, 10, 11, 12, 13, 14, 15, 16, 1, 2, 3, 4, 5] [(jb, zo 1 [.ref m, .ref jse, .ref jst, .ref jjo, .ref jre, .ref jco]), (m, zo 3 [.ref ma, .ref ml, .ref ms, .int (nI h2_32), .int an2_32, .ref mp, .int (nI ((callR op nn (rf i) (rg i) (nI 0)).2.2.2.length)), .ref mt]), (ma, zi E 3 ar2_32), (ml, zi E 4 lo2_32), (ms, zi E 8 st2_32), (mp, zo 4 [.ref mpk, .ref mpv, .int (nI (rwN 600 (rwN 600 0 (mpP op nn rf rg i)) (callR op nn (rf i) (rg i) (nI 0)).2.2.2))]), (mpk, zi E 600 (rwK 600 (rwN 600 0 (mpP op nn rf rg i)) (rwK 600 0 f (mpP op nn rf rg i)) (callR op nn (rf i) (rg i) (nI 0)).2.2.2)), (mpv, zi E 600 (rwV 600 (rwN 600 0 (mpP op nn rf rg i)) (rwV 600 0 g (mpP op nn rf rg i)) (callR op nn (rf i) (rg i) (nI 0)).2.2.2)), (mt, zi E 4 (zn (stpU sp 0 (callR op nn (rf i) (rg i) (nI 0))))), (p, zo 5 [.int (nI 0), .ref po, .ref pn, .int (nI len)]), (po, zi E 64 op), (pn, zi E 64 nn), (rr, zo 4 [.ref rrk, .ref rrv, .int (nI rn)]), (rrk, zi E 120 rf), (rrv, zi E 120 rg), (jse, zi E 120 (zn sx)), (jco, zi E 8 (upd co 1 (nI ((mpP op nn rf rg i).length))))] (by decide) rfl ?_
        refine z_eq (L1 := [(0, .ref jb), (1, .ref p), (2, .ref rr), (3, .int (nI sz)), (4, .int (nI i))]) (st1 := [.int (nI ((callR op nn (rf i) (rg i) (nI 0)).1))]) (w1 := [(jb, zo 1 [.ref m, .ref jse, .ref jst, .ref jjo, .ref jre, .ref jco]), (m, zo 3 [.ref ma, .ref ml, .ref ms, .int (nI h2_32), .int an2_32, .ref mp, .int (nI ((callR op nn (rf i) (rg i) (nI 0)).2.2.2.length)), .ref mt]), (ma, zi E 3 ar2_32), (ml, zi E 4 lo2_32), (ms, zi E 8 st2_32), (mp, zo 4 [.ref mpk, .ref mpv, .int (nI (rwN 600 0 (mpP op nn rf rg (i + 1))))]), (mpk, zi E 600 (rwK 600 0 f (mpP op nn rf rg (i + 1)))), (mpv, zi E 600 (rwV 600 0 g (mpP op nn rf rg (i + 1)))), (mt, zi E 4 (zn (stpU sp 0 (callR op nn (rf i) (rg i) (nI 0))))), (p, zo 5 [.int (nI 0), .ref po, .ref pn, .int (nI len)]), (po, zi E 64 op), (pn, zi E 64 nn), (rr, zo 4 [.ref rrk, .ref rrv, .int (nI rn)]), (rrk, zi E 120 rf), (rrv, zi E 120 rg), (jse, zi E 120 (zn sx)), (jco, zi E 8 (upd co 1 (nI ((mpP op nn rf rg i).length))))]) rfl rfl (by rw [rwK_app (Nat.zero_le 600), rwV_app (Nat.zero_le 600), rwN_app (Nat.zero_le 600)]; rfl) ?_
        refine z_istore 37 C0 [1, 2, 3, 4, 5, 0] [(0, .ref jb), (1, .ref p), (2, .ref rr), (3, .int (nI sz)), (4, .int (nI i)), (5, .int (nI ((callR op nn (rf i) (rg i) (nI 0)).1)))] dX1_mapRecords_35 rfl (by decide) rfl ?_
        have hle := callR_le op nn (rf i) (rg i) (nI 0)
        refine z_iload 39 C0 5 dX1_mapRecords_37 rfl rfl ?_
        refine z_if_neN 42 45 C0 (by omega) dX1_mapRecords_39 rfl (by decide) (fun k39 => ?_) (fun k39 => ?_)
        · skip
          refine z_aload_n 46 C0 0 dX1_mapRecords_45 rfl rfl rfl ?_
          refine z_get 49 C0 0 5 wz_1 rfl (by decide) (zTs_in wk_181) dX1_mapRecords_46 rfl rfl rfl ?_
          refine z_iconst 50 C0 (v := (nI 1)) dX1_mapRecords_49 rfl rfl ?_
          refine z_dup2 51 C0 dX1_mapRecords_50 rfl rfl rfl ?_
          refine z_ialdN 52 C0 16 (v := (nI ((mpP op nn rf rg i).length))) dX1_mapRecords_51 rfl rfl (by omega) (by decide) rfl ?_
          refine z_aload_n 53 C0 0 dX1_mapRecords_52 rfl rfl rfl ?_
          refine z_get 56 C0 0 0 wz_1 rfl (by decide) (zTs_in wk_175) dX1_mapRecords_53 rfl rfl rfl ?_
          refine z_get 59 C0 1 6 wz_3 rfl (by decide) (zTs_in wk_128) dX1_mapRecords_56 rfl rfl rfl ?_
          refine z_iadd 60 C0 (v := (nI ((mpP op nn rf rg (i + 1)).length))) dX1_mapRecords_59 rfl (mp_len _ _ _ _ _) ?_
          refine z_iastN 61 C0 16 [(jb, zo 1 [.ref m, .ref jse, .ref jst, .ref jjo, .ref jre, .ref jco]), (m, zo 3 [.ref ma, .ref ml, .ref ms, .int (nI h2_32), .int an2_32, .ref mp, .int (nI ((callR op nn (rf i) (rg i) (nI 0)).2.2.2.length)), .ref mt]), (ma, zi E 3 ar2_32), (ml, zi E 4 lo2_32), (ms, zi E 8 st2_32), (mp, zo 4 [.ref mpk, .ref mpv, .int (nI (rwN 600 0 (mpP op nn rf rg (i + 1))))]), (mpk, zi E 600 (rwK 600 0 f (mpP op nn rf rg (i + 1)))), (mpv, zi E 600 (rwV 600 0 g (mpP op nn rf rg (i + 1)))), (mt, zi E 4 (zn (stpU sp 0 (callR op nn (rf i) (rg i) (nI 0))))), (p, zo 5 [.int (nI 0), .ref po, .ref pn, .int (nI len)]), (po, zi E 64 op), (pn, zi E 64 nn), (rr, zo 4 [.ref rrk, .ref rrv, .int (nI rn)]), (rrk, zi E 120 rf), (rrv, zi E 120 rg), (jse, zi E 120 (zn sx)), (jco, zi E 8 (upd co 1 (nI ((mpP op nn rf rg (i + 1)).length))))] dX1_mapRecords_60 rfl rfl (by omega) (by decide) (by rw [upd_upd]; rfl) ?_
          refine z_aload_n 62 C0 0 dX1_mapRecords_61 rfl rfl rfl ?_
          refine z_get 65 C0 0 1 wz_1 rfl (by decide) (zTs_in wk_176) dX1_mapRecords_62 rfl rfl rfl ?_
          refine z_iload 67 C0 4 dX1_mapRecords_65 rfl rfl ?_
          refine z_iload_n 68 C0 3 dX1_mapRecords_67 rfl rfl rfl ?_
          refine z_idiv 69 C0 (v := (nI (i / sz))) dX1_mapRecords_68 rfl (nI_ne0 (by omega) (by omega)) (pk_div (by omega) (by omega) (by omega)) ?_
          refine z_aload_n 70 C0 0 dX1_mapRecords_69 rfl rfl rfl ?_
          refine z_get 73 C0 0 0 wz_1 rfl (by decide) (zTs_in wk_175) dX1_mapRecords_70 rfl rfl rfl ?_
          refine z_get 76 C0 1 5 wz_3 rfl (by decide) (zTs_in wk_126) dX1_mapRecords_73 rfl rfl rfl ?_
          refine z_get 79 C0 5 2 wz_4 rfl (by decide) (zTs_in wk_50) dX1_mapRecords_76 rfl rfl rfl ?_
          refine z_iastN 80 C0 15 [(jb, zo 1 [.ref m, .ref jse, .ref jst, .ref jjo, .ref jre, .ref jco]), (m, zo 3 [.ref ma, .ref ml, .ref ms, .int (nI h2_32), .int an2_32, .ref mp, .int (nI ((callR op nn (rf i) (rg i) (nI 0)).2.2.2.length)), .ref mt]), (ma, zi E 3 ar2_32), (ml, zi E 4 lo2_32), (ms, zi E 8 st2_32), (mp, zo 4 [.ref mpk, .ref mpv, .int (nI (rwN 600 0 (mpP op nn rf rg (i + 1))))]), (mpk, zi E 600 (rwK 600 0 f (mpP op nn rf rg (i + 1)))), (mpv, zi E 600 (rwV 600 0 g (mpP op nn rf rg (i + 1)))), (mt, zi E 4 (zn (stpU sp 0 (callR op nn (rf i) (rg i) (nI 0))))), (p, zo 5 [.int (nI 0), .ref po, .ref pn, .int (nI len)]), (po, zi E 64 op), (pn, zi E 64 nn), (rr, zo 4 [.ref rrk, .ref rrv, .int (nI rn)]), (rrk, zi E 120 rf), (rrv, zi E 120 rg), (jse, zi E 120 (zn (va_up sx (i / sz) (rwN 600 0 (mpP op nn rf rg (i + 1)))))), (jco, zi E 8 (upd co 1 (nI ((mpP op nn rf rg (i + 1)).length))))] dX1_mapRecords_79 rfl rfl (by have : i / sz ≤ i := Nat.div_le_self i sz; omega) (by decide) (by rw [z_upN]; rfl) ?_
          refine z_iinc 83 C0 4 [1, 2, 3, 4, 0, 5] [(0, .ref jb), (1, .ref p), (2, .ref rr), (3, .int (nI sz)), (4, .int (nI (i + 1))), (5, .int (nI ((callR op nn (rf i) (rg i) (nI 0)).1)))] (v := (nI (i + 1))) dX1_mapRecords_80 rfl rfl (z_incN _ _) (by decide) rfl ?_
          refine z_goto 3 C0 dX1_mapRecords_83 (by decide) ?_
          refine z_loc [0, 1, 2, 3, 4] [(0, .ref jb), (1, .ref p), (2, .ref rr), (3, .int (nI sz)), (4, .int (nI (i + 1)))] rfl ?_
          exact ih3 (i + 1) h2_32 an2_32 ((callR op nn (rf i) (rg i) (nI 0)).2.2.2.length) ar2_32 lo2_32 st2_32 (stpU sp 0 (callR op nn (rf i) (rg i) (nI 0))) (va_up sx (i / sz) (rwN 600 0 (mpP op nn rf rg (i + 1)))) (by omega) (fun x hx => by rcases Nat.lt_or_ge x i with q | q; exact hok x q; rw [show x = i by omega]; exact k39) (by unfold stpU; rw [if_neg k39, hsp]; exact z_up_add _ _ _ _) (mp_split hsz hsx) (by omega)
        · skip
          refine z_iload 44 C0 4 dX1_mapRecords_42 rfl rfl ?_
          exact z_iret C0 rfl dX1_mapRecords_44 ⟨h2_32, an2_32, ((mpC op nn rf rg i).2.2.2.length), ar2_32, lo2_32, st2_32, (stpU sp 0 (mpC op nn rf rg i)), (rwK 600 0 f (mpP op nn rf rg (i + 1))), (rwV 600 0 g (mpP op nn rf rg (i + 1))), (rwN 600 0 (mpP op nn rf rg (i + 1))), sx, (upd co 1 (nI ((mpP op nn rf rg i).length))), (nI i), ⟨rfl, rfl⟩, (Or.inl ⟨i, by omega, k39, hok, rfl⟩), (rwN_le (Nat.zero_le 600)), (fun q => absurd q (nI_neg1 (by omega)))⟩ (by decide) (by decide)
  exact CUT3 (rn - 0 + 1) 0 h an em ar lo st stp se (Nat.zero_le _) (fun x hx => absurd hx (Nat.not_lt_zero x)) (z_up_self _ _).symm (fun s hs => absurd hs (Nat.not_lt_zero _)) (Nat.lt_succ_self _)
