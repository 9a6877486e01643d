/-! keys by rising number, each with a value; a sum of values by keys -/
theorem i32_lt_of_nle {a b : Int32} (h : ¬ b ≤ a) : a < b := by rw [Int32.lt_iff_toInt_lt]; rw [Int32.le_iff_toInt_le] at h; omega
theorem i32_nlt_of_le {a b : Int32} (h : b ≤ a) : ¬ a < b := by rw [Int32.lt_iff_toInt_lt]; rw [Int32.le_iff_toInt_le] at h; omega
theorem i32_le_of_nlt {a b : Int32} (h : ¬ a < b) : b ≤ a := by rw [Int32.le_iff_toInt_le]; rw [Int32.lt_iff_toInt_lt] at h; omega
theorem i32_lt_trans {a b c : Int32} (h : a < b) (h2 : b < c) : a < c := by rw [Int32.lt_iff_toInt_lt] at *; omega
theorem i32_irr (a : Int32) : ¬ a < a := by rw [Int32.lt_iff_toInt_lt]; omega
theorem i32_tri {a b : Int32} (h : ¬ a < b) (h2 : ¬ b < a) : a = b := by
  rw [Int32.lt_iff_toInt_lt] at *
  exact Int32.toInt_inj.mp (by omega)
theorem i32_asym {a b : Int32} (h : a < b) : ¬ b < a := by rw [Int32.lt_iff_toInt_lt] at *; omega
def srt (n : Nat) (kf : Nat → Int32) : Prop := ∀ i j, i < j → j < n → kf i < kf j
/-- what there is in an array behind an insertion at j -/
def insA (f : Nat → Int32) (j n : Nat) (x : Int32) : Nat → Int32 := upd (va_cpy f f j (j + 1) (n - j)) j x
theorem insA_lo {f : Nat → Int32} {j n i : Nat} {x : Int32} (h : i < j) : insA f j n x i = f i := by
  show (if i = j then x else va_cpy f f j (j + 1) (n - j) i) = f i
  rw [if_neg (by omega)]
  exact pk_cpy_out (Or.inl (by omega))
theorem insA_at {f : Nat → Int32} {j n : Nat} {x : Int32} : insA f j n x j = x := by
  show (if j = j then x else _) = x
  rw [if_pos rfl]
theorem insA_hi {f : Nat → Int32} {j n i : Nat} {x : Int32} (h : j < i) (h2 : i ≤ n) : insA f j n x i = f (i - 1) := by
  show (if i = j then x else va_cpy f f j (j + 1) (n - j) i) = f (i - 1)
  rw [if_neg (by omega), pk_cpy_in (by omega) (by omega)]
  congr 1
  omega
abbrev mapT : Type := Int32 → Option Int32
def mset (M : mapT) (k v : Int32) : mapT := fun x => if x = k then some v else M x
theorem mset_at (M : mapT) (k v : Int32) : mset M k v k = some v := if_pos rfl
theorem mset_ne (M : mapT) (k v : Int32) {x : Int32} (h : x ≠ k) : mset M k v x = M x := if_neg h
/-- the table's rows hold the map -/
def tbl (n : Nat) (kf vf : Nat → Int32) (M : mapT) : Prop := srt n kf ∧ (∀ i, i < n → M (kf i) = some (vf i)) ∧ ∀ k v, M k = some v → ∃ i, i < n ∧ kf i = k
theorem tbl_0 (kf vf : Nat → Int32) : tbl 0 kf vf (fun _ => none) := ⟨fun i j _ h => absurd h (Nat.not_lt_zero j), fun i h => absurd h (Nat.not_lt_zero i), fun k v h => by cases h⟩
/-- how many keys are less -/
def plc (n : Nat) (kf : Nat → Int32) (key : Int32) (j : Nat) : Prop := j ≤ n ∧ (∀ i, i < j → kf i < key) ∧ ∀ i, j ≤ i → i < n → ¬ kf i < key
theorem tbl_none {n : Nat} {kf vf : Nat → Int32} {M : mapT} {key : Int32} {j : Nat} (h : tbl n kf vf M) (hp : plc n kf key j) (hn : ¬ (j < n ∧ kf j = key)) : M key = none := by
  cases hm : M key with
  | none => rfl
  | some v =>
    obtain ⟨i, hi, hk⟩ := h.2.2 key v hm
    exfalso
    rcases Nat.lt_trichotomy i j with q | q | q
    · exact i32_irr key (hk ▸ hp.2.1 i q)
    · subst q; exact hn ⟨hi, hk⟩
    · exact hp.2.2 j (Nat.le_refl j) (by omega) (hk ▸ h.1 j i q hi)
theorem tbl_ins {n : Nat} {kf vf : Nat → Int32} {M : mapT} {key v : Int32} {j : Nat} (h : tbl n kf vf M) (hp : plc n kf key j) (hn : M key = none) : tbl (n + 1) (insA kf j n key) (insA vf j n v) (mset M key v) := by
  have hlt : ∀ i, j ≤ i → i < n → key < kf i := fun i h1 h2 => by
    apply Classical.byContradiction
    intro q
    have e := i32_tri (hp.2.2 i h1 h2) q
    have := h.2.1 i h2
    rw [e, hn] at this
    cases this
  have hne : ∀ i, i < n → kf i ≠ key := fun i hi e => by
    have := h.2.1 i hi
    rw [e, hn] at this
    cases this
  refine ⟨fun a b hab hb => ?_, fun i hi => ?_, fun k w hk => ?_⟩
  · rcases Nat.lt_trichotomy a j with q | q | q
    · rw [insA_lo q]
      rcases Nat.lt_trichotomy b j with r | r | r
      · rw [insA_lo r]; exact h.1 a b hab (by have := hp.1; omega)
      · subst r; rw [insA_at]; exact hp.2.1 a q
      · rw [insA_hi r (by omega)]; exact i32_lt_trans (hp.2.1 a q) (hlt (b - 1) (by omega) (by omega))
    · subst q; rw [insA_at, insA_hi hab (by omega)]; exact hlt (b - 1) (by omega) (by omega)
    · rw [insA_hi q (by omega), insA_hi (by omega) (by omega)]; exact h.1 (a - 1) (b - 1) (by omega) (by omega)
  · rcases Nat.lt_trichotomy i j with q | q | q
    · rw [insA_lo q, insA_lo q, mset_ne _ _ _ (hne i (by have := hp.1; omega))]; exact h.2.1 i (by have := hp.1; omega)
    · subst q; rw [insA_at, insA_at, mset_at]
    · rw [insA_hi q (by omega), insA_hi q (by omega), mset_ne _ _ _ (hne (i - 1) (by omega))]; exact h.2.1 (i - 1) (by omega)
  · by_cases e : k = key
    · subst e; exact ⟨j, by have := hp.1; omega, insA_at⟩
    · rw [mset_ne _ _ _ e] at hk
      obtain ⟨i, hi, hki⟩ := h.2.2 k w hk
      by_cases hij : i < j
      · exact ⟨i, by omega, by rw [insA_lo hij]; exact hki⟩
      · exact ⟨i + 1, by omega, by rw [insA_hi (by omega) (by omega)]; exact hki⟩
theorem tbl_upd {n : Nat} {kf vf : Nat → Int32} {M : mapT} {r : Int32} {j : Nat} (h : tbl n kf vf M) (hj : j < n) : tbl n kf (upd vf j r) (mset M (kf j) r) := by
  refine ⟨h.1, fun i hi => ?_, fun k w hk => ?_⟩
  · show mset M (kf j) r (kf i) = some (if i = j then r else vf i)
    by_cases e : i = j
    · subst e; rw [mset_at, if_pos rfl]
    · rw [if_neg e]
      have hne : kf i ≠ kf j := fun q => by
        rcases Nat.lt_trichotomy i j with a | a | a
        · exact i32_irr _ (q ▸ h.1 i j a hj)
        · exact e a
        · exact i32_irr _ (q ▸ h.1 j i a hi)
      rw [mset_ne _ _ _ hne]
      exact h.2.1 i hi
  · by_cases e : k = kf j
    · exact ⟨j, hj, e.symm⟩
    · rw [mset_ne _ _ _ e] at hk
      exact h.2.2 k w hk
/-- pairs with one key become one: the first value, then F (key, what is there, the next) -/
def mgL (F : Int32 → Int32 → Int32 → Option (Int32 × Nat)) : List (Int32 × Int32) → mapT × Nat → Option (mapT × Nat)
  | [], S => some S
  | x :: L, S => match S.1 x.1 with
    | none => mgL F L (mset S.1 x.1 x.2, S.2)
    | some a => match F x.1 a x.2 with
      | none => none
      | some r => mgL F L (mset S.1 x.1 r.1, S.2 + r.2)
theorem mgL_new {F : Int32 → Int32 → Int32 → Option (Int32 × Nat)} {k v : Int32} {L : List (Int32 × Int32)} {M : mapT} {s : Nat} (h : M k = none) : mgL F ((k, v) :: L) (M, s) = mgL F L (mset M k v, s) := by
  show (match M k with | none => _ | some a => _) = _
  rw [h]
theorem mgL_old {F : Int32 → Int32 → Int32 → Option (Int32 × Nat)} {k v a r : Int32} {t : Nat} {L : List (Int32 × Int32)} {M : mapT} {s : Nat} (h : M k = some a) (hF : F k a v = some (r, t)) : mgL F ((k, v) :: L) (M, s) = mgL F L (mset M k r, s + t) := by
  show (match M k with | none => _ | some a => _) = _
  rw [h]
  show (match F k a v with | none => _ | some r => _) = _
  rw [hF]
theorem mgL_fail {F : Int32 → Int32 → Int32 → Option (Int32 × Nat)} {k v a : Int32} {L : List (Int32 × Int32)} {M : mapT} {s : Nat} (h : M k = some a) (hF : F k a v = none) : mgL F ((k, v) :: L) (M, s) = none := by
  show (match M k with | none => _ | some a => _) = _
  rw [h]
  show (match F k a v with | none => _ | some r => _) = _
  rw [hF]
/-- a stretch of two rows as pairs -/
def tab (f g : Nat → Int32) (i c : Nat) : List (Int32 × Int32) := (List.range' i c).map (fun j => (f j, g j))
theorem tab_0 {f g : Nat → Int32} {i : Nat} : tab f g i 0 = [] := rfl
theorem tab_s {f g : Nat → Int32} {i c : Nat} : tab f g i (c + 1) = (f i, g i) :: tab f g (i + 1) c := by
  unfold tab
  rw [List.range'_succ, List.map_cons]
/-- a program of JOIN or FOLD, as a function -/
def pF (op nn : Nat → Int32) (k a b : Int32) : Option (Int32 × Nat) := if (callR op nn k a b).1 = 0 then none else some ((callR op nn k a b).2.1, (callR op nn k a b).2.2.1)
theorem pF_0 {op nn : Nat → Int32} {k a b : Int32} (h : (callR op nn k a b).1 = 0) : pF op nn k a b = none := if_pos h
theorem pF_1 {op nn : Nat → Int32} {k a b : Int32} (h : (callR op nn k a b).1 ≠ 0) : pF op nn k a b = some ((callR op nn k a b).2.1, (callR op nn k a b).2.2.1) := if_neg h
theorem mRun_le {op nn ar : Nat → Int32} : ∀ (fu k i h : Nat) (st lo : Nat → Int32) (P : List (Int32 × Int32)), (mRun op nn ar fu k i h st lo P).1 ≤ 2 := by
  intro fu
  induction fu with
  | zero => intros; exact Nat.zero_le 2
  | succ fu ih =>
    intro k i h st lo P
    unfold mRun
    split
    · exact (by decide : 1 ≤ 2)
    · split
      · exact Nat.le_refl 2
      · split
        · exact Nat.zero_le 2
        · exact ih _ _ _ _ _ _
theorem callR_le (op nn : Nat → Int32) (a b d : Int32) : (callR op nn a b d).1 ≤ 2 := mRun_le _ _ _ _ _ _ _
theorem mRun_nil {kd : Nat} {op nn : Nat → Int32} {len : Nat} {ar : Nat → Int32} (hG : Good kd op nn len) (hlen : len ≤ 64) (hkd : kd ≠ 0) :
    ∀ (fu k i h : Nat) (st lo : Nat → Int32), Rch kd op nn len i h → (mRun op nn ar fu k i h st lo []).2.2.2 = [] := by
  intro fu
  induction fu with
  | zero => intros; rfl
  | succ fu ih =>
    intro k i h st lo hR
    obtain ⟨hi, hh, o, ho⟩ := hG.at hR
    have hop := ho.1.2.1
    have h18 := ho.1.1
    by_cases h17 : o = 17
    · subst h17; rw [mRun_17 hop]
    by_cases h18' : o = 18
    · subst h18'; rw [mRun_18 hop]
    have h16 : o ≠ 16 := fun q => hkd (ho.1.2.2.1 q)
    rw [mRun_step hop h18 h17 h18' (fun q => h16 q.1) rfl]
    have e2 : aPp o h st [] = [] := by unfold aPp; rw [if_neg h16]
    rw [e2]
    refine ih _ _ _ _ _ ?_
    generalize hjn : (nn i).toNatClampNeg = jn
    by_cases hx : hasNx o
    · have hr := hR.next ho hx
      by_cases h15 : o = 15
      · subst h15
        obtain ⟨j, hj, hn⟩ := ho.1.2.2.2.2.2.2 (Or.inr rfl)
        have hjj : jn = j := by rw [← hjn, hn]; exact nI_clamp (by omega)
        unfold aAt
        rw [if_neg (by omega), if_pos rfl]
        by_cases hz : popV h st = 0
        · rw [if_pos hz, hjj]; exact hR.jump ho (Or.inr rfl) hj hn
        · rw [if_neg hz]; exact hr
      · unfold aAt
        rw [if_neg hx.1, if_neg h15]
        exact hr
    · have h14 : o = 14 := by
        apply Classical.byContradiction
        intro q
        exact hx ⟨q, h17, h18'⟩
      subst h14
      obtain ⟨j, hj, hn⟩ := ho.1.2.2.2.2.2.2 (Or.inl rfl)
      have hjj : jn = j := by rw [← hjn, hn]; exact nI_clamp (by omega)
      unfold aAt
      rw [if_pos rfl, hjj]
      exact hR.jump ho (Or.inl rfl) hj hn
theorem callR_nil {kd : Nat} {op nn : Nat → Int32} {len : Nat} (hG : Good kd op nn len) (hlen : len ≤ 64) (hkd : kd ≠ 0) (a b d : Int32) : (callR op nn a b d).2.2.2 = [] := mRun_nil hG hlen hkd _ _ _ _ _ _ Rch.zero
