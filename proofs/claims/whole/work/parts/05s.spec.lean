/-! the small machine and the checker, as mathematics -/
def nArg (kd : Nat) : Nat := if kd = 1 ∨ kd = 2 then 3 else 2
def nNeed (o : Nat) : Nat := ([0, 0, 0, 1, 1, 2, 1, 2, 2, 2, 2, 2, 2, 2, 0, 1, 2, 1, 0] : List Nat).getD o 0
def gU (o : Nat) : Nat := ([1, 1, 1, 0, 1, 0, 0, 0, 0, 0, 0, 0, 0, 0, 0, 0, 0, 0, 0] : List Nat).getD o 0
def gD (o : Nat) : Nat := ([0, 0, 0, 1, 0, 0, 1, 1, 1, 1, 1, 1, 1, 1, 0, 1, 2, 0, 0] : List Nat).getD o 0
def pNeed (kd o : Nat) : Nat := if o = 17 ∧ kd = 0 then 0 else nNeed o
def hasNx (o : Nat) : Prop := o ≠ 14 ∧ o ≠ 17 ∧ o ≠ 18
def pOK (kd : Nat) (op nn : Nat → Int32) (len i o : Nat) : Prop :=
  o ≤ 18 ∧ op i = nI o ∧ (o = 16 → kd = 0) ∧ (o = 18 → kd = 3) ∧ (o = 1 → ∃ j, j < nArg kd ∧ nn i = nI j) ∧ (o = 2 ∨ o = 3 → ∃ j, j < 4 ∧ nn i = nI j) ∧ (o = 14 ∨ o = 15 → ∃ j, j < len ∧ nn i = nI j)
def okS (kd : Nat) (op nn : Nat → Int32) (len i h o : Nat) : Prop :=
  pOK kd op nn len i o ∧ (hasNx o → i + 1 < len) ∧ pNeed kd o ≤ h ∧ h + gU o - gD o ≤ 8
def Suc (kd : Nat) (op nn : Nat → Int32) (len i h i2 h2 : Nat) : Prop :=
  ∃ o, okS kd op nn len i h o ∧ h2 = h + gU o - gD o ∧ ((hasNx o ∧ i2 = i + 1) ∨ ((o = 14 ∨ o = 15) ∧ i2 < len ∧ nn i = nI i2))
/-- what can be reached: a place with a height -/
def Rch (kd : Nat) (op nn : Nat → Int32) (len i h : Nat) : Prop :=
  ∀ S : Nat → Nat → Prop, S 0 0 → (∀ i h i2 h2, S i h → Suc kd op nn len i h i2 h2 → S i2 h2) → S i h
def Wr (kd : Nat) (op nn : Nat → Int32) (len i : Nat) : Prop :=
  (¬ ∃ o, pOK kd op nn len i o) ∨ (∃ h o, Rch kd op nn len i h ∧ pOK kd op nn len i o ∧ ¬ okS kd op nn len i h o) ∨ (∃ h h2, h ≠ h2 ∧ Rch kd op nn len i h ∧ Rch kd op nn len i h2)
def Good (kd : Nat) (op nn : Nat → Int32) (len : Nat) : Prop := 0 < len ∧ ∀ i, i < len → ¬ Wr kd op nn len i
section MACH
variable {kd : Nat} {op nn : Nat → Int32} {len : Nat}
theorem Rch.zero : Rch kd op nn len 0 0 := fun _ h _ => h
theorem Rch.step {i h i2 h2 : Nat} (hR : Rch kd op nn len i h) (hs : Suc kd op nn len i h i2 h2) : Rch kd op nn len i2 h2 :=
  fun S h0 hS => hS i h i2 h2 (hR S h0 hS) hs
theorem Rch.next {i h o : Nat} (hR : Rch kd op nn len i h) (ho : okS kd op nn len i h o) (hx : hasNx o) : Rch kd op nn len (i + 1) (h + gU o - gD o) :=
  hR.step ⟨o, ho, rfl, Or.inl ⟨hx, rfl⟩⟩
theorem Rch.jump {i h o j : Nat} (hR : Rch kd op nn len i h) (ho : okS kd op nn len i h o) (hx : o = 14 ∨ o = 15) (hj : j < len) (hn : nn i = nI j) : Rch kd op nn len j (h + gU o - gD o) :=
  hR.step ⟨o, ho, rfl, Or.inr ⟨hx, hj, hn⟩⟩
theorem Rch.lt {i h : Nat} (h0 : 0 < len) (hR : Rch kd op nn len i h) : i < len ∧ h ≤ 8 := by
  refine hR (fun i h => i < len ∧ h ≤ 8) ⟨h0, Nat.zero_le 8⟩ ?_
  rintro i h i2 h2 ⟨-, -⟩ ⟨o, ho, rfl, hx⟩
  refine ⟨?_, ho.2.2.2⟩
  rcases hx with ⟨hx, rfl⟩ | ⟨-, hx, -⟩
  · exact ho.2.1 hx
  · exact hx
theorem Good.at {i h : Nat} (hG : Good kd op nn len) (hR : Rch kd op nn len i h) : i < len ∧ h ≤ 8 ∧ ∃ o, okS kd op nn len i h o := by
  obtain ⟨h1, h2⟩ := hR.lt hG.1
  refine ⟨h1, h2, ?_⟩
  have hw := hG.2 i h1
  have ho : ∃ o, pOK kd op nn len i o := Classical.byContradiction fun q => hw (Or.inl q)
  obtain ⟨o, ho⟩ := ho
  exact ⟨o, Classical.byContradiction fun q => hw (Or.inr (Or.inl ⟨h, o, hR, ho, q⟩))⟩
end MACH
/-- the top of a stack of h, 0 of none -/
def popV (h : Nat) (st : Nat → Int32) : Int32 := if h = 0 then 0 else st (h - 1)
theorem popV_s {h : Nat} {st : Nat → Int32} (hh : 1 ≤ h) : popV h st = st (h - 1) := if_neg (by omega)
/-- ops 7 to 13 -/
def cmb (o : Nat) (a b : Int32) : Int32 :=
  if o = 7 then a + b else if o = 8 then a - b else if o = 9 then a * b
  else if o = 10 then (if b = 0 then 0 else a / b) else if o = 11 then (if b = 0 then 0 else a - a / b * b)
  else if o = 12 then (if a < b then 1 else 0) else (if a = b then 1 else 0)
theorem cmb_div {a b : Int32} (h : ¬ b = 0) : a / b = cmb 10 a b := by unfold cmb; simp [h]
theorem cmb_rem {a b : Int32} (h : ¬ b = 0) : a - a / b * b = cmb 11 a b := by unfold cmb; simp [h]
theorem cmb_lt {a b : Int32} (h : ¬ b ≤ a) : nI 1 = cmb 12 a b := by
  have h2 : a < b := by rw [Int32.lt_iff_toInt_lt]; rw [Int32.le_iff_toInt_le] at h; omega
  unfold cmb; simp [h2]; rfl
theorem cmb_nlt {a b : Int32} (h : b ≤ a) : nI 0 = cmb 12 a b := by
  have h2 : ¬ a < b := by rw [Int32.lt_iff_toInt_lt]; rw [Int32.le_iff_toInt_le] at h; omega
  unfold cmb; simp [h2]; rfl
theorem cmb_eq {a b : Int32} (h : a = b) : nI 1 = cmb 13 a b := by unfold cmb; simp [h]; rfl
theorem cmb_ne {a b : Int32} (h : ¬ a = b) : nI 0 = cmb 13 a b := by unfold cmb; simp [h]; rfl
theorem upd_self (f : Nat → Int32) (k : Nat) : upd f k (f k) = f := by
  funext j
  show (if j = k then f k else f j) = f j
  by_cases h : j = k
  · rw [if_pos h, h]
  · rw [if_neg h]
/-- one step's effect: the stack, the locals, the next place, the pairs -/
def aSt (o : Nat) (n : Int32) (j h : Nat) (ar lo st : Nat → Int32) : Nat → Int32 :=
  if o = 0 then upd st h n else if o = 1 then upd st h (ar j) else if o = 2 then upd st h (lo j) else if o = 4 then upd st h (st (h - 1))
  else if o = 5 then upd (upd st (h - 2) (st (h - 1))) (h - 1) (st (h - 2))
  else if 7 ≤ o ∧ o ≤ 13 then upd st (h - 2) (cmb o (st (h - 2)) (st (h - 1))) else st
def aLo (o j h : Nat) (lo st : Nat → Int32) : Nat → Int32 := if o = 3 then upd lo j (st (h - 1)) else lo
def aAt (o j i h : Nat) (st : Nat → Int32) : Nat := if o = 14 then j else if o = 15 then (if popV h st = 0 then j else i + 1) else i + 1
def aPp (o h : Nat) (st : Nat → Int32) (P : List (Int32 × Int32)) : List (Int32 × Int32) := if o = 16 then P ++ [(st (h - 2), st (h - 1))] else P
abbrev aT : Type := Nat × Int32 × Nat × List (Int32 × Int32)
/-- a call: how it ends (0 it fails, 1 with 17, 2 with 18), its answer, its steps, its pairs -/
def mRun (op nn ar : Nat → Int32) : Nat → Nat → Nat → Nat → (Nat → Int32) → (Nat → Int32) → List (Int32 × Int32) → aT
  | 0, _, _, _, _, _, P => (0, 0, 0, P)
  | fu + 1, k, i, h, st, lo, P =>
    if (op i).toNatClampNeg = 17 then (1, popV h st, k + 1, P)
    else if (op i).toNatClampNeg = 18 then (2, popV h st, k + 1, P)
    else if (op i).toNatClampNeg = 16 ∧ 20 ≤ P.length then (0, 0, 0, P)
    else mRun op nn ar fu (k + 1) (aAt (op i).toNatClampNeg (nn i).toNatClampNeg i h st) (h + gU (op i).toNatClampNeg - gD (op i).toNatClampNeg)
      (aSt (op i).toNatClampNeg (nn i) (nn i).toNatClampNeg h ar lo st) (aLo (op i).toNatClampNeg (nn i).toNatClampNeg h lo st) (aPp (op i).toNatClampNeg h st P)
def argV (a b d : Int32) : Nat → Int32 := fun j => if j = 0 then a else if j = 1 then b else d
def callR (op nn : Nat → Int32) (a b d : Int32) : aT := mRun op nn (argV a b d) 300 0 0 0 (fun _ => 0) (fun _ => 0) []
section RUN
variable {op nn ar : Nat → Int32} {fu k i h j o : Nat} {st lo : Nat → Int32} {P : List (Int32 × Int32)}
theorem opcl (ho : op i = nI o) (h18 : o ≤ 18) : (op i).toNatClampNeg = o := by rw [ho]; exact nI_clamp (by omega)
theorem mRun_0 : mRun op nn ar 0 k i h st lo P = (0, 0, 0, P) := rfl
theorem mRun_17 (ho : op i = nI 17) : mRun op nn ar (fu + 1) k i h st lo P = (1, popV h st, k + 1, P) := by
  have h1 := opcl ho (by omega)
  unfold mRun
  rw [if_pos h1]
theorem mRun_18 (ho : op i = nI 18) : mRun op nn ar (fu + 1) k i h st lo P = (2, popV h st, k + 1, P) := by
  have h1 := opcl ho (by omega)
  unfold mRun
  rw [if_neg (by omega), if_pos h1]
theorem mRun_16 (ho : op i = nI 16) (hP : 20 ≤ P.length) : mRun op nn ar (fu + 1) k i h st lo P = (0, 0, 0, P) := by
  have h1 := opcl ho (by omega)
  unfold mRun
  rw [if_neg (by omega), if_neg (by omega), if_pos ⟨h1, hP⟩]
theorem mRun_step (ho : op i = nI o) (h18 : o ≤ 18) (h1 : o ≠ 17) (h2 : o ≠ 18) (h3 : ¬ (o = 16 ∧ 20 ≤ P.length)) (hj : (nn i).toNatClampNeg = j) : mRun op nn ar (fu + 1) k i h st lo P =
    mRun op nn ar fu (k + 1) (aAt o j i h st) (h + gU o - gD o) (aSt o (nn i) j h ar lo st) (aLo o j h lo st) (aPp o h st P) := by
  have h4 := opcl ho h18
  subst hj
  conv => lhs; unfold mRun
  rw [h4, if_neg h1, if_neg h2, if_neg h3]
end RUN
theorem le18 {o : Nat} (h : o ≤ 18) : o = 0 ∨ o = 1 ∨ o = 2 ∨ o = 3 ∨ o = 4 ∨ o = 5 ∨ o = 6 ∨ o = 7 ∨ o = 8 ∨ o = 9 ∨ o = 10 ∨ o = 11 ∨ o = 12 ∨ o = 13 ∨ o = 14 ∨ o = 15 ∨ o = 16 ∨ o = 17 ∨ o = 18 := by omega
theorem nArg_le (kd : Nat) : nArg kd ≤ 3 := by unfold nArg; split <;> omega
theorem agree_upd {s1 s2 : Nat → Int32} {k n : Nat} {v1 v2 : Int32} (hv : v1 = v2) (h : ∀ q, q < n → q ≠ k → s1 q = s2 q) : ∀ q, q < n → upd s1 k v1 q = upd s2 k v2 q := by
  intro q hq
  show (if q = k then v1 else s1 q) = (if q = k then v2 else s2 q)
  by_cases e : q = k
  · rw [if_pos e, if_pos e, hv]
  · rw [if_neg e, if_neg e, h q hq e]
theorem aSt_agree {o j h : Nat} {n : Int32} {ar ar2 lo lo2 st st2 : Nat → Int32} (h18 : o ≤ 18) (hn : nNeed o ≤ h) (hn2 : h + gU o - gD o ≤ 8) (hst : ∀ q, q < h → st q = st2 q) (hlo : o = 2 → lo j = lo2 j) (har : o = 1 → ar j = ar2 j) :
    ∀ q, q < h + gU o - gD o → aSt o n j h ar lo st q = aSt o n j h ar2 lo2 st2 q := by
  have hc : ∀ k, k = 7 ∨ k = 8 ∨ k = 9 ∨ k = 10 ∨ k = 11 ∨ k = 12 ∨ k = 13 → 2 ≤ h → ∀ q, q < h - 1 → upd st (h - 2) (cmb k (st (h - 2)) (st (h - 1))) q = upd st2 (h - 2) (cmb k (st2 (h - 2)) (st2 (h - 1))) q := by
    intro k _ h2
    exact agree_upd (by rw [hst (h - 2) (by omega), hst (h - 1) (by omega)]) (fun q hq _ => hst q (by omega))
  rcases le18 h18 with rfl | rfl | rfl | rfl | rfl | rfl | rfl | rfl | rfl | rfl | rfl | rfl | rfl | rfl | rfl | rfl | rfl | rfl | rfl
  · exact agree_upd (n := h + 1) rfl (fun q hq hne => hst q (by omega))
  · exact agree_upd (n := h + 1) (har rfl) (fun q hq hne => hst q (by omega))
  · exact agree_upd (n := h + 1) (hlo rfl) (fun q hq hne => hst q (by omega))
  · exact fun q hq => hst q (by have : q < h - 1 := hq; omega)
  · have h1 : 1 ≤ h := hn
    exact agree_upd (n := h + 1) (hst _ (by omega)) (fun q hq hne => hst q (by omega))
  · have h1 : 2 ≤ h := hn
    exact agree_upd (n := h) (hst _ (by omega)) (fun q hq _ => agree_upd (n := h) (hst _ (by omega)) (fun q hq _ => hst q hq) q hq)
  · exact fun q hq => hst q (by have : q < h - 1 := hq; omega)
  · exact hc 7 (by omega) hn
  · exact hc 8 (by omega) hn
  · exact hc 9 (by omega) hn
  · exact hc 10 (by omega) hn
  · exact hc 11 (by omega) hn
  · exact hc 12 (by omega) hn
  · exact hc 13 (by omega) hn
  · exact fun q hq => hst q hq
  · exact fun q hq => hst q (by have : q < h - 1 := hq; omega)
  · exact fun q hq => hst q (by have : q < h - 2 := hq; omega)
  · exact fun q hq => hst q hq
  · exact fun q hq => hst q hq
/-- what stands above the height, and in the arguments beyond, makes no difference -/
theorem mRun_congr {kd : Nat} {op nn : Nat → Int32} {len : Nat} {ar ar2 : Nat → Int32} (hG : Good kd op nn len) (hlen : len ≤ 64) (har : ∀ j, j < 3 → ar j = ar2 j) :
    ∀ (fu k i h : Nat) (st st2 lo lo2 : Nat → Int32) (P : List (Int32 × Int32)), Rch kd op nn len i h → (∀ j, j < h → st j = st2 j) → (∀ j, j < 4 → lo j = lo2 j) →
      mRun op nn ar fu k i h st lo P = mRun op nn ar2 fu k i h st2 lo2 P := by
  intro fu
  induction fu with
  | zero => intros; rfl
  | succ fu ih =>
    intro k i h st st2 lo lo2 P hR hst hlo
    obtain ⟨hi, hh, o, ho⟩ := hG.at hR
    have hop := ho.1.2.1
    have h18 := ho.1.1
    have hneed := ho.2.2.1
    have hup := ho.2.2.2
    have hpop : 1 ≤ h → popV h st = popV h st2 := fun h1 => by rw [popV_s h1, popV_s h1, hst _ (by omega)]
    have hpop2 : popV h st = popV h st2 := by
      by_cases h1 : 1 ≤ h
      · exact hpop h1
      · unfold popV; rw [if_pos (by omega), if_pos (by omega)]
    by_cases h17 : o = 17
    · subst h17; rw [mRun_17 hop, mRun_17 hop, hpop2]
    by_cases h18' : o = 18
    · subst h18'; rw [mRun_18 hop, mRun_18 hop, hpop2]
    by_cases h16 : o = 16 ∧ 20 ≤ P.length
    · obtain ⟨rfl, h20⟩ := h16; rw [mRun_16 hop h20, mRun_16 hop h20]
    rw [mRun_step hop h18 h17 h18' h16 rfl, mRun_step hop h18 h17 h18' h16 rfl]
    have hpn : pNeed kd o = nNeed o := by unfold pNeed; rw [if_neg (fun q => h17 q.1)]
    rw [hpn] at hneed
    generalize hjn : (nn i).toNatClampNeg = jn
    have e1 : aAt o jn i h st = aAt o jn i h st2 := by unfold aAt; rw [hpop2]
    have e2 : aPp o h st P = aPp o h st2 P := by
      unfold aPp
      by_cases h16' : o = 16
      · subst h16'
        have h2 : 2 ≤ h := hneed
        rw [if_pos rfl, if_pos rfl, hst _ (by omega), hst _ (by omega)]
      · rw [if_neg h16', if_neg h16']
    rw [e1, e2]
    have hj4 : o = 2 ∨ o = 3 → jn < 4 := fun q => by
      obtain ⟨j, hj, hn⟩ := ho.1.2.2.2.2.2.1 q
      rw [hn, nI_clamp (by omega)] at hjn
      omega
    have hj3 : o = 1 → jn < 3 := fun q => by
      obtain ⟨j, hj, hn⟩ := ho.1.2.2.2.2.1 q
      have := nArg_le kd
      rw [hn, nI_clamp (by omega)] at hjn
      omega
    refine ih (k + 1) _ _ _ _ _ _ _ ?_ ?_ ?_
    · by_cases hx : hasNx o
      · have hr := hR.next ho hx
        by_cases h15 : o = 15
        · subst h15
          obtain ⟨j, hj, hn⟩ := ho.1.2.2.2.2.2.2 (Or.inr rfl)
          have hjj : jn = j := by rw [← hjn, hn]; exact nI_clamp (by omega)
          unfold aAt
          rw [if_neg (by omega), if_pos rfl]
          by_cases hz : popV h st2 = 0
          · rw [if_pos hz, hjj]; exact hR.jump ho (Or.inr rfl) hj hn
          · rw [if_neg hz]; exact hr
        · unfold aAt
          rw [if_neg hx.1, if_neg h15]
          exact hr
      · have h14 : o = 14 := by
          apply Classical.byContradiction
          intro q
          exact hx ⟨q, h17, h18'⟩
        subst h14
        obtain ⟨j, hj, hn⟩ := ho.1.2.2.2.2.2.2 (Or.inl rfl)
        have hjj : jn = j := by rw [← hjn, hn]; exact nI_clamp (by omega)
        unfold aAt
        rw [if_pos rfl, hjj]
        exact hR.jump ho (Or.inl rfl) hj hn
    · intro j hj
      exact aSt_agree h18 hneed (by omega) hst (fun q => hlo _ (hj4 (Or.inl q))) (fun q => har _ (hj3 q)) j hj
    · intro j hj
      unfold aLo
      by_cases h3 : o = 3
      · subst h3
        have h1 : 1 ≤ h := hneed
        rw [if_pos rfl, if_pos rfl]
        show (if j = jn then _ else _) = (if j = jn then _ else _)
        by_cases hjj : j = jn
        · rw [if_pos hjj, if_pos hjj, hst _ (by omega)]
        · rw [if_neg hjj, if_neg hjj, hlo j hj]
      · rw [if_neg h3, if_neg h3, hlo j hj]
