/-! a job, as mathematics -/
section JOB
variable {op nn rf rg : Nat → Int32}
theorem spl_lt {rn sz s : Nat} (hsz : 1 ≤ sz) (h : s < (rn + sz - 1) / sz) : s * sz < rn := by
  have h1 : (s + 1) * sz ≤ (rn + sz - 1) / sz * sz := Nat.mul_le_mul_right sz h
  have h2 := Nat.div_mul_le_self (rn + sz - 1) sz
  rw [Nat.add_mul, Nat.one_mul] at h1
  omega
theorem spl_le {rn sz : Nat} (hsz : 1 ≤ sz) : (rn + sz - 1) / sz ≤ rn := by
  rcases Nat.eq_zero_or_pos rn with h | h
  · subst h
    rw [Nat.div_eq_of_lt (by omega)]
    exact Nat.le_refl 0
  · apply Nat.le_of_not_lt
    intro q
    have := spl_lt hsz q
    have h2 : rn * 1 ≤ rn * sz := Nat.mul_le_mul_left rn hsz
    omega
theorem mpP_app (i d : Nat) : ∃ R, mpP op nn rf rg (i + d) = mpP op nn rf rg i ++ R := by
  induction d with
  | zero => exact ⟨[], (List.append_nil _).symm⟩
  | succ d ih =>
    obtain ⟨R, hR⟩ := ih
    refine ⟨R ++ (mpC op nn rf rg (i + d)).2.2.2, ?_⟩
    show mpP op nn rf rg (i + d) ++ (mpC op nn rf rg (i + d)).2.2.2 = _
    rw [hR, List.append_assoc]
theorem mpP_mono {i j : Nat} (h : i ≤ j) : (mpP op nn rf rg i).length ≤ (mpP op nn rf rg j).length := by
  obtain ⟨R, hR⟩ := mpP_app (op := op) (nn := nn) (rf := rf) (rg := rg) i (j - i)
  rw [show i + (j - i) = j by omega] at hR
  rw [hR, List.length_append]
  omega
end JOB
def PK (P : List (Int32 × Int32)) (j : Nat) : Int32 := (P.getD j (0, 0)).1
def PV (P : List (Int32 × Int32)) (j : Nat) : Int32 := (P.getD j (0, 0)).2
theorem tab_congr {f g f2 g2 : Nat → Int32} : ∀ {i c : Nat}, (∀ j, i ≤ j → j < i + c → f j = f2 j ∧ g j = g2 j) → tab f g i c = tab f2 g2 i c := by
  intro i c
  induction c generalizing i with
  | zero => intro _; rfl
  | succ c ih =>
    intro h
    rw [tab_s, tab_s, (h i (Nat.le_refl i) (by omega)).1, (h i (Nat.le_refl i) (by omega)).2, ih (fun j h1 h2 => h j (by omega) (by omega))]
theorem tab_get {f g : Nat → Int32} : ∀ {c i j : Nat}, (tab f g i c)[j]? = if j < c then some (f (i + j), g (i + j)) else none := by
  intro c
  induction c with
  | zero => intro i j; rw [if_neg (Nat.not_lt_zero j)]; rfl
  | succ c ih =>
    intro i j
    rw [tab_s]
    cases j with
    | zero => rw [List.getElem?_cons_zero, if_pos (Nat.succ_pos c)]; rfl
    | succ j =>
      rw [List.getElem?_cons_succ, ih, show i + 1 + j = i + (j + 1) by omega]
      by_cases h : j < c
      · rw [if_pos h, if_pos (by omega)]
      · rw [if_neg h, if_neg (by omega)]
theorem tab_PK (P : List (Int32 × Int32)) : tab (PK P) (PV P) 0 P.length = P := by
  apply List.ext_getElem?
  intro j
  rw [tab_get]
  by_cases h : j < P.length
  · rw [if_pos h, List.getElem?_eq_getElem h]
    show some ((P.getD (0 + j) (0, 0)).1, (P.getD (0 + j) (0, 0)).2) = some P[j]
    rw [Nat.zero_add, List.getD_eq_getElem?_getD, List.getElem?_eq_getElem h]
    rfl
  · rw [if_neg h, List.getElem?_eq_none (by omega)]
theorem rwK_PK {f : Nat → Int32} {P : List (Int32 × Int32)} {j : Nat} (h : P.length ≤ 600) (hj : j < P.length) : rwK 600 0 f P j = PK P j := by
  unfold rwK
  rw [if_pos ⟨Nat.zero_le j, by omega, by omega⟩]
  rfl
theorem rwV_PV {f : Nat → Int32} {P : List (Int32 × Int32)} {j : Nat} (h : P.length ≤ 600) (hj : j < P.length) : rwV 600 0 f P j = PV P j := by
  unfold rwV
  rw [if_pos ⟨Nat.zero_le j, by omega, by omega⟩]
  rfl
theorem rwN_len {P : List (Int32 × Int32)} (h : P.length ≤ 600) : rwN 600 0 P = P.length := by
  unfold rwN
  rw [if_pos (by omega), Nat.zero_add]
/-- where a split's pairs begin, among all pairs; and the pairs of a split -/
def cutP (op nn rf rg : Nat → Int32) (rn sz s : Nat) : Nat := (mpP op nn rf rg (min (s * sz) rn)).length
def spLs (op nn rf rg : Nat → Int32) (rn sz s : Nat) : List (Int32 × Int32) :=
  tab (PK (mpP op nn rf rg rn)) (PV (mpP op nn rf rg rn)) (cutP op nn rf rg rn sz s) (cutP op nn rf rg rn sz (s + 1) - cutP op nn rf rg rn sz s)
abbrev mgF : Type := Int32 → Int32 → Int32 → Option (Int32 × Nat)
def jnL (F : mgF) (Ls : Nat → List (Int32 × Int32)) : Nat → List (Int32 × Int32) → Nat → Prop
  | 0, J, t => J = [] ∧ t = 0
  | s + 1, J, t => ∃ J0 t0 M t1 L, jnL F Ls s J0 t0 ∧ mgL F (Ls s) (fun _ => none, 0) = some (M, t1) ∧ tblL M L ∧ J = J0 ++ L ∧ t = t0 + t1
def joinL (F : mgF) (Ls : Nat → List (Int32 × Int32)) (spl : Nat) (r : Int32) : Prop :=
  (∃ s, s < spl ∧ mgL F (Ls s) (fun _ => none, 0) = none ∧ (∀ x, x < s → mgL F (Ls x) (fun _ => none, 0) ≠ none) ∧ r = nI (1000 + s)) ∨ ((∀ x, x < spl → mgL F (Ls x) (fun _ => none, 0) ≠ none) ∧ r = -1)
theorem joinL_of {F : mgF} {f g : Nat → Int32} {se : Nat → Nat} {Ls : Nat → List (Int32 × Int32)} {spl : Nat} {r : Int32} (h : ∀ s, s < spl → tab f g (sst se s) (se s - sst se s) = Ls s) (hj : joinR F f g se spl r) : joinL F Ls spl r := by
  rcases hj with ⟨s, h1, h2, h3, h4⟩ | ⟨h1, h2⟩
  · refine Or.inl ⟨s, h1, ?_, fun x hx => ?_, h4⟩
    · rw [← h s h1]; exact Classical.byContradiction fun q => h2 q
    · rw [← h x (by omega)]; exact h3 x hx
  · refine Or.inr ⟨fun x hx => ?_, h2⟩
    rw [← h x hx]; exact h1 x hx
theorem jnL_of {F : mgF} {f g : Nat → Int32} {se : Nat → Nat} {Ls : Nat → List (Int32 × Int32)} : ∀ {spl : Nat} {J : List (Int32 × Int32)} {t : Nat}, (∀ s, s < spl → tab f g (sst se s) (se s - sst se s) = Ls s) → jnR F f g se spl J t → jnL F Ls spl J t
  | 0, _, _, _, h => h
  | s + 1, _, _, hs, ⟨J0, t0, M, t1, L, h1, h2, h3, h4, h5⟩ => ⟨J0, t0, M, t1, L, jnL_of (fun x hx => hs x (by omega)) h1, by rw [← hs s (Nat.lt_succ_self s)]; exact h2, h3, h4, h5⟩
abbrev oT : Type := Int32 × List (Int32 × Int32) × (Nat → Int32)
def cE (e : Int32) : Nat → Int32 := fun j => if j = 0 then e else nI 0
def cOK (a b c d e f g : Nat) : Nat → Int32 := fun j =>
  if j = 0 then -1 else if j = 1 then nI a else if j = 2 then nI b else if j = 3 then nI c else if j = 4 then nI d else if j = 5 then nI e else if j = 6 then nI f else nI g
def endO (op3 nn3 : Nat → Int32) (len3 : Nat) (kf vf : Nat → Int32) (n a b d e f : Nat) (o : oT) : Prop :=
  ∃ r3, ((len3 = 0 ∧ r3 = -1) ∨ (len3 ≠ 0 ∧ endR op3 nn3 kf vf n r3)) ∧
    ((r3 ≠ -1 ∧ o = (r3, [], cE r3)) ∨ (r3 = -1 ∧ o = (-1, (if len3 = 0 then tab kf vf 0 n else enK op3 nn3 kf vf n), cOK a b n d e f (if len3 = 0 then 0 else enS op3 nn3 kf vf n))))
def foldO (op2 nn2 op3 nn3 : Nat → Int32) (len3 : Nat) (V : List (Int32 × Int32)) (a d e : Nat) (o : oT) : Prop :=
  (mgL (pF op2 nn2) V (fun _ => none, 0) = none ∧ o = (nI 2000, [], cE (nI 2000))) ∨
  (∃ M t2 n kf vf, mgL (pF op2 nn2) V (fun _ => none, 0) = some (M, t2) ∧ tbl n kf vf M ∧ endO op3 nn3 len3 kf vf n a V.length d e t2 o)
def joinO (op1 nn1 : Nat → Int32) (len1 : Nat) (Ls : Nat → List (Int32 × Int32)) (spl : Nat) (P : List (Int32 × Int32)) (r1 : Int32) (V : List (Int32 × Int32)) (t1 : Nat) : Prop :=
  (len1 = 0 ∧ r1 = -1 ∧ V = P ∧ t1 = 0) ∨ (len1 ≠ 0 ∧ joinL (pF op1 nn1) Ls spl r1 ∧ (r1 = -1 → jnL (pF op1 nn1) Ls spl V t1))
/-- what comes out: the error, the results, the counts -/
def jobR (op0 nn0 op1 nn1 op2 nn2 op3 nn3 : Nat → Int32) (len1 len3 : Nat) (rf rg : Nat → Int32) (rn sz : Nat) (o : oT) : Prop :=
  ∃ r0, mapR op0 nn0 rf rg rn r0 ∧ ((r0 ≠ -1 ∧ o = (r0, [], cE r0)) ∨
    (r0 = -1 ∧ ∃ r1 V t1, joinO op1 nn1 len1 (spLs op0 nn0 rf rg rn sz) ((rn + sz - 1) / sz) (mpP op0 nn0 rf rg rn) r1 V t1 ∧
      ((r1 ≠ -1 ∧ o = (r1, [], cE r1)) ∨ (r1 = -1 ∧ foldO op2 nn2 op3 nn3 len3 V (mpP op0 nn0 rf rg rn).length (mpS op0 nn0 rf rg rn) t1 o))))
theorem mapR_ok {op nn rf rg : Nat → Int32} {n : Nat} {r : Int32} (hn : n < 2147483648) (h : mapR op nn rf rg n r) (hr : r = -1) : (∀ x, x < n → (mpC op nn rf rg x).1 ≠ 0) ∧ (mpP op nn rf rg n).length ≤ 600 := by
  rcases h with ⟨i, h1, -, -, h2⟩ | ⟨-, -, h2⟩ | ⟨h1, h2, -⟩
  · exact absurd (h2.symm.trans hr) (nI_neg1 (by omega))
  · exact absurd (h2.symm.trans hr) (nI_neg1 (by omega))
  · exact ⟨h1, h2⟩
/-- the splits' ends, as the class keeps them -/
theorem se_ok {op nn rf rg : Nat → Int32} {rn sz : Nat} {se : Nat → Nat} (hsz : 1 ≤ sz) (hP : (mpP op nn rf rg rn).length ≤ 600) (h : ∀ s, s * sz < rn → se s = rwN 600 0 (mpP op nn rf rg (min ((s + 1) * sz) rn))) :
    ∀ s, s < (rn + sz - 1) / sz → sst se s = cutP op nn rf rg rn sz s ∧ se s = cutP op nn rf rg rn sz (s + 1) ∧ cutP op nn rf rg rn sz s ≤ cutP op nn rf rg rn sz (s + 1) ∧ cutP op nn rf rg rn sz (s + 1) ≤ (mpP op nn rf rg rn).length := by
  intro s hs
  have h1 := spl_lt hsz hs
  have hle : ∀ s, (mpP op nn rf rg (min (s * sz) rn)).length ≤ (mpP op nn rf rg rn).length := fun s => mpP_mono (Nat.min_le_right _ _)
  have hse : ∀ s, s * sz < rn → se s = cutP op nn rf rg rn sz (s + 1) := fun s q => by
    rw [h s q]
    exact rwN_len (Nat.le_trans (hle (s + 1)) hP)
  have hm : cutP op nn rf rg rn sz s ≤ cutP op nn rf rg rn sz (s + 1) := mpP_mono (by
    have : s * sz ≤ (s + 1) * sz := Nat.mul_le_mul_right sz (Nat.le_succ s)
    omega)
  refine ⟨?_, hse s h1, hm, hle (s + 1)⟩
  cases s with
  | zero =>
    show 0 = (mpP op nn rf rg (min (0 * sz) rn)).length
    rw [Nat.zero_mul, Nat.zero_min]
    rfl
  | succ s =>
    exact hse s (by
      have : s * sz ≤ (s + 1) * sz := Nat.mul_le_mul_right sz (Nat.le_succ s)
      omega)
theorem spLs_of {op nn rf rg : Nat → Int32} {rn sz : Nat} {se : Nat → Nat} {f g : Nat → Int32} (hsz : 1 ≤ sz) (hP : (mpP op nn rf rg rn).length ≤ 600) (h : ∀ s, s * sz < rn → se s = rwN 600 0 (mpP op nn rf rg (min ((s + 1) * sz) rn))) :
    ∀ s, s < (rn + sz - 1) / sz → tab (rwK 600 0 f (mpP op nn rf rg rn)) (rwV 600 0 g (mpP op nn rf rg rn)) (sst se s) (se s - sst se s) = spLs op nn rf rg rn sz s := by
  intro s hs
  obtain ⟨h1, h2, h3, h4⟩ := se_ok hsz hP h s hs
  rw [h1, h2]
  exact tab_congr (fun j ha hb => ⟨rwK_PK hP (by omega), rwV_PV hP (by omega)⟩)
theorem se_hyp {op nn rf rg : Nat → Int32} {rn sz : Nat} {se : Nat → Nat} (hsz : 1 ≤ sz) (hP : (mpP op nn rf rg rn).length ≤ 600) (h : ∀ s, s * sz < rn → se s = rwN 600 0 (mpP op nn rf rg (min ((s + 1) * sz) rn))) :
    ∀ s, s < (rn + sz - 1) / sz → sst se s ≤ se s ∧ se s ≤ 600 := by
  intro s hs
  obtain ⟨h1, h2, h3, h4⟩ := se_ok hsz hP h s hs
  rw [h1, h2]
  exact ⟨h3, by omega⟩
