/-! the checker: heights as bits, what is reached as a row -/
def hasB (m h : Nat) : Prop := m / 2 ^ h % 2 = 1
def bitc (m : Nat) : Nat := m % 2 + (m / 2 % 2 + (m / 4 % 2 + (m / 8 % 2 + (m / 16 % 2 + (m / 32 % 2 + (m / 64 % 2 + (m / 128 % 2 + m / 256 % 2)))))))
def bcE (x : Int32) : Int32 :=
  let x1 := x - ((x.toUInt32 >>> ((nI 1).toUInt32 &&& Int32.toUInt32 31)).toInt32 &&& nI 1431655765)
  let x2 := (x1 &&& nI 858993459) + ((x1.toUInt32 >>> ((nI 2).toUInt32 &&& Int32.toUInt32 31)).toInt32 &&& nI 858993459)
  let x3 := (x2 + (x2.toUInt32 >>> ((nI 4).toUInt32 &&& Int32.toUInt32 31)).toInt32) &&& nI 252645135
  let x4 := x3 + (x3.toUInt32 >>> ((nI 8).toUInt32 &&& Int32.toUInt32 31)).toInt32
  let x5 := x4 + (x4.toUInt32 >>> ((nI 16).toUInt32 &&& Int32.toUInt32 31)).toInt32
  x5 &&& nI 63
theorem bcE_eq : ∀ m, m < 512 → bcE (nI m) = nI (bitc m) := by decide +kernel
theorem hb_shr : ∀ m, m < 512 → ∀ h, h < 9 → (nI m >>> (nI h &&& 31)) &&& nI 1 = nI (m / 2 ^ h % 2) := by decide +kernel
theorem hb_or : ∀ m, m < 512 → ∀ h, h < 9 → m / 2 ^ h % 2 ≠ 1 → nI m ||| (nI 1 <<< (nI h &&& 31)) = nI (m + 2 ^ h) := by decide +kernel
theorem hb_add : ∀ m, m < 512 → ∀ h, h < 9 → m / 2 ^ h % 2 ≠ 1 → m + 2 ^ h < 512 ∧ bitc (m + 2 ^ h) = bitc m + 1 ∧ (m + 2 ^ h) / 2 ^ h % 2 = 1 := by decide +kernel
theorem all3 {f : Nat → Nat → Nat → Bool} (h0 : ((List.range 512).all fun m => (List.range 9).all fun h => (List.range 9).all fun k => f m h k) = true) {m h k : Nat} (hm : m < 512) (hh : h < 9) (hk : k < 9) : f m h k = true := by
  have h1 := List.all_eq_true.mp h0 m (List.mem_range.mpr hm)
  have h2 := List.all_eq_true.mp h1 _ (List.mem_range.mpr hh)
  exact List.all_eq_true.mp h2 _ (List.mem_range.mpr hk)
theorem hb_add2 : ∀ m, m < 512 → ∀ h, h < 9 → ∀ k, k < 9 → m / 2 ^ h % 2 ≠ 1 → k ≠ h → (m + 2 ^ h) / 2 ^ k % 2 = m / 2 ^ k % 2 := by
  intro m hm h hh k hk h1 h2
  have := all3 (f := fun m h k => decide (m / 2 ^ h % 2 = 1) || decide (k = h) || decide ((m + 2 ^ h) / 2 ^ k % 2 = m / 2 ^ k % 2)) (by decide +kernel) hm hh hk
  simp only [Bool.or_eq_true, decide_eq_true_eq] at this
  rcases this with (q | q) | q
  · exact absurd q h1
  · exact absurd q h2
  · exact q
theorem hb_two : ∀ m, m < 512 → 1 < bitc m → ∃ h, h < 9 ∧ ∃ k, k < 9 ∧ h ≠ k ∧ m / 2 ^ h % 2 = 1 ∧ m / 2 ^ k % 2 = 1 := by decide +kernel
theorem hb_one : ∀ m, m < 512 → ∀ h, h < 9 → ∀ k, k < 9 → ¬ 1 < bitc m → m / 2 ^ h % 2 = 1 → m / 2 ^ k % 2 = 1 → h = k := by
  intro m hm h hh k hk h1 h2 h3
  have := all3 (f := fun m h k => decide (1 < bitc m) || !decide (m / 2 ^ h % 2 = 1) || !decide (m / 2 ^ k % 2 = 1) || decide (h = k)) (by decide +kernel) hm hh hk
  simp only [Bool.or_eq_true, decide_eq_true_eq, Bool.not_eq_true', decide_eq_false_iff_not] at this
  rcases this with ((q | q) | q) | q
  · exact absurd q h1
  · exact absurd h2 q
  · exact absurd h3 q
  · exact q
theorem hb_ne : ∀ m, m < 512 → m ≠ 0 → ∃ h, h < 9 ∧ m / 2 ^ h % 2 = 1 := by decide +kernel
theorem hb_0 : ∀ h, ¬ hasB 0 h := by intro h; unfold hasB; rw [Nat.zero_div]; decide
theorem hb_lt {m h : Nat} (hm : m < 512) (hb : hasB m h) : h < 9 := by
  apply Nat.lt_of_not_le
  intro q
  unfold hasB at hb
  have h1 : 2 ^ 9 ≤ 2 ^ h := Nat.pow_le_pow_right (by decide) q
  rw [Nat.div_eq_of_lt (by omega)] at hb
  omega
def sumN (f : Nat → Nat) : Nat → Nat
  | 0 => 0
  | n + 1 => sumN f n + f n
theorem sumN_le {f : Nat → Nat} {c : Nat} : ∀ {n : Nat}, (∀ i, i < n → f i ≤ c) → sumN f n ≤ n * c
  | 0, _ => Nat.zero_le _
  | n + 1, h => by
    have h1 := sumN_le (n := n) (fun i hi => h i (by omega))
    have h2 := h n (Nat.lt_succ_self n)
    show sumN f n + f n ≤ (n + 1) * c
    rw [Nat.add_mul, Nat.one_mul]
    omega
theorem sumN_congr {f g : Nat → Nat} : ∀ {n : Nat}, (∀ i, i < n → f i = g i) → sumN f n = sumN g n
  | 0, _ => rfl
  | n + 1, h => by
    show sumN f n + f n = sumN g n + g n
    rw [sumN_congr (n := n) (fun i hi => h i (by omega)), h n (Nat.lt_succ_self n)]
theorem sumN_upd {f : Nat → Nat} {k v : Nat} : ∀ {n : Nat}, k < n → sumN (va_up f k v) n + f k = sumN f n + v
  | 0, h => absurd h (Nat.not_lt_zero k)
  | n + 1, h => by
    show sumN (va_up f k v) n + va_up f k v n + f k = sumN f n + f n + v
    by_cases e : n = k
    · subst e
      have h1 : sumN (va_up f n v) n = sumN f n := sumN_congr (fun i hi => by show (if i = n then v else f i) = f i; rw [if_neg (by omega)])
      have h2 : va_up f n v n = v := by show (if n = n then v else f n) = v; rw [if_pos rfl]
      omega
    · have h1 := sumN_upd (f := f) (k := k) (v := v) (n := n) (by omega)
      have h2 : va_up f k v n = f n := by show (if n = k then v else f n) = f n; rw [if_neg e]
      omega
theorem bitc_le (m : Nat) : bitc m ≤ 9 := by unfold bitc; omega
def cntB (hm : Nat → Nat) : Nat := sumN (fun i => bitc (hm i)) 64
theorem cntB_le (hm : Nat → Nat) : cntB hm ≤ 576 := sumN_le (c := 9) (n := 64) (fun i _ => bitc_le (hm i))
theorem cntB_add {hm : Nat → Nat} {i h : Nat} (hi : i < 64) (hh : h < 9) (hm5 : hm i < 512) (hn : ¬ hasB (hm i) h) : cntB (va_up hm i (hm i + 2 ^ h)) = cntB hm + 1 := by
  unfold cntB
  have h1 : (fun j => bitc (va_up hm i (hm i + 2 ^ h) j)) = va_up (fun j => bitc (hm j)) i (bitc (hm i + 2 ^ h)) := by
    funext j
    show bitc (if j = i then hm i + 2 ^ h else hm j) = if j = i then bitc (hm i + 2 ^ h) else bitc (hm j)
    split <;> rfl
  rw [h1]
  have h2 := sumN_upd (f := fun j => bitc (hm j)) (k := i) (v := bitc (hm i + 2 ^ h)) hi
  have h3 := (hb_add (hm i) hm5 h hh hn).2.1
  have h4 : (fun j => bitc (hm j)) i = bitc (hm i) := rfl
  omega
theorem cntB_lt {hm : Nat → Nat} {i h : Nat} (hi : i < 64) (hh : h < 9) (hm5 : hm i < 512) (hn : ¬ hasB (hm i) h) : cntB hm < 576 := by
  have h1 := cntB_add hi hh hm5 hn
  have h2 := cntB_le (va_up hm i (hm i + 2 ^ h))
  omega
/-- what the walk of the checker keeps -/
def QS (kd : Nat) (op nn : Nat → Int32) (len : Nat) (hm rr : Nat → Nat) (rc : Nat) : Prop :=
  (∀ j, j < rc → rr j < 576 ∧ hasB (hm (rr j / 9)) (rr j % 9) ∧ Rch kd op nn len (rr j / 9) (rr j % 9)) ∧ (∀ i h, i < 64 → hasB (hm i) h → ∃ j, j < rc ∧ rr j = i * 9 + h) ∧ rc = cntB hm ∧ ∀ i, hm i < 512
def QE (hm rr : Nat → Nat) (rc : Nat) (hm2 rr2 : Nat → Nat) (rc2 : Nat) : Prop := rc ≤ rc2 ∧ (∀ j, j < rc → rr2 j = rr j) ∧ ∀ i h, hasB (hm i) h → hasB (hm2 i) h
theorem QE.rf {hm rr : Nat → Nat} {rc : Nat} : QE hm rr rc hm rr rc := ⟨Nat.le_refl _, fun _ _ => rfl, fun _ _ h => h⟩
theorem QE.trans {hm rr hm2 rr2 hm3 rr3 : Nat → Nat} {rc rc2 rc3 : Nat} (a : QE hm rr rc hm2 rr2 rc2) (b : QE hm2 rr2 rc2 hm3 rr3 rc3) : QE hm rr rc hm3 rr3 rc3 :=
  ⟨Nat.le_trans a.1 b.1, fun j hj => (b.2.1 j (Nat.lt_of_lt_of_le hj a.1)).trans (a.2.1 j hj), fun i h q => b.2.2 i h (a.2.2 i h q)⟩
theorem QS.add {kd : Nat} {op nn : Nat → Int32} {len : Nat} {hm rr : Nat → Nat} {rc i h : Nat} (hQ : QS kd op nn len hm rr rc) (hi : i < 64) (hh : h < 9) (hn : ¬ hasB (hm i) h) (hR : Rch kd op nn len i h) :
    QS kd op nn len (va_up hm i (hm i + 2 ^ h)) (va_up rr rc (i * 9 + h)) (rc + 1) ∧ QE hm rr rc (va_up hm i (hm i + 2 ^ h)) (va_up rr rc (i * 9 + h)) (rc + 1) ∧ hasB (va_up hm i (hm i + 2 ^ h) i) h := by
  obtain ⟨q1, q2, q3, q4⟩ := hQ
  have hA := hb_add (hm i) (q4 i) h hh hn
  have hat : va_up hm i (hm i + 2 ^ h) i = hm i + 2 ^ h := by show (if i = i then _ else _) = _; rw [if_pos rfl]
  have hne : ∀ x, x ≠ i → va_up hm i (hm i + 2 ^ h) x = hm x := fun x e => by show (if x = i then _ else _) = _; rw [if_neg e]
  have hk : ∀ x k, hasB (hm x) k → hasB (va_up hm i (hm i + 2 ^ h) x) k := fun x k q => by
    by_cases e : x = i
    · subst e
      rw [hat]
      have hk9 := hb_lt (q4 x) q
      by_cases e2 : k = h
      · subst e2; exact absurd q hn
      · unfold hasB; rw [hb_add2 (hm x) (q4 x) h hh k hk9 hn e2]; exact q
    · rw [hne x e]; exact q
  have hrc : va_up rr rc (i * 9 + h) rc = i * 9 + h := by show (if rc = rc then _ else _) = _; rw [if_pos rfl]
  have hrr : ∀ j, j < rc → va_up rr rc (i * 9 + h) j = rr j := fun j hj => by show (if j = rc then _ else _) = _; rw [if_neg (by omega)]
  have hd : (i * 9 + h) / 9 = i ∧ (i * 9 + h) % 9 = h := by omega
  have hat2 : hasB (va_up hm i (hm i + 2 ^ h) i) h := by rw [hat]; exact hA.2.2
  refine ⟨⟨fun j hj => ?_, fun x k hx q => ?_, ?_, fun x => ?_⟩, ⟨Nat.le_succ _, hrr, hk⟩, hat2⟩
  · by_cases e : j = rc
    · subst e
      rw [hrc, hd.1, hd.2]
      exact ⟨by omega, hat2, hR⟩
    · rw [hrr j (by omega)]
      obtain ⟨a, b, c⟩ := q1 j (by omega)
      exact ⟨a, hk _ _ b, c⟩
  · by_cases e : x = i ∧ k = h
    · obtain ⟨rfl, rfl⟩ := e
      exact ⟨rc, Nat.lt_succ_self rc, hrc⟩
    · have hold : hasB (hm x) k := by
        by_cases ex : x = i
        · subst ex
          rw [hat] at q
          have hk9 := hb_lt hA.1 q
          unfold hasB at q ⊢
          rw [hb_add2 (hm x) (q4 x) h hh k hk9 hn (fun z => e ⟨rfl, z⟩)] at q
          exact q
        · rw [hne x ex] at q; exact q
      obtain ⟨j, hj, hjr⟩ := q2 x k hx hold
      exact ⟨j, by omega, by rw [hrr j hj]; exact hjr⟩
  · rw [cntB_add hi hh (q4 i) hn, q3]
  · by_cases e : x = i
    · subst e; rw [hat]; exact hA.1
    · rw [hne x e]; exact q4 x
/-- ops as they stand -/
def pC (kd : Nat) (nn : Nat → Int32) (len i o : Nat) : Prop :=
  (o = 16 → kd = 0) ∧ (o = 18 → kd = 3) ∧ (o = 1 → ∃ j, j < nArg kd ∧ nn i = nI j) ∧ (o = 2 ∨ o = 3 → ∃ j, j < 4 ∧ nn i = nI j) ∧ (o = 14 ∨ o = 15 → ∃ j, j < len ∧ nn i = nI j)
theorem pOK_uniq {kd : Nat} {op nn : Nat → Int32} {len i o o2 : Nat} (ho : o ≤ 18) (hop : op i = nI o) (h : pOK kd op nn len i o2) : o2 = o := by
  have h1 := h.2.1
  rw [hop] at h1
  exact ((nI_eq (by omega) (by have := h.1; omega)).mp h1).symm
theorem mis_t {kd : Nat} {op nn : Nat → Int32} {len i o : Nat} (ho : o ≤ 18) (hop : op i = nI o) (h : ¬ pC kd nn len i o) : nI 1 = zb (¬ ∃ o, pOK kd op nn len i o) :=
  zb_tN (fun ⟨o2, h2⟩ => by
    have e := pOK_uniq ho hop h2
    subst e
    exact h h2.2.2)
theorem mis_f {kd : Nat} {op nn : Nat → Int32} {len i o : Nat} (ho : o ≤ 18) (hop : op i = nI o) (h : pC kd nn len i o) : nI 0 = zb (¬ ∃ o, pOK kd op nn len i o) :=
  zb_fN (fun q => q ⟨o, ho, hop, h⟩)
theorem nI_ltx {x : Int32} {M : Nat} (hM : M < 2147483648) (h : ¬ x < 0) (h2 : x < nI M) : ∃ j, j < M ∧ x = nI j := by
  obtain ⟨j, hj, rfl⟩ := nI_of h
  exact ⟨j, (nI_ltI (by omega) (by omega)).mp h2, rfl⟩
theorem zNeed_eq {o : Nat} (h : o ≤ 18) : zNeed o = nI (nNeed o) := by
  rcases le18 h with rfl | rfl | rfl | rfl | rfl | rfl | rfl | rfl | rfl | rfl | rfl | rfl | rfl | rfl | rfl | rfl | rfl | rfl | rfl <;> rfl
theorem gD_le {o : Nat} (h : o ≤ 18) : gD o ≤ nNeed o ∧ gU o ≤ 1 ∧ nNeed o ≤ 2 ∧ (o = 17 → gD o = 0) := by
  rcases le18 h with rfl | rfl | rfl | rfl | rfl | rfl | rfl | rfl | rfl | rfl | rfl | rfl | rfl | rfl | rfl | rfl | rfl | rfl | rfl <;> decide
theorem grow_eq {o h : Nat} (ho : o ≤ 18) (hh : gD o ≤ h) : nI h + zGrow o = nI (h + gU o - gD o) := by
  have h1 : ∀ d : Nat, d ≤ h → nI h + -(nI d) = nI (h - d) := fun d hd => by
    rw [← Int32.sub_eq_add_neg, pk_sub hd]
  rcases le18 ho with rfl | rfl | rfl | rfl | rfl | rfl | rfl | rfl | rfl | rfl | rfl | rfl | rfl | rfl | rfl | rfl | rfl | rfl | rfl
  · rw [show zGrow 0 = nI 1 by decide]; exact nI_add h 1
  · rw [show zGrow 1 = nI 1 by decide]; exact nI_add h 1
  · rw [show zGrow 2 = nI 1 by decide]; exact nI_add h 1
  · rw [show zGrow 3 = -(nI 1) by decide]; exact h1 1 hh
  · rw [show zGrow 4 = nI 1 by decide]; exact nI_add h 1
  · rw [show zGrow 5 = nI 0 by decide]; exact nI_add h 0
  · rw [show zGrow 6 = -(nI 1) by decide]; exact h1 1 hh
  · rw [show zGrow 7 = -(nI 1) by decide]; exact h1 1 hh
  · rw [show zGrow 8 = -(nI 1) by decide]; exact h1 1 hh
  · rw [show zGrow 9 = -(nI 1) by decide]; exact h1 1 hh
  · rw [show zGrow 10 = -(nI 1) by decide]; exact h1 1 hh
  · rw [show zGrow 11 = -(nI 1) by decide]; exact h1 1 hh
  · rw [show zGrow 12 = -(nI 1) by decide]; exact h1 1 hh
  · rw [show zGrow 13 = -(nI 1) by decide]; exact h1 1 hh
  · rw [show zGrow 14 = nI 0 by decide]; exact nI_add h 0
  · rw [show zGrow 15 = -(nI 1) by decide]; exact h1 1 hh
  · rw [show zGrow 16 = -(nI 2) by decide]; exact h1 2 hh
  · rw [show zGrow 17 = nI 0 by decide]; exact nI_add h 0
  · rw [show zGrow 18 = nI 0 by decide]; exact nI_add h 0
/-- the class's row of what is wrong, out of what is reached -/
theorem wr_mis {kd : Nat} {op nn : Nat → Int32} {len i : Nat} (h : ¬ ∃ o, pOK kd op nn len i o) : Wr kd op nn len i := Or.inl h
theorem wr_0 {kd : Nat} {op nn : Nat → Int32} {len i : Nat} (h : ∃ o, pOK kd op nn len i o) (hr : ∀ x, ¬ Rch kd op nn len i x) : ¬ Wr kd op nn len i := by
  rintro (q | ⟨x, o, q, -⟩ | ⟨x, y, -, q, -⟩)
  · exact q h
  · exact hr x q
  · exact hr x q
theorem wr_iff {kd : Nat} {op nn : Nat → Int32} {len i o : Nat} (ho : pOK kd op nn len i o) : Wr kd op nn len i ↔ (∃ h, Rch kd op nn len i h ∧ ¬ okS kd op nn len i h o) ∨ (∃ h h2, h ≠ h2 ∧ Rch kd op nn len i h ∧ Rch kd op nn len i h2) := by
  constructor
  · rintro (q | ⟨h, o2, h1, h2, h3⟩ | q)
    · exact absurd ⟨o, ho⟩ q
    · have e := pOK_uniq ho.1 ho.2.1 h2
      subst e
      exact Or.inl ⟨h, h1, h3⟩
    · exact Or.inr q
  · rintro (⟨h, h1, h2⟩ | q)
    · exact Or.inr (Or.inl ⟨h, o, h1, ho, h2⟩)
    · exact Or.inr (Or.inr q)
/-- the first wrong one -/
def fwR (kd : Nat) (op nn : Nat → Int32) (len : Nat) (r : Int32) : Prop :=
  (∃ i, i < len ∧ Wr kd op nn len i ∧ (∀ x, x < i → ¬ Wr kd op nn len x) ∧ r = nI i) ∨ ((∀ x, x < len → ¬ Wr kd op nn len x) ∧ r = -2)
