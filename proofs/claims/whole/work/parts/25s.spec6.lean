/-! the reference's checker: a row of marks, 0 not reached, 1 reached, 2 gone on from -/
def fwI (kd : Nat) (op nn : Nat → Int32) (len : Nat) (rs wr : Nat → Nat) : Prop :=
  (∀ i h, i < len → h < 9 → rs (9 * i + h) ≠ 0 → Rch kd op nn len i h) ∧ (∀ i, i < len → wr i = 1 → Wr kd op nn len i) ∧
  (∀ i, i < len → (¬ ∃ o, pOK kd op nn len i o) → wr i = 1) ∧ rs 0 ≠ 0 ∧ (∀ j, rs j ≤ 2) ∧ ∀ j, wr j ≤ 1
def fwD (kd : Nat) (op nn : Nat → Int32) (len : Nat) (rs wr : Nat → Nat) (i h : Nat) : Prop :=
  (∀ i2 h2, Suc kd op nn len i h i2 h2 → rs (9 * i2 + h2) ≠ 0) ∧ ((∃ o, pOK kd op nn len i o ∧ ¬ okS kd op nn len i h o) → wr i = 1)
def fwP (kd : Nat) (op nn : Nat → Int32) (len : Nat) (rs wr : Nat → Nat) : Prop :=
  fwI kd op nn len rs wr ∧ ∀ i h, i < len → h < 9 → rs (9 * i + h) = 2 → fwD kd op nn len rs wr i h
def fwQ (kd : Nat) (op nn : Nat → Int32) (len : Nat) (rs wr : Nat → Nat) (a b : Nat) : Prop :=
  fwI kd op nn len rs wr ∧ ∀ i h, i < len → h < 9 → rs (9 * i + h) = 2 → (i = a ∧ h = b) ∨ fwD kd op nn len rs wr i h
def fwMu (len : Nat) (rs : Nat → Nat) : Nat := sumN (fun j => 2 - rs j) (9 * len)
def fwPS (rs wr : Nat → Nat) (n : Nat) : Prop :=
  ∀ i, i < n → (∀ h, h < 9 → rs (9 * i + h) ≠ 1) ∧ ∀ h1 h2, h1 < 9 → h2 < 9 → h1 ≠ h2 → rs (9 * i + h1) ≠ 0 → rs (9 * i + h2) ≠ 0 → wr i = 1
def fwH (kd : Nat) (op nn : Nat → Int32) (len : Nat) (rs wr : Nat → Nat) (i h c m : Nat) : Prop :=
  (1 ≤ c → ∃ x, x < h ∧ Rch kd op nn len i x) ∧ (m = 0 → (∀ x, x < h → rs (9 * i + x) ≠ 1) ∧ (c = 0 → ∀ x, x < h → rs (9 * i + x) = 0) ∧
    (c ≤ 1 → ∀ x y, x < h → y < h → rs (9 * i + x) ≠ 0 → rs (9 * i + y) ≠ 0 → x = y) ∧ (2 ≤ c → wr i = 1))
theorem vaup_at {α : Type} {f : Nat → α} {k : Nat} {x : α} : va_up f k x k = x := if_pos rfl
theorem vaup_ne {α : Type} {f : Nat → α} {k j : Nat} {x : α} (h : j ≠ k) : va_up f k x j = f j := if_neg h
theorem fwMu_up {len k v : Nat} {rs : Nat → Nat} (hk : k < 9 * len) (h1 : rs k < v) (h2 : v ≤ 2) : fwMu len (va_up rs k v) < fwMu len rs := by
  unfold fwMu
  have h3 : (fun j => 2 - va_up rs k v j) = va_up (fun j => 2 - rs j) k (2 - v) := by
    funext j
    show 2 - (if j = k then v else rs j) = if j = k then 2 - v else 2 - rs j
    split <;> rfl
  rw [h3]
  have h4 := sumN_upd (f := fun j => 2 - rs j) (k := k) (v := 2 - v) hk
  have h5 : (fun j => 2 - rs j) k = 2 - rs k := rfl
  omega
section FWS
variable {kd : Nat} {op nn : Nat → Int32} {len : Nat} {rs wr : Nat → Nat} {i h c m a b : Nat}
theorem fw_start {wr : Nat → Nat} (h0 : 0 < len) (hw : ∀ x, x < len → (wr x = 1 ↔ ¬ ∃ o, pOK kd op nn len x o)) (hl : ∀ x, wr x ≤ 1) : fwP kd op nn len (va_up (fun _ => 0) 0 1) wr := by
  have h1 : ∀ j, va_up (fun _ => 0) 0 1 j ≠ 0 → j = 0 := fun j hj => by
    apply Classical.byContradiction
    intro q
    rw [vaup_ne q] at hj
    exact hj rfl
  refine ⟨⟨fun x y hx hy hr => ?_, fun x hx hr => Or.inl ((hw x hx).mp hr), fun x hx hn => (hw x hx).mpr hn, ?_, fun j => ?_, hl⟩, fun x y hx hy hr => ?_⟩
  · have := h1 _ hr
    obtain rfl : x = 0 := by omega
    obtain rfl : y = 0 := by omega
    exact Rch.zero
  · rw [vaup_at]; decide
  · by_cases q : j = 0
    · subst q; rw [vaup_at]; decide
    · rw [vaup_ne q]; exact Nat.zero_le 2
  · have := h1 _ (by rw [hr]; decide)
    rw [this, vaup_at] at hr
    exact absurd hr (by decide)
theorem fwP.mark2 (hP : fwP kd op nn len rs wr) (hi : i < len) (hh : h < 9) (h1 : rs (9 * i + h) ≠ 0) : fwQ kd op nn len (va_up rs (9 * i + h) 2) wr i h := by
  obtain ⟨⟨j1, j2, j3, j4, j5, j6⟩, jd⟩ := hP
  have hz : ∀ j, rs j ≠ 0 → va_up rs (9 * i + h) 2 j ≠ 0 := fun j hj => by
    by_cases q : j = 9 * i + h
    · subst q; rw [vaup_at]; decide
    · rw [vaup_ne q]; exact hj
  refine ⟨⟨fun x y hx hy hr => ?_, j2, j3, hz 0 j4, fun j => ?_, j6⟩, fun x y hx hy hr => ?_⟩
  · by_cases q : 9 * x + y = 9 * i + h
    · refine j1 x y hx hy ?_
      rw [q]; exact h1
    · rw [vaup_ne q] at hr; exact j1 x y hx hy hr
  · by_cases q : j = 9 * i + h
    · subst q; rw [vaup_at]; decide
    · rw [vaup_ne q]; exact j5 j
  · by_cases q : 9 * x + y = 9 * i + h
    · exact Or.inl (by omega)
    · rw [vaup_ne q] at hr
      have hd := jd x y hx hy hr
      exact Or.inr ⟨fun i2 h2 hs => hz _ (hd.1 i2 h2 hs), hd.2⟩
theorem fwQ.mark1 (hQ : fwQ kd op nn len rs wr a b) (hi : i < len) (hh : h < 9) (hR : Rch kd op nn len i h) (h1 : rs (9 * i + h) = 0) : fwQ kd op nn len (va_up rs (9 * i + h) 1) wr a b := by
  obtain ⟨⟨j1, j2, j3, j4, j5, j6⟩, jd⟩ := hQ
  have hz : ∀ j, rs j ≠ 0 → va_up rs (9 * i + h) 1 j ≠ 0 := fun j hj => by
    by_cases q : j = 9 * i + h
    · subst q; rw [vaup_at]; decide
    · rw [vaup_ne q]; exact hj
  refine ⟨⟨fun x y hx hy hr => ?_, j2, j3, hz 0 j4, fun j => ?_, j6⟩, fun x y hx hy hr => ?_⟩
  · by_cases q : 9 * x + y = 9 * i + h
    · obtain rfl : x = i := by omega
      obtain rfl : y = h := by omega
      exact hR
    · rw [vaup_ne q] at hr; exact j1 x y hx hy hr
  · by_cases q : j = 9 * i + h
    · subst q; rw [vaup_at]; decide
    · rw [vaup_ne q]; exact j5 j
  · by_cases q : 9 * x + y = 9 * i + h
    · rw [q, vaup_at] at hr; exact absurd hr (by decide)
    · rw [vaup_ne q] at hr
      rcases jd x y hx hy hr with hd | hd
      · exact Or.inl hd
      · exact Or.inr ⟨fun i2 h2 hs => hz _ (hd.1 i2 h2 hs), hd.2⟩
theorem fwQ.fin (hQ : fwQ kd op nn len rs wr i h) (hd : fwD kd op nn len rs wr i h) : fwP kd op nn len rs wr := by
  refine ⟨hQ.1, fun x y hx hy hr => ?_⟩
  rcases hQ.2 x y hx hy hr with ⟨rfl, rfl⟩ | q
  · exact hd
  · exact q
theorem fwI.wrong (hI : fwI kd op nn len rs wr) (hw : Wr kd op nn len i) : fwI kd op nn len rs (va_up wr i 1) ∧ ∀ x, wr x = 1 → va_up wr i 1 x = 1 := by
  obtain ⟨j1, j2, j3, j4, j5, j6⟩ := hI
  have hz : ∀ x, wr x = 1 → va_up wr i 1 x = 1 := fun x hx => by
    by_cases q : x = i
    · subst q; exact vaup_at
    · rw [vaup_ne q]; exact hx
  refine ⟨⟨j1, fun x hx hr => ?_, fun x hx hn => hz x (j3 x hx hn), j4, j5, fun x => ?_⟩, hz⟩
  · by_cases q : x = i
    · subst q; exact hw
    · rw [vaup_ne q] at hr; exact j2 x hx hr
  · by_cases q : x = i
    · subst q; rw [vaup_at]; exact Nat.le_refl 1
    · rw [vaup_ne q]; exact j6 x
theorem fwP.wrong (hP : fwP kd op nn len rs wr) (hw : Wr kd op nn len i) : fwP kd op nn len rs (va_up wr i 1) := by
  obtain ⟨h1, h2⟩ := hP.1.wrong hw
  exact ⟨h1, fun x y hx hy hr => ⟨(hP.2 x y hx hy hr).1, fun q => h2 x ((hP.2 x y hx hy hr).2 q)⟩⟩
theorem fwQ.wrong {o : Nat} (hQ : fwQ kd op nn len rs wr i h) (hR : Rch kd op nn len i h) (ho : pOK kd op nn len i o) (hn : ¬ okS kd op nn len i h o) : fwP kd op nn len rs (va_up wr i 1) := by
  have hw : Wr kd op nn len i := Or.inr (Or.inl ⟨h, o, hR, ho, hn⟩)
  obtain ⟨h1, h2⟩ := hQ.1.wrong hw
  refine ⟨h1, fun x y hx hy hr => ?_⟩
  rcases hQ.2 x y hx hy hr with ⟨rfl, rfl⟩ | q
  · refine ⟨fun i2 h2 ⟨o2, hs, _⟩ => ?_, fun _ => vaup_at⟩
    exact absurd (pOK_uniq ho.1 ho.2.1 hs.1 ▸ hs) hn
  · exact ⟨q.1, fun z => h2 x (q.2 z)⟩
theorem fwQ.bad (hQ : fwQ kd op nn len rs wr i h) (hn : ¬ ∃ o, pOK kd op nn len i o) : fwP kd op nn len rs wr :=
  hQ.fin ⟨fun i2 h2 ⟨o2, hs, _⟩ => absurd ⟨o2, hs.1⟩ hn, fun ⟨o, ho, _⟩ => absurd ⟨o, ho⟩ hn⟩
theorem fwQ.good {o : Nat} (hQ : fwQ kd op nn len rs wr i h) (ho : okS kd op nn len i h o) (h1 : hasNx o → rs (9 * (i + 1) + (h + gU o - gD o)) ≠ 0) (h2 : o = 14 ∨ o = 15 → ∀ j, j < len → nn i = nI j → rs (9 * j + (h + gU o - gD o)) ≠ 0) : fwP kd op nn len rs wr := by
  refine hQ.fin ⟨fun i2 h3 ⟨o2, hs, he, hx⟩ => ?_, fun ⟨o2, hp, hn⟩ => absurd ho (pOK_uniq ho.1.1 ho.1.2.1 hp ▸ hn)⟩
  have e := pOK_uniq ho.1.1 ho.1.2.1 hs.1
  subst e
  subst he
  rcases hx with ⟨hx, rfl⟩ | ⟨hx, hl, hn⟩
  · exact h1 hx
  · exact h2 hx i2 hl hn
theorem fwH_0 : fwH kd op nn len rs wr i 0 0 m :=
  ⟨fun q => absurd q (by decide), fun _ => ⟨fun x q => absurd q (Nat.not_lt_zero x), fun _ x q => absurd q (Nat.not_lt_zero x), fun _ x y q => absurd q (Nat.not_lt_zero x), fun q => absurd q (by decide)⟩⟩
theorem fwH.skip (hH : fwH kd op nn len rs wr i h c m) (h0 : rs (9 * i + h) = 0) : fwH kd op nn len rs wr i (h + 1) c m := by
  have key : ∀ x, x < h + 1 → x < h ∨ x = h := fun x hx => by omega
  refine ⟨fun q => ?_, fun q => ⟨fun x hx => ?_, fun hc x hx => ?_, fun hc x y hx hy rx ry => ?_, (hH.2 q).2.2.2⟩⟩
  · obtain ⟨x, hx, hr⟩ := hH.1 q; exact ⟨x, by omega, hr⟩
  · rcases key x hx with z | rfl
    · exact (hH.2 q).1 x z
    · rw [h0]; decide
  · rcases key x hx with z | rfl
    · exact (hH.2 q).2.1 hc x z
    · exact h0
  · rcases key x hx with z | rfl
    · rcases key y hy with w | rfl
      · exact (hH.2 q).2.2.1 hc x y z w rx ry
      · exact absurd h0 ry
    · exact absurd h0 rx
theorem fwH.m1 {c : Nat} (hR : Rch kd op nn len i h) (hm : m = 1) : fwH kd op nn len rs wr i (h + 1) c m :=
  ⟨fun _ => ⟨h, Nat.lt_succ_self h, hR⟩, fun q => by omega⟩
/-- one more height is met: with two the place is wrong -/
theorem fwH.two (hH : fwH kd op nn len rs wr i h c m) (hc : c + 1 = 2) (hR : Rch kd op nn len i h) : Wr kd op nn len i := by
  obtain ⟨x, hx, hr⟩ := hH.1 (by omega)
  exact Or.inr (Or.inr ⟨x, h, by omega, hr, hR⟩)
theorem fwH.cntA (hH : fwH kd op nn len rs wr i h c m) (hc : c + 1 = 2) (hR : Rch kd op nn len i h) (h2 : rs (9 * i + h) = 2) : fwH kd op nn len rs (va_up wr i 1) i (h + 1) (c + 1) m := by
  refine ⟨fun _ => ⟨h, Nat.lt_succ_self h, hR⟩, fun q => ⟨fun x hx => ?_, fun z => by omega, fun z => by omega, fun _ => vaup_at⟩⟩
  rcases (show x < h ∨ x = h by omega) with z | rfl
  · exact (hH.2 q).1 x z
  · rw [h2]; decide
theorem fwH.cntB (hH : fwH kd op nn len rs wr i h c m) (hc : c + 1 ≠ 2) (hR : Rch kd op nn len i h) (h2 : rs (9 * i + h) = 2) : fwH kd op nn len rs wr i (h + 1) (c + 1) m := by
  refine ⟨fun _ => ⟨h, Nat.lt_succ_self h, hR⟩, fun q => ⟨fun x hx => ?_, fun z => by omega, fun z x y hx hy rx ry => ?_, fun z => (hH.2 q).2.2.2 (by omega)⟩⟩
  · rcases (show x < h ∨ x = h by omega) with z | rfl
    · exact (hH.2 q).1 x z
    · rw [h2]; decide
  · have h0 := (hH.2 q).2.1 (by omega)
    rcases (show x < h ∨ x = h by omega) with z | rfl
    · exact absurd (h0 x z) rx
    · rcases (show y < x ∨ y = x by omega) with w | rfl
      · exact absurd (h0 y w) ry
      · rfl
theorem fwPS.upd (hS : fwPS rs wr i) (v : Nat) : fwPS rs (va_up wr i v) i := fun x hx => by
  rw [vaup_ne (by omega)]; exact hS x hx
theorem fwPS.next (hS : fwPS rs wr i) (hH : fwH kd op nn len rs wr i 9 c 0) : fwPS rs wr (i + 1) := fun x hx => by
  rcases (show x < i ∨ x = i by omega) with z | rfl
  · exact hS x z
  · refine ⟨(hH.2 rfl).1, fun h1 h2 q1 q2 q3 q4 q5 => ?_⟩
    by_cases hc : 2 ≤ c
    · exact (hH.2 rfl).2.2.2 hc
    · exact absurd ((hH.2 rfl).2.2.1 (by omega) h1 h2 q1 q2 q4 q5) q3
theorem fw_end (h0 : 0 < len) (hP : fwP kd op nn len rs wr) (hS : fwPS rs wr len) : ∀ i, i < len → (wr i = 1 ↔ Wr kd op nn len i) := by
  obtain ⟨⟨j1, j2, j3, j4, j5, j6⟩, jd⟩ := hP
  have hcl : ∀ i h, Rch kd op nn len i h → i < len ∧ h < 9 ∧ rs (9 * i + h) ≠ 0 := by
    intro i h hR
    refine hR (fun i h => i < len ∧ h < 9 ∧ rs (9 * i + h) ≠ 0) ⟨h0, by decide, j4⟩ ?_
    rintro i h i2 h2 ⟨a1, a2, a3⟩ hs
    have e2 : rs (9 * i + h) = 2 := by have := (hS i a1).1 h a2; have := j5 (9 * i + h); omega
    refine ⟨?_, ?_, (jd i h a1 a2 e2).1 i2 h2 hs⟩
    · obtain ⟨o, ho, -, hx⟩ := hs
      rcases hx with ⟨hx, rfl⟩ | ⟨-, hx, -⟩
      · exact ho.2.1 hx
      · exact hx
    · obtain ⟨o, ho, rfl, -⟩ := hs
      exact Nat.lt_succ_of_le ho.2.2.2
  intro i hi
  refine ⟨j2 i hi, ?_⟩
  rintro (q | ⟨h, o, hR, ho, hn⟩ | ⟨h, h2, hne, hR, hR2⟩)
  · exact j3 i hi q
  · obtain ⟨a1, a2, a3⟩ := hcl i h hR
    have e2 : rs (9 * i + h) = 2 := by have := (hS i a1).1 h a2; have := j5 (9 * i + h); omega
    exact (jd i h a1 a2 e2).2 ⟨o, ho, hn⟩
  · obtain ⟨a1, a2, a3⟩ := hcl i h hR
    obtain ⟨b1, b2, b3⟩ := hcl i h2 hR2
    exact (hS i a1).2 h h2 a2 b2 hne a3 b3
theorem okS_next {o : Nat} (ho : okS kd op nn len i h o) (hx : hasNx o) (hR : Rch kd op nn len i h) : i + 1 < len ∧ h + gU o - gD o < 9 ∧ Rch kd op nn len (i + 1) (h + gU o - gD o) :=
  ⟨ho.2.1 hx, Nat.lt_succ_of_le ho.2.2.2, hR.next ho hx⟩
end FWS
