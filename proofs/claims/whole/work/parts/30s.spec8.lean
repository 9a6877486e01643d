/-! what comes out is one -/
theorem tbl_uniq {n n2 : Nat} {kf vf kf2 vf2 : Nat → Int32} {M : mapT} (h : tbl n kf vf M) (h2 : tbl n2 kf2 vf2 M) : n = n2 ∧ ∀ i, i < n → kf i = kf2 i ∧ vf i = vf2 i := by
  have hin : ∀ {n n2 : Nat} {kf vf kf2 vf2 : Nat → Int32}, tbl n kf vf M → tbl n2 kf2 vf2 M → ∀ i, i < n → ∃ a, a < n2 ∧ kf2 a = kf i := by
    intro n n2 kf vf kf2 vf2 g g2 i hi
    exact g2.2.2 (kf i) (vf i) (g.2.1 i hi)
  have hle : ∀ {n n2 : Nat} {kf vf kf2 vf2 : Nat → Int32}, tbl n kf vf M → tbl n2 kf2 vf2 M → ∀ i, i < n → i < n2 → (∀ j, j < i → kf j = kf2 j) → ¬ kf i < kf2 i := by
    intro n n2 kf vf kf2 vf2 g g2 i hi hi2 hj hlt
    obtain ⟨a, ha, he⟩ := hin g g2 i hi
    rcases Nat.lt_trichotomy a i with q | q | q
    · have := g.1 a i q hi
      rw [hj a q, he] at this
      exact i32_irr _ this
    · subst q
      rw [he] at hlt
      exact i32_irr _ hlt
    · have := g2.1 i a q ha
      rw [he] at this
      exact i32_asym hlt this
  have heq : ∀ i, i < n → i < n2 → kf i = kf2 i := by
    intro i
    induction i using Nat.strongRecOn with
    | ind i ih =>
      intro hi hi2
      exact i32_tri (hle h h2 i hi hi2 (fun j hj => ih j hj (by omega) (by omega))) (hle h2 h i hi2 hi (fun j hj => (ih j hj (by omega) (by omega)).symm))
  have hlen : ∀ {n n2 : Nat} {kf vf kf2 vf2 : Nat → Int32}, tbl n kf vf M → tbl n2 kf2 vf2 M → (∀ i, i < n → i < n2 → kf i = kf2 i) → n2 ≤ n := by
    intro n n2 kf vf kf2 vf2 g g2 he
    apply Nat.le_of_not_lt
    intro q
    obtain ⟨a, ha, hk⟩ := hin g2 g n q
    have := g2.1 a n ha q
    rw [← he a ha (by omega), hk] at this
    exact i32_irr _ this
  have hn : n = n2 := Nat.le_antisymm (hlen h2 h (fun i a b => (heq i b a).symm)) (hlen h h2 heq)
  refine ⟨hn, fun i hi => ⟨heq i hi (by omega), ?_⟩⟩
  have q1 := h.2.1 i hi
  have q2 := h2.2.1 i (by omega)
  rw [heq i hi (by omega), q2] at q1
  exact (Option.some.inj q1).symm
theorem tblL_uniq {M : mapT} {L L2 : List (Int32 × Int32)} (h : tblL M L) (h2 : tblL M L2) : L = L2 := by
  obtain ⟨n, kf, vf, g, rfl⟩ := h
  obtain ⟨n2, kf2, vf2, g2, rfl⟩ := h2
  obtain ⟨rfl, he⟩ := tbl_uniq g g2
  exact tab_congr (fun j _ hj => he j (by omega))
theorem mapR_uniq {op nn rf rg : Nat → Int32} {n : Nat} {r r2 : Int32} (h : mapR op nn rf rg n r) (h2 : mapR op nn rf rg n r2) : r = r2 := by
  rcases h with ⟨i, a1, a2, a3, rfl⟩ | ⟨a1, a2, rfl⟩ | ⟨a1, a2, rfl⟩
  · rcases h2 with ⟨j, b1, b2, b3, rfl⟩ | ⟨b1, b2, rfl⟩ | ⟨b1, b2, rfl⟩
    · rcases Nat.lt_trichotomy i j with q | rfl | q
      · exact absurd a2 (b3 i q)
      · rfl
      · exact absurd b2 (a3 j q)
    · exact absurd a2 (b1 i a1)
    · exact absurd a2 (b1 i a1)
  · rcases h2 with ⟨j, b1, b2, b3, rfl⟩ | ⟨b1, b2, rfl⟩ | ⟨b1, b2, rfl⟩
    · exact absurd b2 (a1 j b1)
    · rfl
    · omega
  · rcases h2 with ⟨j, b1, b2, b3, rfl⟩ | ⟨b1, b2, rfl⟩ | ⟨b1, b2, rfl⟩
    · exact absurd b2 (a1 j b1)
    · omega
    · rfl
theorem joinL_uniq {F : mgF} {Ls : Nat → List (Int32 × Int32)} {spl : Nat} {r r2 : Int32} (h : joinL F Ls spl r) (h2 : joinL F Ls spl r2) : r = r2 := by
  rcases h with ⟨i, a1, a2, a3, rfl⟩ | ⟨a1, rfl⟩
  · rcases h2 with ⟨j, b1, b2, b3, rfl⟩ | ⟨b1, rfl⟩
    · rcases Nat.lt_trichotomy i j with q | rfl | q
      · exact absurd a2 (b3 i q)
      · rfl
      · exact absurd b2 (a3 j q)
    · exact absurd a2 (b1 i a1)
  · rcases h2 with ⟨j, b1, b2, b3, rfl⟩ | ⟨b1, rfl⟩
    · exact absurd b2 (a1 j b1)
    · rfl
theorem jnL_uniq {F : mgF} {Ls : Nat → List (Int32 × Int32)} : ∀ {spl : Nat} {V V2 : List (Int32 × Int32)} {t t2 : Nat}, jnL F Ls spl V t → jnL F Ls spl V2 t2 → V = V2 ∧ t = t2
  | 0, _, _, _, _, ⟨a1, a2⟩, ⟨b1, b2⟩ => ⟨a1.trans b1.symm, a2.trans b2.symm⟩
  | s + 1, _, _, _, _, ⟨J0, t0, M, t1, L, a1, a2, a3, a4, a5⟩, ⟨J2, t2, M2, t3, L2, b1, b2, b3, b4, b5⟩ => by
    obtain ⟨e1, e2⟩ := jnL_uniq a1 b1
    have e3 := Option.some.inj (a2.symm.trans b2)
    obtain ⟨e4, e5⟩ := Prod.mk.inj e3
    subst e4
    have e6 := tblL_uniq a3 b3
    subst e1 e2 e5 e6
    exact ⟨a4.trans b4.symm, a5.trans b5.symm⟩
theorem enC_congr {op nn kf vf kf2 vf2 : Nat → Int32} {i : Nat} (h : kf i = kf2 i ∧ vf i = vf2 i) : enC op nn kf vf i = enC op nn kf2 vf2 i := by
  unfold enC
  rw [h.1, h.2]
theorem enK_congr {op nn kf vf kf2 vf2 : Nat → Int32} : ∀ {n : Nat}, (∀ i, i < n → kf i = kf2 i ∧ vf i = vf2 i) → enK op nn kf vf n = enK op nn kf2 vf2 n ∧ enS op nn kf vf n = enS op nn kf2 vf2 n
  | 0, _ => ⟨rfl, rfl⟩
  | n + 1, h => by
    obtain ⟨e1, e2⟩ := enK_congr (n := n) (op := op) (nn := nn) (fun i hi => h i (by omega))
    have e3 := enC_congr (op := op) (nn := nn) (h n (Nat.lt_succ_self n))
    refine ⟨?_, ?_⟩
    · show enK op nn kf vf n ++ (if (enC op nn kf vf n).1 = 1 then _ else _) = enK op nn kf2 vf2 n ++ (if (enC op nn kf2 vf2 n).1 = 1 then _ else _)
      rw [e1, e3, (h n (Nat.lt_succ_self n)).1]
    · show enS op nn kf vf n + _ = enS op nn kf2 vf2 n + _
      rw [e2, e3]
theorem endR_uniq {op nn kf vf kf2 vf2 : Nat → Int32} {n : Nat} {r r2 : Int32} (he : ∀ i, i < n → kf i = kf2 i ∧ vf i = vf2 i) (h : endR op nn kf vf n r) (h2 : endR op nn kf2 vf2 n r2) : r = r2 := by
  rcases h with ⟨i, a1, a2, rfl⟩ | ⟨a1, rfl⟩
  · rcases h2 with ⟨j, b1, b2, rfl⟩ | ⟨b1, rfl⟩
    · rfl
    · rw [enC_congr (he i a1)] at a2
      exact absurd a2 (b1 i a1)
  · rcases h2 with ⟨j, b1, b2, rfl⟩ | ⟨b1, rfl⟩
    · have := a1 j b1
      rw [enC_congr (he j b1)] at this
      exact absurd b2 this
    · rfl
theorem endO_uniq {op nn kf vf kf2 vf2 : Nat → Int32} {len n a b d e f : Nat} {o o2 : oT} (he : ∀ i, i < n → kf i = kf2 i ∧ vf i = vf2 i) (h : endO op nn len kf vf n a b d e f o) (h2 : endO op nn len kf2 vf2 n a b d e f o2) : o = o2 := by
  obtain ⟨r, g1, g2⟩ := h
  obtain ⟨r2, k1, k2⟩ := h2
  have hr : r = r2 := by
    rcases g1 with ⟨g0, rfl⟩ | ⟨g0, g1⟩
    · rcases k1 with ⟨k0, rfl⟩ | ⟨k0, k1⟩
      · rfl
      · exact absurd g0 k0
    · rcases k1 with ⟨k0, rfl⟩ | ⟨k0, k1⟩
      · exact absurd k0 g0
      · exact endR_uniq he g1 k1
  subst hr
  rcases g2 with ⟨g0, rfl⟩ | ⟨g0, rfl⟩
  · rcases k2 with ⟨k0, rfl⟩ | ⟨k0, rfl⟩
    · rfl
    · exact absurd k0 g0
  · rcases k2 with ⟨k0, rfl⟩ | ⟨k0, rfl⟩
    · exact absurd g0 k0
    · obtain ⟨e1, e2⟩ := enK_congr (op := op) (nn := nn) he
      rw [e1, e2, tab_congr (f := kf) (g := vf) (f2 := kf2) (g2 := vf2) (i := 0) (c := n) (fun j _ hj => he j (by omega))]
theorem foldO_uniq {op nn op3 nn3 : Nat → Int32} {len a d e : Nat} {V : List (Int32 × Int32)} {o o2 : oT} (h : foldO op nn op3 nn3 len V a d e o) (h2 : foldO op nn op3 nn3 len V a d e o2) : o = o2 := by
  rcases h with ⟨a1, rfl⟩ | ⟨M, t, n, kf, vf, a1, a2, a3⟩
  · rcases h2 with ⟨b1, rfl⟩ | ⟨M2, t2, n2, kf2, vf2, b1, b2, b3⟩
    · rfl
    · rw [a1] at b1; cases b1
  · rcases h2 with ⟨b1, rfl⟩ | ⟨M2, t2, n2, kf2, vf2, b1, b2, b3⟩
    · rw [a1] at b1; cases b1
    · obtain ⟨e1, e2⟩ := Prod.mk.inj (Option.some.inj (a1.symm.trans b1))
      subst e1 e2
      obtain ⟨rfl, he⟩ := tbl_uniq a2 b2
      exact endO_uniq he a3 b3
theorem jobR_uniq {op0 nn0 op1 nn1 op2 nn2 op3 nn3 rf rg : Nat → Int32} {len1 len3 rn sz : Nat} {o o2 : oT} (h : jobR op0 nn0 op1 nn1 op2 nn2 op3 nn3 len1 len3 rf rg rn sz o) (h2 : jobR op0 nn0 op1 nn1 op2 nn2 op3 nn3 len1 len3 rf rg rn sz o2) : o = o2 := by
  obtain ⟨r0, m1, g⟩ := h
  obtain ⟨r02, m2, k⟩ := h2
  have e0 := mapR_uniq m1 m2
  subst e0
  rcases g with ⟨g0, rfl⟩ | ⟨g0, r1, V, t1, gj, g⟩
  · rcases k with ⟨k0, rfl⟩ | ⟨k0, r12, V2, t12, kj, k⟩
    · rfl
    · exact absurd k0 g0
  · rcases k with ⟨k0, rfl⟩ | ⟨k0, r12, V2, t12, kj, k⟩
    · exact absurd g0 k0
    · have e1 : r1 = r12 ∧ (r1 = -1 → V = V2 ∧ t1 = t12) := by
        rcases gj with ⟨q1, q2, q3, q4⟩ | ⟨q1, q2, q3⟩
        · rcases kj with ⟨p1, p2, p3, p4⟩ | ⟨p1, p2, p3⟩
          · exact ⟨q2.trans p2.symm, fun _ => ⟨q3.trans p3.symm, q4.trans p4.symm⟩⟩
          · exact absurd q1 p1
        · rcases kj with ⟨p1, p2, p3, p4⟩ | ⟨p1, p2, p3⟩
          · exact absurd p1 q1
          · have e := joinL_uniq q2 p2
            exact ⟨e, fun z => jnL_uniq (q3 z) (p3 (e ▸ z))⟩
      obtain ⟨e1, e2⟩ := e1
      subst e1
      rcases g with ⟨g1, rfl⟩ | ⟨g1, g⟩
      · rcases k with ⟨k1, rfl⟩ | ⟨k1, k⟩
        · rfl
        · exact absurd k1 g1
      · rcases k with ⟨k1, rfl⟩ | ⟨k1, k⟩
        · exact absurd g1 k1
        · obtain ⟨e3, e4⟩ := e2 g1
          subst e3 e4
          exact foldO_uniq g k
/-- results stand by rising keys -/
def sL (L : List (Int32 × Int32)) : Prop := L.Pairwise (fun a b => a.1 < b.1)
theorem sL_tab {n : Nat} {kf vf : Nat → Int32} (h : srt n kf) : ∀ {c : Nat}, c ≤ n → sL (tab kf vf 0 c) := by
  intro c
  induction c with
  | zero => intro _; exact List.Pairwise.nil
  | succ c ih =>
    intro hc
    rw [tab_snoc]
    refine List.pairwise_append.mpr ⟨ih (by omega), List.pairwise_singleton _ _, fun a ha b hb => ?_⟩
    obtain ⟨j, hj⟩ := List.getElem?_of_mem ha
    rw [tab_get] at hj
    by_cases q : j < c
    · rw [if_pos q] at hj
      cases hj
      rw [List.mem_singleton.mp hb]
      show kf (0 + j) < kf (0 + c)
      exact h (0 + j) (0 + c) (by omega) (by omega)
    · rw [if_neg q] at hj; cases hj
theorem sL_enK {op nn : Nat → Int32} {n : Nat} {kf vf : Nat → Int32} (h : srt n kf) : ∀ {c : Nat}, c ≤ n → sL (enK op nn kf vf c) ∧ ∀ a, a ∈ enK op nn kf vf c → ∃ j, j < c ∧ a.1 = kf j := by
  intro c
  induction c with
  | zero => intro _; exact ⟨List.Pairwise.nil, fun a ha => absurd ha List.not_mem_nil⟩
  | succ c ih =>
    intro hc
    obtain ⟨g1, g2⟩ := ih (by omega)
    by_cases q : (enC op nn kf vf c).1 = 1
    · rw [enK_take q]
      refine ⟨List.pairwise_append.mpr ⟨g1, List.pairwise_singleton _ _, fun a ha b hb => ?_⟩, fun a ha => ?_⟩
      · obtain ⟨j, hj, e⟩ := g2 a ha
        rw [List.mem_singleton.mp hb, e]
        exact h j c hj (by omega)
      · rcases List.mem_append.mp ha with z | z
        · obtain ⟨j, hj, e⟩ := g2 a z
          exact ⟨j, by omega, e⟩
        · rw [List.mem_singleton.mp z]
          exact ⟨c, by omega, rfl⟩
    · rw [enK_skip q]
      exact ⟨g1, fun a ha => by obtain ⟨j, hj, e⟩ := g2 a ha; exact ⟨j, by omega, e⟩⟩
theorem jobR_srt {op0 nn0 op1 nn1 op2 nn2 op3 nn3 rf rg : Nat → Int32} {len1 len3 rn sz : Nat} {o : oT} (h : jobR op0 nn0 op1 nn1 op2 nn2 op3 nn3 len1 len3 rf rg rn sz o) : sL o.2.1 := by
  obtain ⟨r0, m1, ⟨g0, rfl⟩ | ⟨g0, r1, V, t1, gj, ⟨g1, rfl⟩ | ⟨g1, g⟩⟩⟩ := h
  · exact List.Pairwise.nil
  · exact List.Pairwise.nil
  · rcases g with ⟨a1, rfl⟩ | ⟨M, t, n, kf, vf, a1, a2, r3, a3, ⟨a4, rfl⟩ | ⟨a4, rfl⟩⟩
    · exact List.Pairwise.nil
    · exact List.Pairwise.nil
    · show sL (if len3 = 0 then _ else _)
      split
      · exact sL_tab a2.1 (Nat.le_refl n)
      · exact (sL_enK a2.1 (Nat.le_refl n)).1
theorem srt_of {L : List (Int32 × Int32)} {n : Nat} {kf vf : Nat → Int32} (hs : sL L) (hn : n = L.length) (hr : ∀ j, j < n → (kf j, vf j) = L.getD j (0, 0)) : srt n kf := by
  intro i j hij hj
  have h1 := hr i (by omega)
  have h2 := hr j hj
  rw [List.getD_eq_getElem?_getD, List.getElem?_eq_getElem (by omega)] at h1 h2
  have h3 := List.pairwise_iff_getElem.mp hs i j (by omega) (by omega) hij
  rw [show kf i = (L[i]'(by omega)).1 from congrArg Prod.fst h1, show kf j = (L[j]'(by omega)).1 from congrArg Prod.fst h2]
  exact h3
theorem fwR_uniq {kd : Nat} {op nn : Nat → Int32} {len : Nat} {r r2 : Int32} (h : fwR kd op nn len r) (h2 : fwR kd op nn len r2) : r = r2 := by
  rcases h with ⟨i, a1, a2, a3, rfl⟩ | ⟨a1, rfl⟩
  · rcases h2 with ⟨j, b1, b2, b3, rfl⟩ | ⟨b1, rfl⟩
    · rcases Nat.lt_trichotomy i j with q | rfl | q
      · exact absurd a2 (b3 i q)
      · rfl
      · exact absurd b2 (a3 j q)
    · exact absurd a2 (b1 i a1)
  · rcases h2 with ⟨j, b1, b2, b3, rfl⟩ | ⟨b1, rfl⟩
    · exact absurd b2 (a1 j b1)
    · rfl
theorem chkR_uniq {kd : Nat} {op nn : Nat → Int32} {len : Nat} {r r2 : Int32} (h : chkR kd op nn len r) (h2 : chkR kd op nn len r2) : r = r2 := by
  rcases h with ⟨a1, rfl⟩ | ⟨a1, a2⟩
  · rcases h2 with ⟨b1, rfl⟩ | ⟨b1, b2⟩
    · rfl
    · omega
  · rcases h2 with ⟨b1, rfl⟩ | ⟨b1, b2⟩
    · omega
    · exact fwR_uniq a2 b2
/-- the two tables of results agree -/
def agR (tn rs : Nat) (kf vf xk xv : Nat → Int32) : Prop := rs = tn ∧ tn ≤ 600 ∧ srt tn kf ∧ ∀ j, j < tn → xk j = kf j ∧ xv j = vf j
theorem agR_0 {kf vf xk xv : Nat → Int32} : agR 0 0 kf vf xk xv := ⟨rfl, Nat.zero_le _, fun i j _ h => absurd h (Nat.not_lt_zero j), fun j h => absurd h (Nat.not_lt_zero j)⟩
theorem agR_of {L : List (Int32 × Int32)} {tn rs : Nat} {kf vf xk xv : Nat → Int32} (hs : sL L) (h1 : tn = L.length ∧ tn ≤ 600) (h2 : rs = L.length) (hr : ∀ j, j < tn → (kf j, vf j) = L.getD j (0, 0)) (hx : ∀ j, j < rs → (xk j, xv j) = L.getD j (0, 0)) : agR tn rs kf vf xk xv :=
  ⟨by omega, h1.2, srt_of hs h1.1 hr, fun j hj => by
    have e := (hx j (by omega)).trans (hr j hj).symm
    exact ⟨congrArg Prod.fst e, congrArg Prod.snd e⟩⟩
theorem vlR_uniq {tn rs : Nat} {kf vf xk xv : Nat → Int32} {key : Int32} {r r2 : Int64} (ha : agR tn rs kf vf xk xv) (h : vlR tn kf vf key r) (h2 : vlR rs xk xv key r2) : r = r2 := by
  obtain ⟨rfl, -, hs, he⟩ := ha
  rcases h with ⟨i, a1, a2, rfl⟩ | ⟨a1, rfl⟩
  · rcases h2 with ⟨j, b1, b2, rfl⟩ | ⟨b1, rfl⟩
    · rw [(he j b1).1] at b2
      rw [(he j b1).2]
      rcases Nat.lt_trichotomy i j with q | rfl | q
      · exact absurd (hs i j q b1) (by rw [a2, b2]; exact i32_irr key)
      · rfl
      · exact absurd (hs j i q a1) (by rw [a2, b2]; exact i32_irr key)
    · exact absurd ((he i a1).1.trans a2) (b1 i a1)
  · rcases h2 with ⟨j, b1, b2, rfl⟩ | ⟨b1, rfl⟩
    · exact absurd ((he j b1).1.symm.trans b2) (a1 j b1)
    · rfl
theorem resV_ag {tn rs : Nat} {kf vf xk xv : Nat → Int32} {k w : Int32} (ha : agR tn rs kf vf xk xv) : resV tn kf vf k w = resV rs xk xv k w := by
  obtain ⟨rfl, h6, -, he⟩ := ha
  by_cases h : ¬ k < 0 ∧ k < nI rs
  · obtain ⟨j, hj, rfl⟩ := nI_ltx (by omega) h.1 h.2
    have e := he j hj
    unfold resV
    rw [if_pos h, if_pos h, nI_clamp (by omega), e.1, e.2]
  · unfold resV
    rw [if_neg h, if_neg h]
theorem cnV_ag {co ct : Nat → Int32} {rn sz : Nat} {w : Int32} (h : ∀ j, j < 8 → ct j = co j) : cnV co rn sz w = cnV ct rn sz w := by
  by_cases h1 : w < 0 ∨ nI 9 < w
  · unfold cnV; rw [if_pos h1, if_pos h1]
  · by_cases h2 : w = nI 8
    · unfold cnV; rw [if_neg h1, if_pos h2, if_neg h1, if_pos h2]
    · by_cases h3 : w = nI 9
      · unfold cnV; rw [if_neg h1, if_neg h2, if_pos h3, if_neg h1, if_neg h2, if_pos h3]
      · obtain ⟨j, hj, rfl⟩ := nI_of2 (n := 9) (by decide) (fun q => h1 (Or.inl q)) (i32_le_of_nlt (fun q => h1 (Or.inr q)))
        have h8 : j ≠ 8 := fun e => h2 (by rw [e])
        have h9 : j ≠ 9 := fun e => h3 (by rw [e])
        unfold cnV
        rw [if_neg h1, if_neg h2, if_neg h3, if_neg h1, if_neg h2, if_neg h3, nI_clamp (by omega), h j (by omega)]
theorem and15 (x : Int32) : ∃ k, k < 16 ∧ x &&& nI 15 = nI k := by
  have h1 : (x &&& nI 15).toBitVec.toNat ≤ 15 := by
    rw [Int32.toBitVec_and, BitVec.toNat_and]
    exact Nat.and_le_right
  refine ⟨(x &&& nI 15).toBitVec.toNat, by omega, ?_⟩
  generalize x &&& nI 15 = y at h1 ⊢
  apply Int32.toBitVec.inj
  apply BitVec.eq_of_toNat_eq
  show _ = (BitVec.ofNat 32 _).toNat
  rw [BitVec.toNat_ofNat]
  omega
