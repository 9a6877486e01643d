/-! pairs in another order; the reference's joining -/
theorem tab_cg2 {f g f2 g2 : Nat → Int32} : ∀ {c i i2 : Nat}, (∀ q, q < c → f (i + q) = f2 (i2 + q) ∧ g (i + q) = g2 (i2 + q)) → tab f g i c = tab f2 g2 i2 c := by
  intro c
  induction c with
  | zero => intro _ _ _; rfl
  | succ c ih =>
    intro i i2 h
    have h0 := h 0 (Nat.succ_pos c)
    rw [Nat.add_zero, Nat.add_zero] at h0
    rw [tab_s, tab_s, h0.1, h0.2, ih (i := i + 1) (i2 := i2 + 1) (fun q hq => by
      have := h (q + 1) (by omega)
      rw [show i + (q + 1) = i + 1 + q by omega, show i2 + (q + 1) = i2 + 1 + q by omega] at this
      exact this)]
theorem tab_add {f g : Nat → Int32} : ∀ {a b i : Nat}, tab f g i (a + b) = tab f g i a ++ tab f g (i + a) b := by
  intro a
  induction a with
  | zero => intro b i; rw [Nat.zero_add]; rfl
  | succ a ih =>
    intro b i
    rw [show a + 1 + b = (a + b) + 1 by omega, tab_s, tab_s, ih, show i + 1 + a = i + (a + 1) by omega]
    rfl
theorem mgL_app {F : mgF} : ∀ {A B : List (Int32 × Int32)} {S : mapT × Nat}, mgL F (A ++ B) S = (mgL F A S).bind (fun S2 => mgL F B S2) := by
  intro A
  induction A with
  | nil => intro B S; rfl
  | cons x A ih =>
    intro B S
    obtain ⟨k, v⟩ := x
    obtain ⟨M, s⟩ := S
    show mgL F ((k, v) :: (A ++ B)) (M, s) = _
    cases hm : M k with
    | none => rw [mgL_new hm, mgL_new hm, ih]
    | some a =>
      cases hF : F k a v with
      | none => rw [mgL_fail hm hF, mgL_fail hm hF]; rfl
      | some r =>
        obtain ⟨r, t⟩ := r
        rw [mgL_old hm hF, mgL_old hm hF, ih]
theorem mset_comm {M : mapT} {k k2 v v2 : Int32} (h : k ≠ k2) : mset (mset M k v) k2 v2 = mset (mset M k2 v2) k v := by
  funext x
  show (if x = k2 then some v2 else (if x = k then some v else M x)) = (if x = k then some v else (if x = k2 then some v2 else M x))
  by_cases h1 : x = k2
  · rw [if_pos h1, if_neg (fun q => h (q.symm.trans h1)), if_pos h1]
  · rw [if_neg h1]
    by_cases h2 : x = k
    · rw [if_pos h2, if_pos h2]
    · rw [if_neg h2, if_neg h2, if_neg h1]
theorem mgL_swap {F : mgF} {x y : Int32 × Int32} {L : List (Int32 × Int32)} (h : x.1 ≠ y.1) (S : mapT × Nat) : mgL F (x :: y :: L) S = mgL F (y :: x :: L) S := by
  obtain ⟨k, v⟩ := x
  obtain ⟨k2, v2⟩ := y
  obtain ⟨M, s⟩ := S
  have h : k ≠ k2 := h
  have e1 : ∀ w, (mset M k w) k2 = M k2 := fun w => mset_ne _ _ _ (Ne.symm h)
  have e2 : ∀ w, (mset M k2 w) k = M k := fun w => mset_ne _ _ _ h
  cases hm : M k with
  | none =>
    rw [mgL_new hm]
    cases hm2 : M k2 with
    | none =>
      rw [mgL_new (by rw [e1]; exact hm2), mgL_new hm2, mgL_new (by rw [e2]; exact hm), mset_comm h]
    | some b =>
      cases hF2 : F k2 b v2 with
      | none => rw [mgL_fail (by rw [e1]; exact hm2) hF2, mgL_fail hm2 hF2]
      | some r => 
        obtain ⟨r, t⟩ := r
        rw [mgL_old (by rw [e1]; exact hm2) hF2, mgL_old hm2 hF2, mgL_new (by rw [e2]; exact hm), mset_comm h]
  | some a =>
    cases hF : F k a v with
    | none =>
      rw [mgL_fail hm hF]
      cases hm2 : M k2 with
      | none => rw [mgL_new hm2, mgL_fail (by rw [e2]; exact hm) hF]
      | some b =>
        cases hF2 : F k2 b v2 with
        | none => rw [mgL_fail hm2 hF2]
        | some r =>
          obtain ⟨r, t⟩ := r
          rw [mgL_old hm2 hF2, mgL_fail (by rw [e2]; exact hm) hF]
    | some r1 =>
      obtain ⟨r1, t1⟩ := r1
      rw [mgL_old hm hF]
      cases hm2 : M k2 with
      | none =>
        rw [mgL_new (by rw [e1]; exact hm2), mgL_new hm2, mgL_old (by rw [e2]; exact hm) hF, mset_comm h]
      | some b =>
        cases hF2 : F k2 b v2 with
        | none => rw [mgL_fail (by rw [e1]; exact hm2) hF2, mgL_fail hm2 hF2]
        | some r =>
          obtain ⟨r, t⟩ := r
          rw [mgL_old (by rw [e1]; exact hm2) hF2, mgL_old hm2 hF2, mgL_old (by rw [e2]; exact hm) hF, mset_comm h, show s + t1 + t = s + t + t1 by omega]
theorem mgL_cons {F : mgF} {x : Int32 × Int32} {L L2 : List (Int32 × Int32)} (h : ∀ S, mgL F L S = mgL F L2 S) (S : mapT × Nat) : mgL F (x :: L) S = mgL F (x :: L2) S := by
  obtain ⟨k, v⟩ := x
  obtain ⟨M, s⟩ := S
  cases hm : M k with
  | none => rw [mgL_new hm, mgL_new hm, h]
  | some a =>
    cases hF : F k a v with
    | none => rw [mgL_fail hm hF, mgL_fail hm hF]
    | some r =>
      obtain ⟨r, t⟩ := r
      rw [mgL_old hm hF, mgL_old hm hF, h]
def dK (L : List (Int32 × Int32)) : Prop := L.Pairwise (fun a b => a.1 ≠ b.1)
theorem mgL_perm {L L2 : List (Int32 × Int32)} (h : L.Perm L2) : dK L → ∀ (F : mgF) (S : mapT × Nat), mgL F L S = mgL F L2 S := by
  induction h with
  | nil => intro _ _ _; rfl
  | cons x _ ih =>
    intro hd F S
    exact mgL_cons (ih (List.pairwise_cons.mp hd).2 F) S
  | swap x y l =>
    intro hd F S
    have h1 := (List.pairwise_cons.mp hd).1 x List.mem_cons_self
    exact mgL_swap h1 S
  | trans h1 _ ih1 ih2 =>
    intro hd F S
    have hd2 : dK _ := (List.Perm.pairwise_iff (R := fun a b : Int32 × Int32 => a.1 ≠ b.1) (fun q => Ne.symm q) h1).mp hd
    rw [ih1 hd F S, ih2 hd2 F S]
theorem plc_ex {kf : Nat → Int32} (key : Int32) : ∀ {n : Nat}, srt n kf → ∃ j, plc n kf key j := by
  intro n
  induction n with
  | zero => intro _; exact ⟨0, Nat.le_refl 0, fun i h => absurd h (Nat.not_lt_zero i), fun i _ h => absurd h (Nat.not_lt_zero i)⟩
  | succ n ih =>
    intro hs
    obtain ⟨j, h1, h2, h3⟩ := ih (fun a b hab hb => hs a b hab (by omega))
    by_cases hj : j < n
    · refine ⟨j, by omega, h2, fun i ha hb => ?_⟩
      rcases Nat.lt_or_ge i n with q | q
      · exact h3 i ha q
      · obtain rfl : i = n := by omega
        exact fun z => h3 j (Nat.le_refl j) hj (i32_lt_trans (hs j i hj (by omega)) z)
    · obtain rfl : j = n := by omega
      by_cases hk : kf j < key
      · exact ⟨j + 1, Nat.le_refl _, fun i hi => by
          rcases Nat.lt_or_ge i j with q | q
          · exact h2 i q
          · obtain rfl : i = j := by omega
            exact hk, fun i ha hb => by omega⟩
      · exact ⟨j, by omega, h2, fun i ha hb => by
          obtain rfl : i = j := by omega
          exact hk⟩
/-- rows in any order that hold the map -/
def tbU (n0 n : Nat) (kf vf : Nat → Int32) (M : mapT) : Prop :=
  (∀ a b, n0 ≤ a → a < b → b < n → kf a ≠ kf b) ∧ (∀ a, n0 ≤ a → a < n → M (kf a) = some (vf a)) ∧ ∀ k v, M k = some v → ∃ a, n0 ≤ a ∧ a < n ∧ kf a = k
theorem tab_insA {kf vf : Nat → Int32} {j m : Nat} {x v : Int32} (hj : j ≤ m) : ((x, v) :: tab kf vf 0 m).Perm (tab (insA kf j m x) (insA vf j m v) 0 (m + 1)) := by
  obtain ⟨d, rfl⟩ : ∃ d, m = j + d := ⟨m - j, by omega⟩
  rw [show j + d + 1 = j + (d + 1) by omega, tab_add, tab_add (f := insA kf j (j + d) x), tab_s (c := d)]
  have h1 : tab (insA kf j (j + d) x) (insA vf j (j + d) v) 0 j = tab kf vf 0 j := tab_congr (fun q _ hq => ⟨insA_lo (by omega), insA_lo (by omega)⟩)
  have h2 : tab (insA kf j (j + d) x) (insA vf j (j + d) v) (0 + j + 1) d = tab kf vf (0 + j) d := tab_cg2 (fun q hq => ⟨by rw [insA_hi (by omega) (by omega)]; congr 1; omega, by rw [insA_hi (by omega) (by omega)]; congr 1; omega⟩)
  rw [h1, h2, show insA kf j (j + d) x (0 + j) = x by rw [Nat.zero_add, insA_at], show insA vf j (j + d) v (0 + j) = v by rw [Nat.zero_add, insA_at]]
  exact List.perm_middle.symm
theorem sortU {kf vf : Nat → Int32} {n0 : Nat} : ∀ {c : Nat}, (∀ a b, n0 ≤ a → a < b → b < n0 + c → kf a ≠ kf b) → ∃ m kf2 vf2 M2, tbl m kf2 vf2 M2 ∧ (∀ a, n0 ≤ a → a < n0 + c → M2 (kf a) = some (vf a)) ∧ (∀ k v, M2 k = some v → ∃ a, n0 ≤ a ∧ a < n0 + c ∧ kf a = k) ∧ (tab kf vf n0 c).Perm (tab kf2 vf2 0 m) := by
  intro c
  induction c with
  | zero =>
    intro _
    exact ⟨0, kf, vf, fun _ => none, tbl_0 kf vf, fun a h1 h2 => absurd h2 (by omega), fun k v h => (by cases h), List.Perm.refl _⟩
  | succ c ih =>
    intro hd
    obtain ⟨m, kf2, vf2, M2, h1, h2, h3, h4⟩ := ih (fun a b p q r => hd a b p q (by omega))
    have hno : M2 (kf (n0 + c)) = none := by
      cases hm : M2 (kf (n0 + c)) with
      | none => rfl
      | some v =>
        obtain ⟨a, ha, hb, he⟩ := h3 _ v hm
        exact absurd he (hd a (n0 + c) ha hb (by omega))
    obtain ⟨j, hj⟩ := plc_ex (kf (n0 + c)) h1.1
    refine ⟨m + 1, insA kf2 j m (kf (n0 + c)), insA vf2 j m (vf (n0 + c)), mset M2 (kf (n0 + c)) (vf (n0 + c)), tbl_ins h1 hj hno, fun a ha hb => ?_, fun k v hk => ?_, ?_⟩
    · rcases Nat.lt_or_ge a (n0 + c) with q | q
      · rw [mset_ne _ _ _ (hd a (n0 + c) ha q (by omega))]; exact h2 a ha q
      · obtain rfl : a = n0 + c := by omega
        exact mset_at _ _ _
    · by_cases e : k = kf (n0 + c)
      · exact ⟨n0 + c, by omega, by omega, e.symm⟩
      · rw [mset_ne _ _ _ e] at hk
        obtain ⟨a, ha, hb, he⟩ := h3 k v hk
        exact ⟨a, ha, by omega, he⟩
    · rw [tab_snoc]
      refine (List.perm_append_comm.trans ?_).trans (tab_insA hj.1)
      exact h4.cons _
theorem tab_dK {kf vf : Nat → Int32} : ∀ {c n0 : Nat}, (∀ a b, n0 ≤ a → a < b → b < n0 + c → kf a ≠ kf b) → dK (tab kf vf n0 c) := by
  intro c
  induction c with
  | zero => intro _ _; exact List.Pairwise.nil
  | succ c ih =>
    intro n0 hd
    rw [tab_s]
    refine List.pairwise_cons.mpr ⟨fun x hx => ?_, ih (fun a b p q r => hd a b (by omega) q (by omega))⟩
    obtain ⟨j, hj⟩ := List.getElem?_of_mem hx
    rw [tab_get] at hj
    by_cases hc : j < c
    · rw [if_pos hc] at hj
      cases hj
      exact hd n0 (n0 + 1 + j) (Nat.le_refl _) (by omega) (by omega)
    · rw [if_neg hc] at hj; cases hj
def jnU (F : mgF) (Ls : Nat → List (Int32 × Int32)) : Nat → List (Int32 × Int32) → Nat → Prop
  | 0, J, t => J = [] ∧ t = 0
  | s + 1, J, t => ∃ J0 t0 M t1 n0 n kf vf, jnU F Ls s J0 t0 ∧ mgL F (Ls s) (fun _ => none, 0) = some (M, t1) ∧ tbU n0 n kf vf M ∧ n0 ≤ n ∧ J = J0 ++ tab kf vf n0 (n - n0) ∧ t = t0 + t1
theorem jnU_L {F : mgF} {Ls : Nat → List (Int32 × Int32)} : ∀ {spl : Nat} {V : List (Int32 × Int32)} {t : Nat}, jnU F Ls spl V t → ∃ V2, jnL F Ls spl V2 t ∧ V2.length = V.length ∧ ∀ (F2 : mgF) (S : mapT × Nat), mgL F2 V S = mgL F2 V2 S := by
  intro spl
  induction spl with
  | zero =>
    rintro V t ⟨rfl, rfl⟩
    exact ⟨[], ⟨rfl, rfl⟩, rfl, fun _ _ => rfl⟩
  | succ s ih =>
    rintro V t ⟨J0, t0, M, t1, n0, n, kf, vf, h1, h2, h3, h4, rfl, rfl⟩
    obtain ⟨V2, g1, g2, g3⟩ := ih h1
    have hd : ∀ a b, n0 ≤ a → a < b → b < n0 + (n - n0) → kf a ≠ kf b := fun a b p q r => h3.1 a b p q (by omega)
    obtain ⟨m, kf2, vf2, M2, e1, e2, e3, e4⟩ := sortU (vf := vf) hd
    have hM : M2 = M := by
      funext k
      cases hk : M k with
      | some v =>
        obtain ⟨a, ha, hb, he⟩ := h3.2.2 k v hk
        have q1 := h3.2.1 a ha hb
        rw [he, hk] at q1
        rw [← he, e2 a ha (by omega), ← q1]
      | none =>
        cases hk2 : M2 k with
        | none => rfl
        | some v =>
          obtain ⟨a, ha, hb, he⟩ := e3 k v hk2
          have q1 := h3.2.1 a ha (by omega)
          rw [he, hk] at q1
          cases q1
    subst hM
    refine ⟨V2 ++ tab kf2 vf2 0 m, ⟨V2, t0, M2, t1, _, g1, h2, ⟨m, kf2, vf2, e1, rfl⟩, rfl, rfl⟩, ?_, fun F2 S => ?_⟩
    · rw [List.length_append, List.length_append, g2, e4.length_eq]
    · rw [mgL_app, mgL_app, g3]
      congr 1
      funext S2
      exact mgL_perm e4 (tab_dK hd) F2 S2
/-- where the joining stands at pair i: split s, behind the first n -/
def JI (F : mgF) (kf vf : Nat → Int32) (cc : Nat → Nat) (s i n : Nat) (kx vx : Nat → Int32) (sx : Nat → Nat) (tot : Nat) (n0 : Nat) (M : mapT) (t : Nat) : Prop :=
  cc s ≤ i ∧ i ≤ cc (s + 1) ∧ n0 ≤ n ∧ n ≤ i ∧ tbU n0 n kx vx M ∧ (∀ a, a < n0 → sx a < s) ∧ (∀ a, n0 ≤ a → a < n → sx a = s) ∧
  mgL F (tab kf vf (cc s) (cc (s + 1) - cc s)) (fun _ => none, 0) = mgL F (tab kf vf i (cc (s + 1) - i)) (M, t) ∧
  ∃ t0, jnU F (fun s => tab kf vf (cc s) (cc (s + 1) - cc s)) s (tab kx vx 0 n0) t0 ∧ tot = t0 + t
theorem JI.nextS {F : mgF} {kf vf : Nat → Int32} {cc : Nat → Nat} {s i n : Nat} {kx vx : Nat → Int32} {sx : Nat → Nat} {tot n0 : Nat} {M : mapT} {t : Nat} (h : JI F kf vf cc s i n kx vx sx tot n0 M t) (hi : i = cc (s + 1)) (hm : cc (s + 1) ≤ cc (s + 2)) : JI F kf vf cc (s + 1) i n kx vx sx tot n (fun _ => none) 0 := by
  obtain ⟨h1, h2, h3, h4, h5, h6, h7, h8, t0, h9, h10⟩ := h
  have h8' : mgL F (tab kf vf (cc s) (cc (s + 1) - cc s)) (fun _ => none, 0) = some (M, t) := by
    rw [h8, show cc (s + 1) - i = 0 by omega]; rfl
  refine ⟨by omega, by show i ≤ cc (s + 2); omega, Nat.le_refl n, h4, ⟨fun a b p q r => by omega, fun a p q => by omega, fun k v q => by cases q⟩, fun a ha => ?_, fun a p q => by omega, ?_, tot, ⟨tab kx vx 0 n0, t0, M, t, n0, n, kx, vx, h9, h8', h5, h3, ?_, h10⟩, rfl⟩
  · rcases Nat.lt_or_ge a n0 with q | q
    · have := h6 a q; omega
    · have := h7 a q ha; omega
  · subst hi; rfl
  · conv => lhs; rw [show n = n0 + (n - n0) by omega, tab_add, Nat.zero_add]
theorem JI.adv {F : mgF} {kf vf : Nat → Int32} {cc : Nat → Nat} {i n : Nat} {kx vx : Nat → Int32} {sx : Nat → Nat} {tot : Nat} (hm : ∀ s, cc s ≤ cc (s + 1)) : ∀ (d : Nat) {s n0 : Nat} {M : mapT} {t : Nat}, JI F kf vf cc s i n kx vx sx tot n0 M t → cc (s + d) ≤ i → ∃ n0 M t, JI F kf vf cc (s + d) i n kx vx sx tot n0 M t := by
  intro d
  induction d with
  | zero => intro s n0 M t h _; exact ⟨n0, M, t, h⟩
  | succ d ih =>
    intro s n0 M t h hc
    have hmono : ∀ a b, a ≤ b → cc a ≤ cc b := fun a b hab => by
      obtain ⟨e, rfl⟩ : ∃ e, b = a + e := ⟨b - a, by omega⟩
      induction e with
      | zero => exact Nat.le_refl _
      | succ e ihe => exact Nat.le_trans (ihe (by omega)) (hm (a + e))
    have h1 := hmono (s + 1) (s + (d + 1)) (by omega)
    have h2 := h.2.1
    have := ih (h.nextS (by omega) (hm (s + 1))) (by rw [show s + 1 + d = s + (d + 1) by omega]; exact hc)
    rw [show s + 1 + d = s + (d + 1) by omega] at this
    exact this
