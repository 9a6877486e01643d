/-! the reference's job, out of its parts -/
theorem rwK_PK6 {f : Nat → Int32} {P : List (Int32 × Int32)} {j : Nat} (h : P.length ≤ 600) (hj : j < P.length) : rwK 620 0 f P j = PK P j := by
  unfold rwK
  rw [if_pos ⟨Nat.zero_le j, by omega, by omega⟩]
  rfl
theorem rwV_PV6 {f : Nat → Int32} {P : List (Int32 × Int32)} {j : Nat} (h : P.length ≤ 600) (hj : j < P.length) : rwV 620 0 f P j = PV P j := by
  unfold rwV
  rw [if_pos ⟨Nat.zero_le j, by omega, by omega⟩]
  rfl
section CUTS
variable {op nn rf rg : Nat → Int32} {rn sz : Nat}
theorem cutP_0 : cutP op nn rf rg rn sz 0 = 0 := by
  show (mpP op nn rf rg (min (0 * sz) rn)).length = 0
  rw [Nat.zero_mul, Nat.zero_min]
  rfl
theorem cutP_mono (s : Nat) : cutP op nn rf rg rn sz s ≤ cutP op nn rf rg rn sz (s + 1) := mpP_mono (by
  have : s * sz ≤ (s + 1) * sz := Nat.mul_le_mul_right sz (Nat.le_succ s)
  omega)
theorem cutP_N (hsz : 1 ≤ sz) : cutP op nn rf rg rn sz ((rn + sz - 1) / sz) = (mpP op nn rf rg rn).length := by
  have h1 : rn ≤ (rn + sz - 1) / sz * sz := by
    have h2 := Nat.div_add_mod (rn + sz - 1) sz
    have h3 := Nat.mod_lt (rn + sz - 1) (show 0 < sz from hsz)
    rw [Nat.mul_comm] at h2
    omega
  show (mpP op nn rf rg (min _ rn)).length = _
  rw [Nat.min_eq_right h1]
theorem len_in {j a : Nat} : ∀ {d : Nat}, (mpP op nn rf rg a).length ≤ j → j < (mpP op nn rf rg (a + d)).length → ∃ x, a ≤ x ∧ x < a + d ∧ (mpP op nn rf rg x).length ≤ j ∧ j < (mpP op nn rf rg (x + 1)).length := by
  intro d
  induction d with
  | zero => intro h1 h2; rw [Nat.add_zero] at h2; omega
  | succ d ih =>
    intro h1 h2
    rcases Nat.lt_or_ge j (mpP op nn rf rg (a + d)).length with q | q
    · obtain ⟨x, b1, b2, b3, b4⟩ := ih h1 q
      exact ⟨x, b1, by omega, b3, b4⟩
    · exact ⟨a + d, by omega, by omega, q, h2⟩
theorem sp_ok {sp : Nat → Nat} (hsz : 1 ≤ sz) (hsp : ∀ x, x < rn → ∀ j, (mpP op nn rf rg x).length ≤ j → j < (mpP op nn rf rg (x + 1)).length → sp j = x / sz) :
    ∀ s j, s < (rn + sz - 1) / sz → cutP op nn rf rg rn sz s ≤ j → j < cutP op nn rf rg rn sz (s + 1) → sp j = s := by
  intro s j hs h1 h2
  have h3 := spl_lt hsz hs
  have h4 : (s + 1) * sz = s * sz + sz := by rw [Nat.add_mul, Nat.one_mul]
  have h5 : (mpP op nn rf rg (s * sz)).length ≤ j := by
    have : min (s * sz) rn = s * sz := by omega
    unfold cutP at h1
    rw [this] at h1
    exact h1
  unfold cutP at h2
  rw [show min ((s + 1) * sz) rn = s * sz + (min ((s + 1) * sz) rn - s * sz) by omega] at h2
  obtain ⟨x, b1, b2, b3, b4⟩ := len_in h5 h2
  rw [hsp x (by omega) j b3 b4]
  have b5 : x < (s + 1) * sz := by omega
  exact Nat.div_eq_of_lt_le b1 b5
theorem LS_ok {f g : Nat → Int32} (hP : (mpP op nn rf rg rn).length ≤ 600) (s : Nat) :
    tab (rwK 620 0 f (mpP op nn rf rg rn)) (rwV 620 0 g (mpP op nn rf rg rn)) (cutP op nn rf rg rn sz s) (cutP op nn rf rg rn sz (s + 1) - cutP op nn rf rg rn sz s) = spLs op nn rf rg rn sz s := by
  have hle : cutP op nn rf rg rn sz (s + 1) ≤ (mpP op nn rf rg rn).length := mpP_mono (Nat.min_le_right _ _)
  exact tab_congr (fun j ha hb => ⟨rwK_PK6 hP (by omega), rwV_PV6 hP (by omega)⟩)
end CUTS
theorem va_upNe {α : Type} {f : Nat → α} {k j : Nat} {x : α} (h : j ≠ k) : va_up f k x j = f j := if_neg h
/-- what join leaves -/
def JoinF (op nn : Nat → Int32) (l1 : Nat) (Ls : Nat → List (Int32 × Int32)) (spl : Nat) (kf vf : Nat → Int32) (prs : Nat) (to : Nat → Nat) (err : Int32) (kf2 vf2 : Nat → Int32) (prs2 : Nat) (to2 : Nat → Nat) (err2 r2 : Int32) : Prop :=
  (l1 = 0 ∧ r2 = -1 ∧ kf2 = kf ∧ vf2 = vf ∧ prs2 = prs ∧ to2 = to ∧ err2 = err) ∨ (l1 ≠ 0 ∧ joinL (pF op nn) Ls spl r2 ∧ err2 = (if r2 = -1 then err else r2) ∧ prs2 ≤ 600 ∧ (r2 = -1 → ∃ tot, jnU (pF op nn) Ls spl (tab kf2 vf2 0 prs2) tot ∧ to2 = va_up to 5 (to 5 + tot)))
section JO7
variable {op0 nn0 op1 nn1 op2 nn2 op3 nn3 rf rg : Nat → Int32} {len1 len3 rn sz : Nat}
theorem join_out {kf vf kf2 vf2 : Nat → Int32} {prs2 : Nat} {to to2 : Nat → Nat} {err err2 r2 : Int32} (hP : (mpP op0 nn0 rf rg rn).length ≤ 600)
    (h : JoinF op1 nn1 len1 (fun s => spLs op0 nn0 rf rg rn sz s) ((rn + sz - 1) / sz) (rwK 620 0 kf (mpP op0 nn0 rf rg rn)) (rwV 620 0 vf (mpP op0 nn0 rf rg rn)) (mpP op0 nn0 rf rg rn).length to err kf2 vf2 prs2 to2 err2 r2) (hr : r2 = -1) :
    ∃ V t1, joinO op1 nn1 len1 (spLs op0 nn0 rf rg rn sz) ((rn + sz - 1) / sz) (mpP op0 nn0 rf rg rn) r2 V t1 ∧ V.length = prs2 ∧ (∀ (F2 : mgF) (S : mapT × Nat), mgL F2 (tab kf2 vf2 0 prs2) S = mgL F2 V S) ∧ to2 = va_up to 5 (to 5 + t1) ∧ prs2 ≤ 600 ∧ err2 = err := by
  rcases h with ⟨h1, h2, rfl, rfl, rfl, rfl, h7⟩ | ⟨h1, h2, h3, h4, h5⟩
  · refine ⟨_, 0, Or.inl ⟨h1, h2, rfl, rfl⟩, rfl, fun F2 S => ?_, (z_up_self _ _).symm, hP, h7⟩
    have e : tab (rwK 620 0 kf (mpP op0 nn0 rf rg rn)) (rwV 620 0 vf (mpP op0 nn0 rf rg rn)) 0 (mpP op0 nn0 rf rg rn).length = mpP op0 nn0 rf rg rn :=
      (tab_congr (fun j ha hb => ⟨rwK_PK6 hP (by omega), rwV_PV6 hP (by omega)⟩)).trans (tab_PK _)
    rw [e]
  · obtain ⟨tot, hU, ht⟩ := h5 hr
    obtain ⟨V2, g1, g2, g3⟩ := jnU_L hU
    refine ⟨V2, tot, Or.inr ⟨h1, h2, fun _ => g1⟩, ?_, g3, ht, h4, by rw [h3, if_pos hr]⟩
    rw [g2, tab_len]
theorem join_bad {kf vf kf2 vf2 : Nat → Int32} {prs prs2 : Nat} {to to2 : Nat → Nat} {err err2 r2 r0 : Int32} (hm : mapR op0 nn0 rf rg rn r0) (hm0 : r0 = -1)
    (h : JoinF op1 nn1 len1 (fun s => spLs op0 nn0 rf rg rn sz s) ((rn + sz - 1) / sz) kf vf prs to err kf2 vf2 prs2 to2 err2 r2) (hr : ¬ r2 = -1) :
    jobR op0 nn0 op1 nn1 op2 nn2 op3 nn3 len1 len3 rf rg rn sz (r2, [], cE r2) ∧ err2 = r2 := by
  rcases h with ⟨h1, h2, -⟩ | ⟨h1, h2, h3, h4, h5⟩
  · exact absurd h2 hr
  · exact ⟨⟨r0, hm, Or.inr ⟨hm0, r2, [], 0, Or.inr ⟨h1, h2, fun q => absurd q hr⟩, Or.inl ⟨hr, rfl⟩⟩⟩, by rw [h3, if_neg hr]⟩
theorem job_map {r0 : Int32} (hm : mapR op0 nn0 rf rg rn r0) (h0 : ¬ r0 = -1) : jobR op0 nn0 op1 nn1 op2 nn2 op3 nn3 len1 len3 rf rg rn sz (r0, [], cE r0) := ⟨r0, hm, Or.inl ⟨h0, rfl⟩⟩
theorem job_fold {r0 r1 : Int32} {V : List (Int32 × Int32)} {t1 : Nat} {o : oT} (hm : mapR op0 nn0 rf rg rn r0) (h0 : r0 = -1) (hj : joinO op1 nn1 len1 (spLs op0 nn0 rf rg rn sz) ((rn + sz - 1) / sz) (mpP op0 nn0 rf rg rn) r1 V t1) (h1 : r1 = -1)
    (hf : foldO op2 nn2 op3 nn3 len3 V (mpP op0 nn0 rf rg rn).length (mpS op0 nn0 rf rg rn) t1 o) : jobR op0 nn0 op1 nn1 op2 nn2 op3 nn3 len1 len3 rf rg rn sz o := ⟨r0, hm, Or.inr ⟨h0, r1, V, t1, hj, Or.inr ⟨h1, hf⟩⟩⟩
/-- what end leaves -/
def EndF (op nn : Nat → Int32) (l3 : Nat) (xk xv : Nat → Int32) (rs : Nat) (to : Nat → Nat) (err : Int32) (xk2 xv2 : Nat → Int32) (n2 : Nat) (to2 : Nat → Nat) (err2 r2 : Int32) : Prop :=
  (l3 = 0 ∧ r2 = -1 ∧ n2 = rs ∧ xk2 = xk ∧ xv2 = xv ∧ to2 = to ∧ err2 = err) ∨ (l3 ≠ 0 ∧ endR op nn xk xv rs r2 ∧ err2 = (if r2 = -1 then err else r2) ∧ n2 ≤ 600 ∧ (r2 = -1 → n2 = (enK op nn xk xv rs).length ∧ (∀ j, j < n2 → (xk2 j, xv2 j) = (enK op nn xk xv rs).getD j (0, 0)) ∧ to2 = va_up to 7 (to 7 + enS op nn xk xv rs)))
theorem end_bad {xk xv xk2 xv2 : Nat → Int32} {rs n2 a b d e f : Nat} {to to2 : Nat → Nat} {err err2 r2 : Int32} (h : EndF op3 nn3 len3 xk xv rs to err xk2 xv2 n2 to2 err2 r2) (hr : ¬ r2 = -1) : endO op3 nn3 len3 xk xv rs a b d e f (r2, [], cE r2) ∧ err2 = r2 ∧ n2 ≤ 600 := by
  rcases h with ⟨h1, h2, -⟩ | ⟨h1, h2, h3, h4, h5⟩
  · exact absurd h2 hr
  · exact ⟨⟨r2, Or.inr ⟨h1, h2⟩, Or.inl ⟨hr, rfl⟩⟩, by rw [h3, if_neg hr], h4⟩
theorem end_out {xk xv xk2 xv2 : Nat → Int32} {rs n2 a b d e f : Nat} {to to2 : Nat → Nat} {err err2 r2 : Int32} (hrs : rs ≤ 600) (h : EndF op3 nn3 len3 xk xv rs to err xk2 xv2 n2 to2 err2 r2) (hr : r2 = -1) :
    ∃ R t3, endO op3 nn3 len3 xk xv rs a b d e f (-1, R, cOK a b rs d e f t3) ∧ n2 = R.length ∧ n2 ≤ 600 ∧ (∀ j, j < n2 → (xk2 j, xv2 j) = R.getD j (0, 0)) ∧ to2 = va_up to 7 (to 7 + t3) ∧ err2 = err := by
  rcases h with ⟨h1, h2, rfl, rfl, rfl, rfl, h7⟩ | ⟨h1, h2, h3, h4, h5⟩
  · refine ⟨tab xk2 xv2 0 n2, 0, ⟨r2, Or.inl ⟨h1, h2⟩, Or.inr ⟨hr, by rw [if_pos h1, if_pos h1]⟩⟩, tab_len.symm, hrs, fun j hj => ?_, (z_up_self _ _).symm, h7⟩
    rw [List.getD_eq_getElem?_getD, tab_get, if_pos hj, Nat.zero_add]; rfl
  · obtain ⟨g1, g2, g3⟩ := h5 hr
    exact ⟨_, _, ⟨r2, Or.inr ⟨h1, h2⟩, Or.inr ⟨hr, by rw [if_neg h1, if_neg h1]⟩⟩, g1, h4, g2, g3, by rw [h3, if_pos hr]⟩
theorem told_ok {a b c d e f g : Nat} {t1 t2 t3 t4 t5 : Nat → Nat} (h1 : t1 = va_up (va_up (fun _ => 0) 4 (0 + d)) 1 a) (h2 : t2 = va_up t1 5 (t1 5 + e)) (h3 : t3 = va_up t2 2 b) (h4 : t4 = va_up (va_up t3 6 (t3 6 + f)) 3 c) (h5 : t5 = va_up t4 7 (t4 7 + g)) :
    ∀ j, 1 ≤ j → j ≤ 7 → nI (t5 j) = cOK a b c d e f g j := by
  intro j ha hb
  subst h5 h4 h3 h2 h1
  rcases (show j = 1 ∨ j = 2 ∨ j = 3 ∨ j = 4 ∨ j = 5 ∨ j = 6 ∨ j = 7 by omega) with rfl | rfl | rfl | rfl | rfl | rfl | rfl <;> simp [va_up, cOK]
end JO7
