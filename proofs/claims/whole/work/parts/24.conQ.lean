theorem z_m1 (m : Nat) : nI m + Int32.ofInt (-1) = nI m - nI 1 := by
  rw [Int32.sub_eq_add_neg]
  rfl
theorem va_up_ne2 {α : Type} {f : Nat → α} {k j : Nat} {x : α} (h : k ≠ j) : va_up f k x j = f j := if_neg (fun q => h q.symm)
theorem cc_mono {cc : Nat → Nat} (hm : ∀ s, cc s ≤ cc (s + 1)) : ∀ a b, a ≤ b → cc a ≤ cc b := fun a b hab => by
  obtain ⟨e, rfl⟩ : ∃ e, b = a + e := ⟨b - a, by omega⟩
  clear hab
  induction e with
  | zero => exact Nat.le_refl _
  | succ e ihe => exact Nat.le_trans ihe (hm (a + e))
theorem cut_ex {cc : Nat → Nat} (h0 : cc 0 = 0) : ∀ {spl i : Nat}, i < cc spl → ∃ s, s < spl ∧ cc s ≤ i ∧ i < cc (s + 1) := by
  intro spl
  induction spl with
  | zero => intro i h; omega
  | succ n ih =>
    intro i h
    rcases Nat.lt_or_ge i (cc n) with q | q
    · obtain ⟨s, h1, h2, h3⟩ := ih q
      exact ⟨s, by omega, h2, h3⟩
    · exact ⟨n, Nat.lt_succ_self n, q, h⟩
section JOI
variable {F : mgF} {kf vf : Nat → Int32} {cc : Nat → Nat} {s i n : Nat} {kx vx : Nat → Int32} {sx : Nat → Nat} {tot n0 : Nat} {M : mapT} {t : Nat}
theorem JI_0 (h0 : cc 0 = 0) (hm : ∀ s, cc s ≤ cc (s + 1)) : JI F kf vf cc 0 0 0 kx vx sx 0 0 (fun _ => none) 0 := by
  refine ⟨by omega, Nat.zero_le _, Nat.le_refl 0, Nat.le_refl 0, ⟨fun a b p q r => by omega, fun a p q => by omega, fun k v q => by cases q⟩, fun a ha => by omega, fun a p q => by omega, ?_, 0, ⟨rfl, rfl⟩, rfl⟩
  rw [h0]
theorem JI.sle (h : JI F kf vf cc s i n kx vx sx tot n0 M t) : ∀ a, a < n → sx a ≤ s := fun a ha => by
  rcases Nat.lt_or_ge a n0 with q | q
  · have := h.2.2.2.2.2.1 a q; omega
  · have := h.2.2.2.2.2.2.1 a q ha; omega
theorem JI.absent (h : JI F kf vf cc s i n kx vx sx tot n0 M t) {key : Int32} (hno : ∀ a, a < n → ¬ (sx a = s ∧ kx a = key)) : M key = none := by
  cases hm : M key with
  | none => rfl
  | some v =>
    obtain ⟨a, ha, hb, he⟩ := h.2.2.2.2.1.2.2 key v hm
    exact absurd ⟨h.2.2.2.2.2.2.1 a ha hb, he⟩ (hno a hb)
theorem JI.get (h : JI F kf vf cc s i n kx vx sx tot n0 M t) {a : Nat} {key : Int32} (ha : n0 ≤ a) (hb : a < n) (he : kx a = key) : M key = some (vx a) := by
  rw [← he]; exact h.2.2.2.2.1.2.1 a ha hb
theorem JI.step1 (h : JI F kf vf cc s i n kx vx sx tot n0 M t) (hi : i < cc (s + 1)) : mgL F (tab kf vf (cc s) (cc (s + 1) - cc s)) (fun _ => none, 0) = mgL F ((kf i, vf i) :: tab kf vf (i + 1) (cc (s + 1) - (i + 1))) (M, t) := by
  rw [h.2.2.2.2.2.2.2.1, show cc (s + 1) - i = (cc (s + 1) - (i + 1)) + 1 by omega, tab_s]
theorem JI.new (h : JI F kf vf cc s i n kx vx sx tot n0 M t) (hi : i < cc (s + 1)) (hk : kx i = kf i) (hv : vx i = vf i) (hs : sx i = s) (hM : M (kf i) = none) :
    JI F kf vf cc s (i + 1) (n + 1) (upd kx n (kx i)) (upd vx n (vx i)) (va_up sx n (sx i)) tot n0 (mset M (kf i) (vf i)) t := by
  have h8 := h.step1 hi
  obtain ⟨h1, h2, h3, h4, h5, h6, h7, -, t0, h9, h10⟩ := h
  have eK : ∀ a, a < n → upd kx n (kx i) a = kx a := fun a ha => en_upd (by omega)
  have eV : ∀ a, a < n → upd vx n (vx i) a = vx a := fun a ha => en_upd (by omega)
  have aK : upd kx n (kx i) n = kf i := by show (if n = n then kx i else kx n) = _; rw [if_pos rfl, hk]
  have aV : upd vx n (vx i) n = vf i := by show (if n = n then vx i else vx n) = _; rw [if_pos rfl, hv]
  have hne : ∀ a, n0 ≤ a → a < n → kx a ≠ kf i := fun a ha hb e => by
    have := h5.2.1 a ha hb
    rw [e, hM] at this; cases this
  refine ⟨by omega, by omega, by omega, by omega, ⟨fun a b p q r => ?_, fun a p q => ?_, fun k v q => ?_⟩, fun a ha => ?_, fun a p q => ?_, ?_, t0, ?_, h10⟩
  · rcases Nat.lt_or_ge b n with z | z
    · rw [eK a (by omega), eK b z]; exact h5.1 a b p q z
    · obtain rfl : b = n := by omega
      rw [eK a q, aK]; exact hne a p q
  · rcases Nat.lt_or_ge a n with z | z
    · rw [eK a z, eV a z, mset_ne _ _ _ (hne a p z)]; exact h5.2.1 a p z
    · obtain rfl : a = n := by omega
      rw [aK, aV, mset_at]
  · by_cases e : k = kf i
    · exact ⟨n, h3, Nat.lt_succ_self n, by rw [aK, e]⟩
    · rw [mset_ne _ _ _ e] at q
      obtain ⟨a, ha, hb, he⟩ := h5.2.2 k v q
      exact ⟨a, ha, by omega, by rw [eK a hb]; exact he⟩
  · rw [va_up_ne2 (by omega)]; exact h6 a ha
  · rcases Nat.lt_or_ge a n with z | z
    · rw [va_up_ne2 (by omega)]; exact h7 a p z
    · obtain rfl : a = n := by omega
      show (if a = a then sx i else sx a) = s
      rw [if_pos rfl]; exact hs
  · rw [h8, mgL_new hM]
  · have e : tab (upd kx n (kx i)) (upd vx n (vx i)) 0 n0 = tab kx vx 0 n0 := tab_congr (fun j _ hj => ⟨eK j (by omega), eV j (by omega)⟩)
    rw [e]; exact h9
theorem JI.old (h : JI F kf vf cc s i n kx vx sx tot n0 M t) (hi : i < cc (s + 1)) (_ : kx i = kf i) {a : Nat} {r : Int32} {u : Nat} (ha : n0 ≤ a) (hb : a < n) (hk : kx a = kf i) (hF : F (kf i) (vx a) (vf i) = some (r, u)) :
    JI F kf vf cc s (i + 1) n kx (upd vx a r) sx (tot + u) n0 (mset M (kf i) r) (t + u) := by
  have h8 := h.step1 hi
  have hg := h.get ha hb hk
  obtain ⟨h1, h2, h3, h4, h5, h6, h7, -, t0, h9, h10⟩ := h
  refine ⟨by omega, by omega, h3, by omega, ⟨h5.1, fun b p q => ?_, fun k v q => ?_⟩, h6, h7, ?_, t0, ?_, by omega⟩
  · show mset M (kf i) r (kx b) = some (if b = a then r else vx b)
    by_cases e : b = a
    · subst e; rw [if_pos rfl, hk, mset_at]
    · rw [if_neg e]
      have hne : kx b ≠ kf i := fun z => by
        rcases Nat.lt_or_ge b a with w | w
        · exact h5.1 b a p w hb (z.trans hk.symm)
        · exact h5.1 a b ha (by omega) q (hk.trans z.symm)
      rw [mset_ne _ _ _ hne]; exact h5.2.1 b p q
  · by_cases e : k = kf i
    · exact ⟨a, ha, hb, by rw [hk, e]⟩
    · rw [mset_ne _ _ _ e] at q; exact h5.2.2 k v q
  · rw [h8, mgL_old hg hF]
  · have e : tab kx (upd vx a r) 0 n0 = tab kx vx 0 n0 := tab_congr (fun j _ hj => ⟨rfl, en_upd (by omega)⟩)
    rw [e]; exact h9
theorem JI.fail (h : JI F kf vf cc s i n kx vx sx tot n0 M t) (hi : i < cc (s + 1)) {a : Int32} (hM : M (kf i) = some a) (hF : F (kf i) a (vf i) = none) : mgL F (tab kf vf (cc s) (cc (s + 1) - cc s)) (fun _ => none, 0) = none := by
  rw [h.step1 hi, mgL_fail hM hF]
end JOI
theorem jnU_ok {F : mgF} {Ls : Nat → List (Int32 × Int32)} : ∀ {spl : Nat} {V : List (Int32 × Int32)} {t : Nat}, jnU F Ls spl V t → ∀ x, x < spl → mgL F (Ls x) (fun _ => none, 0) ≠ none := by
  intro spl
  induction spl with
  | zero => intro V t _ x hx; omega
  | succ s ih =>
    rintro V t ⟨J0, t0, M, t1, n0, n, kf, vf, h1, h2, -, -, -, -⟩ x hx
    rcases Nat.lt_or_ge x s with q | q
    · exact ih h1 x q
    · obtain rfl : x = s := by omega
      rw [h2]; exact fun z => by cases z
theorem JI.before {F : mgF} {kf vf : Nat → Int32} {cc : Nat → Nat} {s i n : Nat} {kx vx : Nat → Int32} {sx : Nat → Nat} {tot n0 : Nat} {M : mapT} {t : Nat} (h : JI F kf vf cc s i n kx vx sx tot n0 M t) : ∀ x, x < s → mgL F (tab kf vf (cc x) (cc (x + 1) - cc x)) (fun _ => Option.none, 0) ≠ Option.none := by
  obtain ⟨-, -, -, -, -, -, -, -, t0, h9, -⟩ := h
  exact jnU_ok h9
theorem JI_end {F : mgF} {kf vf : Nat → Int32} {cc : Nat → Nat} {s i n spl : Nat} {kx vx : Nat → Int32} {sx : Nat → Nat} {tot n0 : Nat} {M : mapT} {t : Nat} (hm : ∀ s, cc s ≤ cc (s + 1)) (hN : cc spl = i) (hs : s < spl ∨ (spl = 0 ∧ s = 0 ∧ n = 0 ∧ tot = 0)) (h : JI F kf vf cc s i n kx vx sx tot n0 M t) :
    ∃ tt, jnU F (fun s => tab kf vf (cc s) (cc (s + 1) - cc s)) spl (tab kx vx 0 n) tt ∧ tot = tt := by
  rcases hs with hs | ⟨rfl, rfl, rfl, rfl⟩
  · have hmo := cc_mono hm
    obtain ⟨n1, M1, t1, h1⟩ := JI.adv hm (spl - 1 - s) h (by have := hmo (s + (spl - 1 - s)) spl (by omega); omega)
    rw [show s + (spl - 1 - s) = spl - 1 by omega] at h1
    have h2 := h1.nextS (by rw [show spl - 1 + 1 = spl by omega]; exact hN.symm) (hm _)
    rw [show spl - 1 + 1 = spl by omega] at h2
    obtain ⟨-, -, -, -, -, -, -, -, t0, h9, h10⟩ := h2
    exact ⟨t0, h9, by omega⟩
  · exact ⟨0, ⟨rfl, rfl⟩, rfl⟩
set_option maxHeartbeats 4000000 in
set_option maxRecDepth 100000 in
theorem join7_0 (l_ : Launch) (E : zE) (y : Nat) (sz : Nat) (yrk : Nat) (yrv : Nat) (rn : Nat) (yop : Nat) (ynu : Nat) (yle : Nat) (yk : Nat) (yv : Nat) (ysp : Nat) (prs : Nat) (yxk : Nat) (yxv : Nat) (rs : Nat) (err : Int32) (yto : Nat) (yst : Nat) (ylo : Nat) (stp : Nat) (res : Int32) (wo : Nat) (ln : Nat → Nat) (hln : ln 1 = 0) : zMi l_ E yX7_join (zTs yX7_join cX7_join 4 (some .boolean)) ({ frames := 2, cells := 0, slots := 0, locals := 54 } : Room) [.ref y] [(y, zo 7 [.int (nI sz), .ref yrk, .ref yrv, .int (nI rn), .ref yop, .ref ynu, .ref yle, .ref yk, .ref yv, .ref ysp, .int (nI prs), .ref yxk, .ref yxv, .int (nI rs), .int err, .ref yto, .ref yst, .ref ylo, .int (nI stp), .int res, .int (nI wo)]), (yle, zi E 4 (zn ln))] (fun r_ w_ => (r_ = (nI 1) ∧ w_ = [(y, zo 7 [.int (nI sz), .ref yrk, .ref yrv, .int (nI rn), .ref yop, .ref ynu, .ref yle, .ref yk, .ref yv, .ref ysp, .int (nI prs), .ref yxk, .ref yxv, .int (nI rs), .int err, .ref yto, .ref yst, .ref ylo, .int (nI stp), .int res, .int (nI wo)]), (yle, zi E 4 (zn ln))])) 0 0 := by
  refine zMi.of (cc := cX7_join) (nL := 4) (ret := (some .boolean)) (by decide) rfl (Nat.le_of_ble_eq_true rfl) ?_
  intro p_ e_ s_ m_ args_ below_ meth_ c_ A_ C0 hin0
  have C0 : zC E p_ s_ m_ args_ meth_ c_ cX7_join 4 (some .boolean) RX7 (zTs yX7_join cX7_join 4 (some .boolean)) A_ := C0
  refine z_eqL (L1 := [(0, .ref y)]) rfl ?_
  refine z_aload_n 1 C0 0 dX7_join_0 rfl rfl rfl ?_
  refine z_get 4 C0 0 6 wz_7 rfl (by decide) (zTs_in wk_454) dX7_join_1 rfl rfl rfl ?_
  refine z_iconst 5 C0 (v := (nI 1)) dX7_join_4 rfl rfl ?_
  refine z_ialdN 6 C0 1 (v := (nI (ln 1))) dX7_join_5 rfl rfl (by omega) (by decide) rfl ?_
  refine z_eq (L1 := [(0, .ref y)]) (st1 := [.int (nI 0)]) (w1 := [(y, zo 7 [.int (nI sz), .ref yrk, .ref yrv, .int (nI rn), .ref yop, .ref ynu, .ref yle, .ref yk, .ref yv, .ref ysp, .int (nI prs), .ref yxk, .ref yxv, .int (nI rs), .int err, .ref yto, .ref yst, .ref ylo, .int (nI stp), .int res, .int (nI wo)]), (yle, zi E 4 (zn ln))]) rfl (by rw [hln]) rfl ?_
  refine z_if_neN 9 11 C0 (by decide) dX7_join_6 rfl (by decide) (fun k6 => absurd k6 (by omega)) (fun k6 => ?_)
  refine z_iconst 10 C0 (v := (nI 1)) dX7_join_9 rfl rfl ?_
  exact z_zret C0 rfl rfl dX7_join_10 ⟨rfl, rfl⟩ (by decide) (by decide)

set_option maxHeartbeats 4000000 in
set_option maxRecDepth 100000 in
theorem join7_1 (l_ : Launch) (E : zE) (y : Nat) (sz : Nat) (yrk : Nat) (yrv : Nat) (rn : Nat) (yop : Nat) (ynu : Nat) (yle : Nat) (yk : Nat) (yv : Nat) (ysp : Nat) (prs : Nat) (yxk : Nat) (yxv : Nat) (rs : Nat) (err : Int32) (yto : Nat) (yst : Nat) (ylo : Nat) (stp : Nat) (res : Int32) (wo : Nat) (oo : Nat → Option Nat) (nu : Nat → Option Nat) (ra : Nat) (rb : Nat) (op : Nat → Int32) (nn : Nat → Int32) (kf : Nat → Int32) (vf : Nat → Int32) (sp : Nat → Nat) (st : Nat → Int32) (lo : Nat → Int32) (to : Nat → Nat) (ln : Nat → Nat) (cc : Nat → Nat) (spl : Nat) (hoo : oo 1 = some ra) (hnu : nu 1 = some rb) (hG : Good 1 op nn (ln 1)) (hlen : ln 1 ≤ 64) (hprs : prs ≤ 600) (hspl : spl ≤ 120) (hc0 : cc 0 = 0) (hcm : ∀ s, cc s ≤ cc (s + 1)) (hcN : cc spl = prs) (hsp : ∀ s j, s < spl → cc s ≤ j → j < cc (s + 1) → sp j = s) : zMi l_ E yX7_join (zTs yX7_join cX7_join 4 (some .boolean)) ({ frames := 2, cells := 0, slots := 0, locals := 54 } : Room) [.ref y] [(y, zo 7 [.int (nI sz), .ref yrk, .ref yrv, .int (nI rn), .ref yop, .ref ynu, .ref yle, .ref yk, .ref yv, .ref ysp, .int (nI prs), .ref yxk, .ref yxv, .int (nI rs), .int err, .ref yto, .ref yst, .ref ylo, .int (nI stp), .int res, .int (nI wo)]), (yop, zg E 4 oo), (ra, zi E 64 op), (ynu, zg E 4 nu), (rb, zi E 64 nn), (yk, zi E 620 kf), (yv, zi E 620 vf), (ysp, zi E 620 (zn sp)), (yst, zi E 8 st), (ylo, zi E 4 lo), (yto, zi E 8 (zn to)), (yle, zi E 4 (zn ln))] (fun r_ w_ => ∃ prs2 : Nat, ∃ kf2 : Nat → Int32, ∃ vf2 : Nat → Int32, ∃ sp2 : Nat → Nat, ∃ st2 : Nat → Int32, ∃ lo2 : Nat → Int32, ∃ to2 : Nat → Nat, ∃ stp2 : Nat, ∃ res2 : Int32, ∃ wo2 : Nat, ∃ err2 : Int32, ∃ r2 : Int32, (r_ = (zb (r2 = -1)) ∧ w_ = [(y, zo 7 [.int (nI sz), .ref yrk, .ref yrv, .int (nI rn), .ref yop, .ref ynu, .ref yle, .ref yk, .ref yv, .ref ysp, .int (nI prs2), .ref yxk, .ref yxv, .int (nI rs), .int err2, .ref yto, .ref yst, .ref ylo, .int (nI stp2), .int res2, .int (nI wo2)]), (yop, zg E 4 oo), (ra, zi E 64 op), (ynu, zg E 4 nu), (rb, zi E 64 nn), (yk, zi E 620 kf2), (yv, zi E 620 vf2), (ysp, zi E 620 (zn sp2)), (yst, zi E 8 st2), (ylo, zi E 4 lo2), (yto, zi E 8 (zn to2)), (yle, zi E 4 (zn ln))]) ∧ (joinL (pF op nn) (fun s => tab kf vf (cc s) (cc (s + 1) - cc s)) spl r2) ∧ (err2 = (if r2 = -1 then err else r2)) ∧ (prs2 ≤ 600) ∧ (r2 = -1 → ∃ tot, jnU (pF op nn) (fun s => tab kf vf (cc s) (cc (s + 1) - cc s)) spl (tab kf2 vf2 0 prs2) tot ∧ to2 = va_up to 5 (to 5 + tot))) 0 0 := by
  refine zMi.of (cc := cX7_join) (nL := 4) (ret := (some .boolean)) (by decide) rfl (Nat.le_of_ble_eq_true rfl) ?_
  intro p_ e_ s_ m_ args_ below_ meth_ c_ A_ C0 hin0
  have C0 : zC E p_ s_ m_ args_ meth_ c_ cX7_join 4 (some .boolean) RX7 (zTs yX7_join cX7_join 4 (some .boolean)) A_ := C0
  refine z_eqL (L1 := [(0, .ref y)]) rfl ?_
  refine z_aload_n 1 C0 0 dX7_join_0 rfl rfl rfl ?_
  refine z_get 4 C0 0 6 wz_7 rfl (by decide) (zTs_in wk_454) dX7_join_1 rfl rfl rfl ?_
  refine z_iconst 5 C0 (v := (nI 1)) dX7_join_4 rfl rfl ?_
  refine z_ialdN 6 C0 11 (v := (nI (ln 1))) dX7_join_5 rfl rfl (by omega) (by decide) rfl ?_
  refine z_if_neN 9 11 C0 (by omega) dX7_join_6 rfl (by decide) (fun k6 => ?_) (fun k6 => absurd k6 (by have := hG.1; omega))
  refine z_iconst 12 C0 (v := (nI 0)) dX7_join_11 rfl rfl ?_
  refine z_istore_n 13 C0 [1, 0] [(0, .ref y), (1, .int (nI 0))] dX7_join_12 rfl rfl (by decide) rfl ?_
  refine z_iconst 14 C0 (v := (nI 0)) dX7_join_13 rfl rfl ?_
  refine z_istore_n 15 C0 [1, 2, 0] [(0, .ref y), (1, .int (nI 0)), (2, .int (nI 0))] dX7_join_14 rfl rfl (by decide) rfl ?_
  have CUT15 : ∀ (N15 : Nat) (i : Nat) (n : Nat) (kx : Nat → Int32) (vx : Nat → Int32) (sx : Nat → Nat) (tot : Nat) (tx : Nat → Nat) (st : Nat → Int32) (lo : Nat → Int32) (stp : Nat) (res : Int32) (wo : Nat), (i ≤ prs) → (∀ j, i ≤ j → j < prs → kx j = kf j ∧ vx j = vf j ∧ sx j = sp j) → (tx = va_up to 5 (to 5 + tot)) → (∃ s n0 M t, (s < spl ∨ (spl = 0 ∧ s = 0 ∧ n = 0 ∧ tot = 0)) ∧ JI (pF op nn) kf vf cc s i n kx vx sx tot n0 M t) → prs - i < N15 → Z E p_ l_ e_ ({ frames := 2, cells := 0, slots := 0, locals := 54 } : Room) s_ m_ args_ below_ meth_ c_ (MQ below_ (va_Qi (fun r_ w_ => ∃ prs2 : Nat, ∃ kf2 : Nat → Int32, ∃ vf2 : Nat → Int32, ∃ sp2 : Nat → Nat, ∃ st2 : Nat → Int32, ∃ lo2 : Nat → Int32, ∃ to2 : Nat → Nat, ∃ stp2 : Nat, ∃ res2 : Int32, ∃ wo2 : Nat, ∃ err2 : Int32, ∃ r2 : Int32, (r_ = (zb (r2 = -1)) ∧ w_ = [(y, zo 7 [.int (nI sz), .ref yrk, .ref yrv, .int (nI rn), .ref yop, .ref ynu, .ref yle, .ref yk, .ref yv, .ref ysp, .int (nI prs2), .ref yxk, .ref yxv, .int (nI rs), .int err2, .ref yto, .ref yst, .ref ylo, .int (nI stp2), .int res2, .int (nI wo2)]), (yop, zg E 4 oo), (ra, zi E 64 op), (ynu, zg E 4 nu), (rb, zi E 64 nn), (yk, zi E 620 kf2), (yv, zi E 620 vf2), (ysp, zi E 620 (zn sp2)), (yst, zi E 8 st2), (ylo, zi E 4 lo2), (yto, zi E 8 (zn to2)), (yle, zi E 4 (zn ln))]) ∧ (joinL (pF op nn) (fun s => tab kf vf (cc s) (cc (s + 1) - cc s)) spl r2) ∧ (err2 = (if r2 = -1 then err else r2)) ∧ (prs2 ≤ 600) ∧ (r2 = -1 → ∃ tot, jnU (pF op nn) (fun s => tab kf vf (cc s) (cc (s + 1) - cc s)) spl (tab kf2 vf2 0 prs2) tot ∧ to2 = va_up to 5 (to 5 + tot))) (zPost E A_) A_) args_ s_ 0 0 A_) A_ 4 15 [(0, .ref y), (1, .int (nI n)), (2, .int (nI i))] [] [(y, zo 7 [.int (nI sz), .ref yrk, .ref yrv, .int (nI rn), .ref yop, .ref ynu, .ref yle, .ref yk, .ref yv, .ref ysp, .int (nI prs), .ref yxk, .ref yxv, .int (nI rs), .int err, .ref yto, .ref yst, .ref ylo, .int (nI stp), .int res, .int (nI wo)]), (yop, zg E 4 oo), (ra, zi E 64 op), (ynu, zg E 4 nu), (rb, zi E 64 nn), (yk, zi E 620 kx), (yv, zi E 620 vx), (ysp, zi E 620 (zn sx)), (yst, zi E 8 st), (ylo, zi E 4 lo), (yto, zi E 8 (zn tx)), (yle, zi E 4 (zn ln))] 0 0 := by
    intro N15
    induction N15 with
    | zero => intro i n kx vx sx tot tx st lo stp res wo hi hag htx hJ hm15; exact absurd hm15 (Nat.not_lt_zero _)
    | succ N15 ih15 =>
      intro i n kx vx sx tot tx st lo stp res wo hi hag htx hJ hm15
      refine z_iload_n 16 C0 2 dX7_join_15 rfl rfl rfl ?_
      refine z_aload_n 17 C0 0 dX7_join_16 rfl rfl rfl ?_
      refine z_get 20 C0 0 10 wz_7 rfl (by decide) (zTs_in wk_458) dX7_join_17 rfl rfl rfl ?_
      refine z_icmp_geN 23 185 C0 (by omega) (by omega) dX7_join_20 rfl (by decide) (fun k20 => ?_) (fun k20 => ?_)
      · skip
        refine z_aload_n 186 C0 0 dX7_join_185 rfl rfl rfl ?_
        refine z_iload_n 187 C0 1 dX7_join_186 rfl rfl rfl ?_
        refine z_put 190 C0 0 10 [(y, zo 7 [.int (nI sz), .ref yrk, .ref yrv, .int (nI rn), .ref yop, .ref ynu, .ref yle, .ref yk, .ref yv, .ref ysp, .int (nI n), .ref yxk, .ref yxv, .int (nI rs), .int err, .ref yto, .ref yst, .ref ylo, .int (nI stp), .int res, .int (nI wo)]), (yop, zg E 4 oo), (ra, zi E 64 op), (ynu, zg E 4 nu), (rb, zi E 64 nn), (yk, zi E 620 kx), (yv, zi E 620 vx), (ysp, zi E 620 (zn sx)), (yst, zi E 8 st), (ylo, zi E 4 lo), (yto, zi E 8 (zn tx)), (yle, zi E 4 (zn ln))] wz_7 rfl (by decide) (zTs_in wk_458) tyX7 tyX7_ok nmX7 rfl rfl rfl rfl dX7_join_187 rfl rfl (Nat.le_of_ble_eq_true rfl) rfl ?_
        refine z_iconst 191 C0 (v := (nI 1)) dX7_join_190 rfl rfl ?_
        obtain rfl : i = prs := by omega
        obtain ⟨s0, n00, M0, t00, hs0, hJ0⟩ := hJ
        have hni : n ≤ i := hJ0.2.2.2.1
        obtain ⟨tt, hU, htt⟩ := JI_end hcm hcN hs0 hJ0
        exact z_zret C0 rfl rfl dX7_join_191 ⟨n, kx, vx, sx, st, lo, tx, stp, res, wo, err, (-1), ⟨(zb_tN rfl), rfl⟩, (Or.inr ⟨jnU_ok hU, rfl⟩), (by rw [if_pos rfl]), (by omega), (fun _ => ⟨tt, hU, by rw [htx, htt]⟩)⟩ (by decide) (by decide)
      · skip
        have hik : kx i = kf i ∧ vx i = vf i ∧ sx i = sp i := hag i (Nat.le_refl i) k20
        obtain ⟨s1, hs1, hc1, hc2⟩ := cut_ex hc0 (spl := spl) (i := i) (by omega)
        obtain ⟨s0, n00, M0, t00, hs0, hJ0⟩ := hJ
        have hmono := cc_mono hcm
        have h01 : s0 ≤ s1 := by rcases Nat.lt_or_ge s1 s0 with q | q; have := hmono (s1 + 1) s0 q; have := hJ0.1; omega; exact q
        obtain ⟨n0, M, t, hJ1⟩ := JI.adv hcm (s1 - s0) hJ0 (by rw [show s0 + (s1 - s0) = s1 by omega]; exact hc1)
        rw [show s0 + (s1 - s0) = s1 by omega] at hJ1
        have hsi : sx i = s1 := by rw [hik.2.2]; exact hsp s1 i hs1 hc1 hc2
        have hni : n ≤ i := hJ1.2.2.2.1
        have hsle := hJ1.sle
        refine z_iload_n 24 C0 1 dX7_join_23 rfl rfl rfl ?_
        refine z_iconst 25 C0 (v := (nI 1)) dX7_join_24 rfl rfl ?_
        refine z_isub 26 C0 (v := (nI n - nI 1)) dX7_join_25 rfl rfl ?_
        refine z_istore_n 27 C0 [1, 2, 3, 0] [(0, .ref y), (1, .int (nI n)), (2, .int (nI i)), (3, .int (nI n - nI 1))] dX7_join_26 rfl rfl (by decide) rfl ?_
        have CUT27 : ∀ (N27 : Nat) (m : Nat), (m ≤ n) → (∀ a, m ≤ a → a < n → ¬ (sx a = sx i ∧ kx a = kx i)) → m < N27 → Z E p_ l_ e_ ({ frames := 2, cells := 0, slots := 0, locals := 54 } : Room) s_ m_ args_ below_ meth_ c_ (MQ below_ (va_Qi (fun r_ w_ => ∃ prs2 : Nat, ∃ kf2 : Nat → Int32, ∃ vf2 : Nat → Int32, ∃ sp2 : Nat → Nat, ∃ st2 : Nat → Int32, ∃ lo2 : Nat → Int32, ∃ to2 : Nat → Nat, ∃ stp2 : Nat, ∃ res2 : Int32, ∃ wo2 : Nat, ∃ err2 : Int32, ∃ r2 : Int32, (r_ = (zb (r2 = -1)) ∧ w_ = [(y, zo 7 [.int (nI sz), .ref yrk, .ref yrv, .int (nI rn), .ref yop, .ref ynu, .ref yle, .ref yk, .ref yv, .ref ysp, .int (nI prs2), .ref yxk, .ref yxv, .int (nI rs), .int err2, .ref yto, .ref yst, .ref ylo, .int (nI stp2), .int res2, .int (nI wo2)]), (yop, zg E 4 oo), (ra, zi E 64 op), (ynu, zg E 4 nu), (rb, zi E 64 nn), (yk, zi E 620 kf2), (yv, zi E 620 vf2), (ysp, zi E 620 (zn sp2)), (yst, zi E 8 st2), (ylo, zi E 4 lo2), (yto, zi E 8 (zn to2)), (yle, zi E 4 (zn ln))]) ∧ (joinL (pF op nn) (fun s => tab kf vf (cc s) (cc (s + 1) - cc s)) spl r2) ∧ (err2 = (if r2 = -1 then err else r2)) ∧ (prs2 ≤ 600) ∧ (r2 = -1 → ∃ tot, jnU (pF op nn) (fun s => tab kf vf (cc s) (cc (s + 1) - cc s)) spl (tab kf2 vf2 0 prs2) tot ∧ to2 = va_up to 5 (to 5 + tot))) (zPost E A_) A_) args_ s_ 0 0 A_) A_ 4 27 [(0, .ref y), (1, .int (nI n)), (2, .int (nI i)), (3, .int (nI m - nI 1))] [] [(y, zo 7 [.int (nI sz), .ref yrk, .ref yrv, .int (nI rn), .ref yop, .ref ynu, .ref yle, .ref yk, .ref yv, .ref ysp, .int (nI prs), .ref yxk, .ref yxv, .int (nI rs), .int err, .ref yto, .ref yst, .ref ylo, .int (nI stp), .int res, .int (nI wo)]), (yop, zg E 4 oo), (ra, zi E 64 op), (ynu, zg E 4 nu), (rb, zi E 64 nn), (yk, zi E 620 kx), (yv, zi E 620 vx), (ysp, zi E 620 (zn sx)), (yst, zi E 8 st), (ylo, zi E 4 lo), (yto, zi E 8 (zn tx)), (yle, zi E 4 (zn ln))] 0 0 := by
          intro N27
          induction N27 with
          | zero => intro m hm hno hm27; exact absurd hm27 (Nat.not_lt_zero _)
          | succ N27 ih27 =>
            intro m hm hno hm27
            refine z_iload_n 28 C0 3 dX7_join_27 rfl rfl rfl ?_
            refine z_if_lt 31 67 C0 dX7_join_28 rfl (by decide) (fun k28 => ?_) (fun k28 => ?_)
            · skip
              obtain rfl : m = 0 := by rcases Nat.eq_zero_or_pos m with q | q; exact q; obtain ⟨z, rfl⟩ : ∃ z, m = z + 1 := ⟨m - 1, by omega⟩; rw [show nI (z + 1) - nI 1 = nI z from z_subN rfl] at k28; exact absurd k28 (nI_pos (by omega))
              have hMn : M (kf i) = none := hJ1.absent (fun a ha q => hno a (Nat.zero_le a) ha ⟨by rw [q.1, hsi], by rw [q.2, hik.1]⟩)
              refine z_iload_n 68 C0 3 dX7_join_67 rfl rfl rfl ?_
              refine z_if_ge 71 113 C0 dX7_join_68 rfl (by decide) (fun k68 => absurd k68 (by decide)) (fun k68 => ?_)
              refine z_aload_n 72 C0 0 dX7_join_71 rfl rfl rfl ?_
              refine z_get 75 C0 0 7 wz_7 rfl (by decide) (zTs_in wk_455) dX7_join_72 rfl rfl rfl ?_
              refine z_iload_n 76 C0 1 dX7_join_75 rfl rfl rfl ?_
              refine z_aload_n 77 C0 0 dX7_join_76 rfl rfl rfl ?_
              refine z_get 80 C0 0 7 wz_7 rfl (by decide) (zTs_in wk_455) dX7_join_77 rfl rfl rfl ?_
              refine z_iload_n 81 C0 2 dX7_join_80 rfl rfl rfl ?_
              refine z_ialdN 82 C0 5 (v := (kx i)) dX7_join_81 rfl rfl (by omega) (by decide) rfl ?_
              refine z_iastN 83 C0 5 [(y, zo 7 [.int (nI sz), .ref yrk, .ref yrv, .int (nI rn), .ref yop, .ref ynu, .ref yle, .ref yk, .ref yv, .ref ysp, .int (nI prs), .ref yxk, .ref yxv, .int (nI rs), .int err, .ref yto, .ref yst, .ref ylo, .int (nI stp), .int res, .int (nI wo)]), (yop, zg E 4 oo), (ra, zi E 64 op), (ynu, zg E 4 nu), (rb, zi E 64 nn), (yk, zi E 620 (upd kx n (kx i))), (yv, zi E 620 vx), (ysp, zi E 620 (zn sx)), (yst, zi E 8 st), (ylo, zi E 4 lo), (yto, zi E 8 (zn tx)), (yle, zi E 4 (zn ln))] dX7_join_82 rfl rfl (by omega) (by decide) rfl ?_
              refine z_aload_n 84 C0 0 dX7_join_83 rfl rfl rfl ?_
              refine z_get 87 C0 0 8 wz_7 rfl (by decide) (zTs_in wk_456) dX7_join_84 rfl rfl rfl ?_
              refine z_iload_n 88 C0 1 dX7_join_87 rfl rfl rfl ?_
              refine z_aload_n 89 C0 0 dX7_join_88 rfl rfl rfl ?_
              refine z_get 92 C0 0 8 wz_7 rfl (by decide) (zTs_in wk_456) dX7_join_89 rfl rfl rfl ?_
              refine z_iload_n 93 C0 2 dX7_join_92 rfl rfl rfl ?_
              refine z_ialdN 94 C0 6 (v := (vx i)) dX7_join_93 rfl rfl (by omega) (by decide) rfl ?_
              refine z_iastN 95 C0 6 [(y, zo 7 [.int (nI sz), .ref yrk, .ref yrv, .int (nI rn), .ref yop, .ref ynu, .ref yle, .ref yk, .ref yv, .ref ysp, .int (nI prs), .ref yxk, .ref yxv, .int (nI rs), .int err, .ref yto, .ref yst, .ref ylo, .int (nI stp), .int res, .int (nI wo)]), (yop, zg E 4 oo), (ra, zi E 64 op), (ynu, zg E 4 nu), (rb, zi E 64 nn), (yk, zi E 620 (upd kx n (kx i))), (yv, zi E 620 (upd vx n (vx i))), (ysp, zi E 620 (zn sx)), (yst, zi E 8 st), (ylo, zi E 4 lo), (yto, zi E 8 (zn tx)), (yle, zi E 4 (zn ln))] dX7_join_94 rfl rfl (by omega) (by decide) rfl ?_
              refine z_aload_n 96 C0 0 dX7_join_95 rfl rfl rfl ?_
              refine z_get 99 C0 0 9 wz_7 rfl (by decide) (zTs_in wk_457) dX7_join_96 rfl rfl rfl ?_
              refine z_iload_n 100 C0 1 dX7_join_99 rfl rfl rfl ?_
              refine z_aload_n 101 C0 0 dX7_join_100 rfl rfl rfl ?_
              refine z_get 104 C0 0 9 wz_7 rfl (by decide) (zTs_in wk_457) dX7_join_101 rfl rfl rfl ?_
              refine z_iload_n 105 C0 2 dX7_join_104 rfl rfl rfl ?_
              refine z_ialdN 106 C0 7 (v := (nI (sx i))) dX7_join_105 rfl rfl (by omega) (by decide) rfl ?_
              refine z_iastN 107 C0 7 [(y, zo 7 [.int (nI sz), .ref yrk, .ref yrv, .int (nI rn), .ref yop, .ref ynu, .ref yle, .ref yk, .ref yv, .ref ysp, .int (nI prs), .ref yxk, .ref yxv, .int (nI rs), .int err, .ref yto, .ref yst, .ref ylo, .int (nI stp), .int res, .int (nI wo)]), (yop, zg E 4 oo), (ra, zi E 64 op), (ynu, zg E 4 nu), (rb, zi E 64 nn), (yk, zi E 620 (upd kx n (kx i))), (yv, zi E 620 (upd vx n (vx i))), (ysp, zi E 620 (zn (va_up sx n (sx i)))), (yst, zi E 8 st), (ylo, zi E 4 lo), (yto, zi E 8 (zn tx)), (yle, zi E 4 (zn ln))] dX7_join_106 rfl rfl (by omega) (by decide) (by rw [z_upN]; rfl) ?_
              refine z_iinc 110 C0 1 [1, 0, 2, 3] [(0, .ref y), (1, .int (nI (n + 1))), (2, .int (nI i)), (3, .int (nI 0 - nI 1))] (v := (nI (n + 1))) dX7_join_107 rfl rfl (z_incN _ _) (by decide) rfl ?_
              refine z_goto 179 C0 dX7_join_110 (by decide) ?_
              refine z_iinc 182 C0 2 [1, 2, 0, 3] [(0, .ref y), (1, .int (nI (n + 1))), (2, .int (nI (i + 1))), (3, .int (nI 0 - nI 1))] (v := (nI (i + 1))) dX7_join_179 rfl rfl (z_incN _ _) (by decide) rfl ?_
              refine z_goto 15 C0 dX7_join_182 (by decide) ?_
              refine z_loc [0, 1, 2] [(0, .ref y), (1, .int (nI (n + 1))), (2, .int (nI (i + 1)))] rfl ?_
              exact ih15 (i + 1) (n + 1) (upd kx n (kx i)) (upd vx n (vx i)) (va_up sx n (sx i)) tot tx st lo stp res wo (by omega) (fun j h1 h2 => ⟨(en_upd (by omega)).trans (hag j (by omega) h2).1, (en_upd (by omega)).trans (hag j (by omega) h2).2.1, (va_up_ne2 (by omega)).trans (hag j (by omega) h2).2.2⟩) htx (⟨s1, n0, _, t, Or.inl hs1, hJ1.new hc2 hik.1 hik.2.1 hsi hMn⟩) (by omega)
            · skip
              obtain ⟨m, rfl⟩ : ∃ z, m = z + 1 := ⟨m - 1, by rcases Nat.eq_zero_or_pos m with q | q; rw [q] at k28; exact absurd (by decide) k28; omega⟩
              refine z_eq (L1 := [(0, .ref y), (1, .int (nI n)), (2, .int (nI i)), (3, .int (nI m))]) (st1 := []) (w1 := [(y, zo 7 [.int (nI sz), .ref yrk, .ref yrv, .int (nI rn), .ref yop, .ref ynu, .ref yle, .ref yk, .ref yv, .ref ysp, .int (nI prs), .ref yxk, .ref yxv, .int (nI rs), .int err, .ref yto, .ref yst, .ref ylo, .int (nI stp), .int res, .int (nI wo)]), (yop, zg E 4 oo), (ra, zi E 64 op), (ynu, zg E 4 nu), (rb, zi E 64 nn), (yk, zi E 620 kx), (yv, zi E 620 vx), (ysp, zi E 620 (zn sx)), (yst, zi E 8 st), (ylo, zi E 4 lo), (yto, zi E 8 (zn tx)), (yle, zi E 4 (zn ln))]) (by rw [show nI (m + 1) - nI 1 = nI m from z_subN rfl]) rfl rfl ?_
              have hbm := hsle m (by omega)
              refine z_aload_n 32 C0 0 dX7_join_31 rfl rfl rfl ?_
              refine z_get 35 C0 0 9 wz_7 rfl (by decide) (zTs_in wk_457) dX7_join_32 rfl rfl rfl ?_
              refine z_iload_n 36 C0 3 dX7_join_35 rfl rfl rfl ?_
              refine z_ialdN 37 C0 7 (v := (nI (sx m))) dX7_join_36 rfl rfl (by omega) (by decide) rfl ?_
              refine z_aload_n 38 C0 0 dX7_join_37 rfl rfl rfl ?_
              refine z_get 41 C0 0 9 wz_7 rfl (by decide) (zTs_in wk_457) dX7_join_38 rfl rfl rfl ?_
              refine z_iload_n 42 C0 2 dX7_join_41 rfl rfl rfl ?_
              refine z_ialdN 43 C0 7 (v := (nI (sx i))) dX7_join_42 rfl rfl (by omega) (by decide) rfl ?_
              refine z_icmp_neN 46 61 C0 (by omega) (by omega) dX7_join_43 rfl (by decide) (fun k43 => ?_) (fun k43 => ?_)
              · skip
                refine z_iinc 64 C0 3 [1, 2, 3, 0] [(0, .ref y), (1, .int (nI n)), (2, .int (nI i)), (3, .int (nI m - nI 1))] (v := (nI m - nI 1)) dX7_join_61 rfl rfl (z_m1 m) (by decide) rfl ?_
                refine z_goto 27 C0 dX7_join_64 (by decide) ?_
                exact ih27 m (by omega) (fun a h1 h2 => by rcases Nat.lt_or_ge m a with q | q; exact hno a q h2; obtain rfl : a = m := (by omega); exact (fun q => k43 q.1)) (by omega)
              · skip
                refine z_aload_n 47 C0 0 dX7_join_46 rfl rfl rfl ?_
                refine z_get 50 C0 0 7 wz_7 rfl (by decide) (zTs_in wk_455) dX7_join_47 rfl rfl rfl ?_
                refine z_iload_n 51 C0 3 dX7_join_50 rfl rfl rfl ?_
                refine z_ialdN 52 C0 5 (v := (kx m)) dX7_join_51 rfl rfl (by omega) (by decide) rfl ?_
                refine z_aload_n 53 C0 0 dX7_join_52 rfl rfl rfl ?_
                refine z_get 56 C0 0 7 wz_7 rfl (by decide) (zTs_in wk_455) dX7_join_53 rfl rfl rfl ?_
                refine z_iload_n 57 C0 2 dX7_join_56 rfl rfl rfl ?_
                refine z_ialdN 58 C0 5 (v := (kx i)) dX7_join_57 rfl rfl (by omega) (by decide) rfl ?_
                refine z_icmp_eq 61 67 C0 dX7_join_58 rfl (by decide) (fun k58 => ?_) (fun k58 => ?_)
                · skip
                  have hkm : kx m = kf i := by rw [← hik.1]; exact k58
                  have hmn : m < n := by omega
                  have ham : n0 ≤ m := by rcases Nat.lt_or_ge m n0 with q | q; have h1 := hJ1.2.2.2.2.2.1 m q; have h2 : sx m = sx i := k43; omega; exact q
                  refine z_iload_n 68 C0 3 dX7_join_67 rfl rfl rfl ?_
                  refine z_if_geN 113 C0 71 (by omega) dX7_join_68 rfl (by decide) ?_
                  refine z_aload_n 114 C0 0 dX7_join_113 rfl rfl rfl ?_
                  refine z_iconst 115 C0 (v := (nI 1)) dX7_join_114 rfl rfl ?_
                  refine z_aload_n 116 C0 0 dX7_join_115 rfl rfl rfl ?_
                  refine z_get 119 C0 0 7 wz_7 rfl (by decide) (zTs_in wk_455) dX7_join_116 rfl rfl rfl ?_
                  refine z_iload_n 120 C0 2 dX7_join_119 rfl rfl rfl ?_
                  refine z_ialdN 121 C0 5 (v := (kx i)) dX7_join_120 rfl rfl (by omega) (by decide) rfl ?_
                  refine z_aload_n 122 C0 0 dX7_join_121 rfl rfl rfl ?_
                  refine z_get 125 C0 0 8 wz_7 rfl (by decide) (zTs_in wk_456) dX7_join_122 rfl rfl rfl ?_
                  refine z_iload_n 126 C0 3 dX7_join_125 rfl rfl rfl ?_
                  refine z_ialdN 127 C0 6 (v := (vx m)) dX7_join_126 rfl rfl (by omega) (by decide) rfl ?_
                  refine z_aload_n 128 C0 0 dX7_join_127 rfl rfl rfl ?_
                  refine z_get 131 C0 0 8 wz_7 rfl (by decide) (zTs_in wk_456) dX7_join_128 rfl rfl rfl ?_
                  refine z_iload_n 132 C0 2 dX7_join_131 rfl rfl rfl ?_
                  refine z_ialdN 133 C0 6 (v := (vx i)) dX7_join_132 rfl rfl (by omega) (by decide) rfl ?_
                  refine z_iconst 134 C0 (v := (nI 0)) dX7_join_133 rfl rfl ?_
                  refine z_callVi 137 C0 [0, 1, 2, 3, 4, 5, 6, 7, 8, 9] [10, 11] [(yto, zi E 8 (zn tx)), (yle, zi E 4 (zn ln))] 0 0 (As := [.int (nI 1), .int (kx i), .int (vx m), .int (vx i), .int (nI 0)]) (T := TX7) (N := 21) (C := RX7) (ci := 7) (n := 5) 0 (call7 l_ E y sz yrk yrv rn yop ynu yle yk yv ysp prs yxk yxv rs err yto yst ylo stp res wo 1 oo nu ra rb op nn kx vx sx st lo (ln 1) (kx i) (vx m) (vx i) 0 (by decide) (hoo) (hnu) (hG) (hlen) (by omega)) (zGIV (fun _ => zTs_in) wk_571 wk_568 wk_570 wk_7 wk_20) rfl ⟨rfl, by decide, by decide, by decide +kernel⟩ rfl rfl rfl rfl (by decide) rfl rfl (Nat.le_of_ble_eq_true rfl) ⟨by decide, by decide⟩ rfl rfl ⟨by decide, by decide⟩ ⟨by decide, by decide⟩ dX7_join_134 rfl (fun r134 w134 hB134 => ?_)
                  obtain ⟨stp2_134, res2_134, wo2_134, st2_134, lo2_134, ⟨rfl, rfl⟩, fs_134, fa_134⟩ := hB134
                  refine z_perm [2, 3, 4, 5, 6, 7, 8, 9, 10, 11, 0, 1] [(y, zo 7 [.int (nI sz), .ref yrk, .ref yrv, .int (nI rn), .ref yop, .ref ynu, .ref yle, .ref yk, .ref yv, .ref ysp, .int (nI (prs + (callR op nn (kx i) (vx m) (vx i)).2.2.2.length)), .ref yxk, .ref yxv, .int (nI rs), .int err, .ref yto, .ref yst, .ref ylo, .int (nI stp2_134), .int res2_134, .int (nI wo2_134)]), (yop, zg E 4 oo), (ra, zi E 64 op), (ynu, zg E 4 nu), (rb, zi E 64 nn), (yk, zi E 620 (rwK 620 prs kx (callR op nn (kx i) (vx m) (vx i)).2.2.2)), (yv, zi E 620 (rwV 620 prs vx (callR op nn (kx i) (vx m) (vx i)).2.2.2)), (ysp, zi E 620 (zn (rwS 620 prs sx 0 (callR op nn (kx i) (vx m) (vx i)).2.2.2))), (yst, zi E 8 st2_134), (ylo, zi E 4 lo2_134), (yto, zi E 8 (zn tx)), (yle, zi E 4 (zn ln))] (by decide) rfl ?_
                  have hP0 : (callR op nn (kx i) (vx m) (vx i)).2.2.2 = [] := callR_nil hG hlen (by decide) _ _ _
                  refine z_eq (L1 := [(0, .ref y), (1, .int (nI n)), (2, .int (nI i)), (3, .int (nI m))]) (st1 := [.int (zb ((callR op nn (kx i) (vx m) (vx i)).1 ≠ 0))]) (w1 := [(y, zo 7 [.int (nI sz), .ref yrk, .ref yrv, .int (nI rn), .ref yop, .ref ynu, .ref yle, .ref yk, .ref yv, .ref ysp, .int (nI prs), .ref yxk, .ref yxv, .int (nI rs), .int err, .ref yto, .ref yst, .ref ylo, .int (nI stp2_134), .int res2_134, .int (nI wo2_134)]), (yop, zg E 4 oo), (ra, zi E 64 op), (ynu, zg E 4 nu), (rb, zi E 64 nn), (yk, zi E 620 kx), (yv, zi E 620 vx), (ysp, zi E 620 (zn sx)), (yst, zi E 8 st2_134), (ylo, zi E 4 lo2_134), (yto, zi E 8 (zn tx)), (yle, zi E 4 (zn ln))]) rfl rfl (by rw [hP0, rwK_0, rwV_0, rwS_0]; rfl) ?_
                  refine z_if_neP 140 156 C0 dX7_join_137 rfl (by decide) (fun k137 => ?_) (fun k137 => ?_)
                  · skip
                    have hcall := k137
                    have hst := (fs_134 k137).1
                    have hres : res2_134 = (callR op nn (kx i) (vx m) (vx i)).2.1 := fa_134 (callR_one hG hlen (by decide) _ _ _ k137) (by decide)
                    refine z_aload_n 157 C0 0 dX7_join_156 rfl rfl rfl ?_
                    refine z_get 160 C0 0 15 wz_7 rfl (by decide) (zTs_in wk_463) dX7_join_157 rfl rfl rfl ?_
                    refine z_iconst 161 C0 (v := (nI 5)) dX7_join_160 rfl rfl ?_
                    refine z_dup2 162 C0 dX7_join_161 rfl rfl rfl ?_
                    refine z_ialdN 163 C0 10 (v := (nI (tx 5))) dX7_join_162 rfl rfl (by omega) (by decide) rfl ?_
                    refine z_aload_n 164 C0 0 dX7_join_163 rfl rfl rfl ?_
                    refine z_get 167 C0 0 18 wz_7 rfl (by decide) (zTs_in wk_466) dX7_join_164 rfl rfl rfl ?_
                    refine z_iadd 168 C0 (v := (nI ((tx 5) + stp2_134))) dX7_join_167 rfl (nI_add _ _) ?_
                    refine z_iastN 169 C0 10 [(y, zo 7 [.int (nI sz), .ref yrk, .ref yrv, .int (nI rn), .ref yop, .ref ynu, .ref yle, .ref yk, .ref yv, .ref ysp, .int (nI prs), .ref yxk, .ref yxv, .int (nI rs), .int err, .ref yto, .ref yst, .ref ylo, .int (nI stp2_134), .int res2_134, .int (nI wo2_134)]), (yop, zg E 4 oo), (ra, zi E 64 op), (ynu, zg E 4 nu), (rb, zi E 64 nn), (yk, zi E 620 kx), (yv, zi E 620 vx), (ysp, zi E 620 (zn sx)), (yst, zi E 8 st2_134), (ylo, zi E 4 lo2_134), (yto, zi E 8 (zn (va_up tx 5 ((tx 5) + stp2_134)))), (yle, zi E 4 (zn ln))] dX7_join_168 rfl rfl (by omega) (by decide) (by rw [z_upN]; rfl) ?_
                    refine z_aload_n 170 C0 0 dX7_join_169 rfl rfl rfl ?_
                    refine z_get 173 C0 0 8 wz_7 rfl (by decide) (zTs_in wk_456) dX7_join_170 rfl rfl rfl ?_
                    refine z_iload_n 174 C0 3 dX7_join_173 rfl rfl rfl ?_
                    refine z_aload_n 175 C0 0 dX7_join_174 rfl rfl rfl ?_
                    refine z_get 178 C0 0 19 wz_7 rfl (by decide) (zTs_in wk_467) dX7_join_175 rfl rfl rfl ?_
                    refine z_iastN 179 C0 6 [(y, zo 7 [.int (nI sz), .ref yrk, .ref yrv, .int (nI rn), .ref yop, .ref ynu, .ref yle, .ref yk, .ref yv, .ref ysp, .int (nI prs), .ref yxk, .ref yxv, .int (nI rs), .int err, .ref yto, .ref yst, .ref ylo, .int (nI stp2_134), .int res2_134, .int (nI wo2_134)]), (yop, zg E 4 oo), (ra, zi E 64 op), (ynu, zg E 4 nu), (rb, zi E 64 nn), (yk, zi E 620 kx), (yv, zi E 620 (upd vx m res2_134)), (ysp, zi E 620 (zn sx)), (yst, zi E 8 st2_134), (ylo, zi E 4 lo2_134), (yto, zi E 8 (zn (va_up tx 5 ((tx 5) + stp2_134)))), (yle, zi E 4 (zn ln))] dX7_join_178 rfl rfl (by omega) (by decide) rfl ?_
                    refine z_iinc 182 C0 2 [1, 2, 0, 3] [(0, .ref y), (1, .int (nI n)), (2, .int (nI (i + 1))), (3, .int (nI m))] (v := (nI (i + 1))) dX7_join_179 rfl rfl (z_incN _ _) (by decide) rfl ?_
                    refine z_goto 15 C0 dX7_join_182 (by decide) ?_
                    refine z_loc [0, 1, 2] [(0, .ref y), (1, .int (nI n)), (2, .int (nI (i + 1)))] rfl ?_
                    exact ih15 (i + 1) n kx (upd vx m res2_134) sx (tot + (callR op nn (kx i) (vx m) (vx i)).2.2.1) (va_up tx 5 ((tx 5) + stp2_134)) st2_134 lo2_134 stp2_134 res2_134 wo2_134 (by omega) (fun j h1 h2 => ⟨(hag j (by omega) h2).1, (en_upd (by omega)).trans (hag j (by omega) h2).2.1, (hag j (by omega) h2).2.2⟩) (by rw [htx, hst]; exact z_up_add _ _ _ _) (⟨s1, n0, _, _, Or.inl hs1, hJ1.old hc2 hik.1 ham hmn hkm (by rw [← hik.1, ← hik.2.1]; rw [pF_1 hcall, hres])⟩) (by omega)
                  · skip
                    refine z_aload_n 141 C0 0 dX7_join_140 rfl rfl rfl ?_
                    refine z_sipush 144 C0 (v := (nI 1000)) dX7_join_141 rfl rfl ?_
                    refine z_aload_n 145 C0 0 dX7_join_144 rfl rfl rfl ?_
                    refine z_get 148 C0 0 9 wz_7 rfl (by decide) (zTs_in wk_457) dX7_join_145 rfl rfl rfl ?_
                    refine z_iload_n 149 C0 2 dX7_join_148 rfl rfl rfl ?_
                    refine z_ialdN 150 C0 7 (v := (nI (sx i))) dX7_join_149 rfl rfl (by omega) (by decide) rfl ?_
                    refine z_iadd 151 C0 (v := (nI (1000 + sx i))) dX7_join_150 rfl (nI_add _ _) ?_
                    refine z_put 154 C0 0 14 [(y, zo 7 [.int (nI sz), .ref yrk, .ref yrv, .int (nI rn), .ref yop, .ref ynu, .ref yle, .ref yk, .ref yv, .ref ysp, .int (nI prs), .ref yxk, .ref yxv, .int (nI rs), .int (nI (1000 + sx i)), .ref yto, .ref yst, .ref ylo, .int (nI stp2_134), .int res2_134, .int (nI wo2_134)]), (yop, zg E 4 oo), (ra, zi E 64 op), (ynu, zg E 4 nu), (rb, zi E 64 nn), (yk, zi E 620 kx), (yv, zi E 620 vx), (ysp, zi E 620 (zn sx)), (yst, zi E 8 st2_134), (ylo, zi E 4 lo2_134), (yto, zi E 8 (zn tx)), (yle, zi E 4 (zn ln))] wz_7 rfl (by decide) (zTs_in wk_462) tyX7 tyX7_ok nmX7 rfl rfl rfl rfl dX7_join_151 rfl rfl (Nat.le_of_ble_eq_true rfl) rfl ?_
                    refine z_iconst 155 C0 (v := (nI 0)) dX7_join_154 rfl rfl ?_
                    exact z_zret C0 rfl rfl dX7_join_155 ⟨prs, kx, vx, sx, st2_134, lo2_134, tx, stp2_134, res2_134, wo2_134, (nI (1000 + sx i)), (nI (1000 + sx i)), ⟨(zb_fN (nI_neg1 (by omega))), rfl⟩, (Or.inl ⟨s1, hs1, hJ1.fail hc2 (hJ1.get ham hmn hkm) (by rw [← hik.1, ← hik.2.1]; exact pF_0 (Classical.byContradiction fun q => k137 q)), hJ1.before, by rw [hsi]⟩), (by rw [if_neg (nI_neg1 (by omega))]), (hprs), (fun q => absurd q (nI_neg1 (by omega)))⟩ (by decide) (by decide)
                · skip
                  refine z_iinc 64 C0 3 [1, 2, 3, 0] [(0, .ref y), (1, .int (nI n)), (2, .int (nI i)), (3, .int (nI m - nI 1))] (v := (nI m - nI 1)) dX7_join_61 rfl rfl (z_m1 m) (by decide) rfl ?_
                  refine z_goto 27 C0 dX7_join_64 (by decide) ?_
                  exact ih27 m (by omega) (fun a h1 h2 => by rcases Nat.lt_or_ge m a with q | q; exact hno a q h2; obtain rfl : a = m := (by omega); exact (fun q => k58 q.2)) (by omega)
        exact CUT27 (n + 1) n (Nat.le_refl _) (fun a h1 h2 => by omega) (Nat.lt_succ_self _)
  exact CUT15 (prs - 0 + 1) 0 0 kf vf sp 0 to st lo stp res wo (Nat.zero_le _) (fun j _ _ => ⟨rfl, rfl, rfl⟩) (z_up_self _ _).symm (⟨0, 0, (fun _ => none), 0, by omega, JI_0 hc0 hcm⟩) (Nat.lt_succ_self _)
