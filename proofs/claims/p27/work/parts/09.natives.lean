theorem Wd.keep {X : mX} {h : mH} {f : Option Nat} {H H1 : Heap} (w : Wd X h f H) (hz : H.size ≤ H1.size) (hq : ∀ q, q < H.size → H1[q]? = H[q]?) : Wd X h none H1 := by
  refine ⟨fun a e ha => ?_, Nat.le_trans w.2.1 hz, fun n hn => by cases hn⟩
  obtain ⟨k1, k2⟩ := w.1 a e ha
  exact ⟨k1, va_at.kept k2 (hq _ k2.lt)⟩
def exIk : Nat → Nat := fun k => match k with
  | 0 => 78
  | 1 => 102
  | _ => 89
def exIc : Nat → Nat := fun k => match k with
  | 0 => 82
  | 1 => 106
  | _ => 93
abbrev exUp : List String := ["java/lang/RuntimeException", "java/lang/Exception"]
theorem lt3 {P : Nat → Prop} (h0 : P 0) (h1 : P 1) (h2 : P 2) {k : Nat} (hk : k < 3) : P k := by
  match k, hk with
  | 0, _ => exact h0
  | 1, _ => exact h1
  | 2, _ => exact h2
theorem ex_link {k : Nat} (hk : k < 3) : Cond.classLink RX6 (exIk k) (exn k) ∈ WL ∧ Cond.initialized (exn k) ∈ WL := by
  have key : ∀ w : Cond, w ∈ lw_tbl → goodWord w = true → w ∈ WL := fun w h g => List.mem_filter.mpr ⟨h, g⟩
  exact lt3 (P := fun k => Cond.classLink RX6 (exIk k) (exn k) ∈ WL ∧ Cond.initialized (exn k) ∈ WL) ⟨key _ (by decide +kernel) (by decide +kernel), key _ (by decide +kernel) (by decide +kernel)⟩ ⟨key _ (by decide +kernel) (by decide +kernel), key _ (by decide +kernel) (by decide +kernel)⟩ ⟨key _ (by decide +kernel) (by decide +kernel), key _ (by decide +kernel) (by decide +kernel)⟩ hk
theorem ex_words {k : Nat} (hk : k < 3) : ∀ w ∈ vx_atS RX6 (exIc k) (exn k) exUp, (w ∈ lw_tbl ∧ goodWord w = true) ∨ w = .castable (exn k) (exn k) ∨ ∃ n ∈ exDc, w = .declares (Bundle.initS n) :=
  lt3 (P := fun k => ∀ w ∈ vx_atS RX6 (exIc k) (exn k) exUp, (w ∈ lw_tbl ∧ goodWord w = true) ∨ w = .castable (exn k) (exn k) ∨ ∃ n ∈ exDc, w = .declares (Bundle.initS n)) (by decide +kernel) (by decide +kernel) (by decide +kernel) hk
theorem ex_good {k : Nat} (hk : k < 3) : ∀ w ∈ Cond.classLink RX6 (exIk k) (exn k) :: Cond.initialized (exn k) :: vx_atS RX6 (exIc k) (exn k) exUp, vx_ot w = true :=
  lt3 (P := fun k => ∀ w ∈ Cond.classLink RX6 (exIk k) (exn k) :: Cond.initialized (exn k) :: vx_atS RX6 (exIc k) (exn k) exUp, vx_ot w = true) (by decide +kernel) (by decide +kernel) (by decide +kernel) hk
theorem ex_fit {k : Nat} (hk : k < 3) : Bundle.fit (exn k) = true := lt3 (P := fun k => Bundle.fit (exn k) = true) (by decide +kernel) (by decide +kernel) (by decide +kernel) hk
theorem ex_up : ∀ n ∈ exUp, Bundle.fit n = true := by decide +kernel
theorem ev_throwS {X : mX} {M M' : mMD} {f f' f1 : Option Nat} {ce sl mc ms mc1 ms1 pc : Nat} {L st : List Value} {h : mH} {Q Q1 : mO → mH → Prop} {is : Nat} (k : Nat) (text : String) (hk : k < 3) (hown : mOwn M = 6) (hstr : (is, text) ∈ xstrs) (hh : mHH M = []) (hfr : 5 < mFr M) (hlo : (st.map fun v => v.category).sum + 82 ≤ mLo M)
    (d0 : decode (mBy M) pc = .ok (.new (exIk k), 3)) (d3 : decode (mBy M) (pc + 3) = .ok (.dup, 1)) (d4 : decode (mBy M) (pc + 4) = .ok (.ldc is, 2)) (d6 : decode (mBy M) (pc + 6) = .ok (.invokespecial (exIc k), 3)) (d9 : decode (mBy M) (pc + 9) = .ok (.athrow, 1))
    (hce : ce + 1 ≤ mc) (hsl : sl + 6 ≤ ms) (hq : Q (.inr k) h) : Ev X M (f, f', ce, sl, mc, ms) pc L st h Q := by
  intro p e s m args below meth c H locs ls R C hc hs hW hS hL
  obtain ⟨hx, hb, hr, hml, hown2, hw, hlk, hnm, htab, hRf, hRl, hF, hlo2⟩ := id C
  rw [hown] at hown2
  obtain ⟨sa, hsa⟩ := hF.2.2.2.2.2.1 _ hstr
  have hat : ∀ w ∈ vx_atS RX6 (exIc k) (exn k) exUp, w.before args s = true := by
    intro w hw2
    rcases ex_words hk w hw2 with ⟨q1, q2⟩ | rfl | ⟨n, hn, rfl⟩
    · exact hw _ (List.mem_filter.mpr ⟨q1, q2⟩)
    · exact va_Nw.use rfl (hF.2.2.1 k hk)
    · exact va_Nw.use rfl (hF.2.2.2.2.2.2.2.2.2.2.2.2.2.1 n hn)
  refine vx_throwS (names := exUp) (ik := exIk k) (is := is) (ic := exIc k) (sa := sa) (text := text) (A := xA X) hx hb hF.1 hown2 (ex_fit hk) ex_up (hw _ (ex_link hk).1) (hw _ (ex_link hk).2) hsa hat (ex_good hk) hF.2.2.2.2.2.2.1 hF.2.2.2.2.2.2.2.1 hS (hL.1.trans hml.symm) d0 d3 d4 d6 d9 ?_ (by rw [hRf]; exact hfr) (by rw [hRl, cv_cats]; exact hlo) (by rw [hc]; exact hce) (by rw [hs]; exact hsl) hlk (fun t hvm hz hq2 => ?_) hS.2.2 hce hsl
  · intro x hx2
    rw [hh, List.map_eq_nil_iff] at htab
    rw [htab] at hx2
    cases hx2
  · exact ⟨k, h, hk, rfl, hq, hW.keep hz hq2, Nat.le_trans hS.1 hz, fun q h1 h2 => (hq2 q (Nat.lt_of_lt_of_le h1 hS.1)).trans (hS.2.1 q h1 h2)⟩
theorem ev_throwSW {X : mX} {M M' : mMD} {f f' f1 : Option Nat} {ce sl mc ms mc1 ms1 pc : Nat} {L st : List Value} {h : mH} {Q Q1 : mO → mH → Prop} {is : Nat} (k : Nat) (text : String) (hk : k < 3) (hown : mOwn M = 6) (hstr : (is, text) ∈ xstrs) (hh : mHH M = []) (hfr : 5 < mFr M) (hlo : (st.map fun v => v.category).sum + 82 ≤ mLo M)
    (d0 : decode (mBy M) pc = .ok (.new (exIk k), 3)) (d3 : decode (mBy M) (pc + 3) = .ok (.dup, 1)) (d4 : decode (mBy M) (pc + 4) = .ok (.ldc_w is, 3)) (d6 : decode (mBy M) (pc + 7) = .ok (.invokespecial (exIc k), 3)) (d9 : decode (mBy M) (pc + 10) = .ok (.athrow, 1))
    (hce : ce + 1 ≤ mc) (hsl : sl + 6 ≤ ms) (hq : Q (.inr k) h) : Ev X M (f, f', ce, sl, mc, ms) pc L st h Q := by
  intro p e s m args below meth c H locs ls R C hc hs hW hS hL
  obtain ⟨hx, hb, hr, hml, hown2, hw, hlk, hnm, htab, hRf, hRl, hF, hlo2⟩ := id C
  rw [hown] at hown2
  obtain ⟨sa, hsa⟩ := hF.2.2.2.2.2.1 _ hstr
  have hat : ∀ w ∈ vx_atS RX6 (exIc k) (exn k) exUp, w.before args s = true := by
    intro w hw2
    rcases ex_words hk w hw2 with ⟨q1, q2⟩ | rfl | ⟨n, hn, rfl⟩
    · exact hw _ (List.mem_filter.mpr ⟨q1, q2⟩)
    · exact va_Nw.use rfl (hF.2.2.1 k hk)
    · exact va_Nw.use rfl (hF.2.2.2.2.2.2.2.2.2.2.2.2.2.1 n hn)
  refine vx_throwSW (names := exUp) (ik := exIk k) (is := is) (ic := exIc k) (sa := sa) (text := text) (A := xA X) hx hb hF.1 hown2 (ex_fit hk) ex_up (hw _ (ex_link hk).1) (hw _ (ex_link hk).2) hsa hat (ex_good hk) hF.2.2.2.2.2.2.1 hF.2.2.2.2.2.2.2.1 hS (hL.1.trans hml.symm) d0 d3 d4 d6 d9 ?_ (by rw [hRf]; exact hfr) (by rw [hRl, cv_cats]; exact hlo) (by rw [hc]; exact hce) (by rw [hs]; exact hsl) hlk (fun t hvm hz hq2 => ?_) hS.2.2 hce hsl
  · intro x hx2
    rw [hh, List.map_eq_nil_iff] at htab
    rw [htab] at hx2
    cases hx2
  · exact ⟨k, h, hk, rfl, hq, hW.keep hz hq2, Nat.le_trans hS.1 hz, fun q h1 h2 => (hq2 q (Nat.lt_of_lt_of_le h1 hS.1)).trans (hS.2.1 q h1 h2)⟩
theorem LR.stj {X : mX} {L : List Value} {ls ls' : Array Slot} {n i : Nat} {w : Value} (h : LR X L ls n) (hi : i < n) (h' : lv_has ls' n ((i, w) :: (lvl X L).filter (fun q => !(q.1 == i) && !(q.1 + 1 == i && q.2.category == 2)))) : LR X (stl L i jk) ls' n := by
  refine ⟨h'.1, by rw [stl_len]; exact h.2.1, h'.2.1, fun j v hj hv => ?_⟩
  refine h'.2.2 (j, cv X v) ?_
  rcases stl_get (by rw [h.2.1]; exact hi) hj hv with ⟨-, q⟩ | ⟨h1, h2, h3⟩
  · exact absurd q hv
  · refine List.mem_cons_of_mem _ (List.mem_filter.mpr ⟨lvl_mem.mpr ⟨v, h2, hv, rfl⟩, ?_⟩)
    simp only [cv_cat]
    by_cases h4 : j + 1 = i
    · have h5 : ¬ v.category = 2 := fun q => h3 ⟨h4, q⟩
      simp [h1, h5]
    · simp [h1, h4]
/-- the row of a table of handlers that takes exception k at pc; ahead of it rows of others -/
def Hnd (M : mMD) (pc k : Nat) (x : Nat × Nat × Nat × Nat) : Prop := k < 3 ∧ ∃ (pre suf : List (Nat × Nat × Nat × Nat)), mHH M = pre ++ x :: suf ∧ (∀ z ∈ pre, z.2.2.2 ≠ 0 ∧ ∃ j, j < 3 ∧ j ≠ k ∧ Cond.classLink (RN (mOwn M)) z.2.2.2 (exn j) ∈ WL) ∧ x.1 ≤ pc ∧ pc < x.2.1 ∧ x.2.2.2 ≠ 0 ∧ Cond.classLink (RN (mOwn M)) x.2.2.2 (exn k) ∈ WL
theorem ev_max {X : mX} {M : mMD} {B : mB} {pc : Nat} {L st : List Value} {h : mH} {Q : mO → mH → Prop} {idx : Nat} {x y : Int32} (hd : decode (mBy M) pc = .ok (.invokestatic idx, 3)) (hl : Cond.methodLink (RN (mOwn M)) idx Lib.Math.max.name ∈ WL) (h1 : Cond.static Lib.Math.max.name ∈ WL) (h2 : Cond.initialized "java/lang/Math" ∈ WL) (h3 : Cond.code Lib.Math.max.name Lib.Math.max.code 2 (some .int) ∈ WL) (hfr : 1 ≤ mFr M) (hlo : (st.map fun v => v.category).sum + 13 ≤ mLo M) (hb1 : B.2.2.1 ≤ B.2.2.2.2.1) (hb2 : B.2.2.2.1 ≤ B.2.2.2.2.2) (k : Ev X M B (pc + 3) L (.int (if x < y then y else x) :: st) h Q) : Ev X M B pc L (.int y :: .int x :: st) h Q := by
  intro p e s m args below meth c H locs ls R C hc hs hW hS hL
  have hw := C.2.2.2.2.2.1
  exact va_mmax C.1 C.2.1 (C.2.2.2.1.trans hL.1.symm) C.2.2.2.2.1 (hw _ hl) (hw _ h1) (hw _ h2) (hw _ h3) (by rw [C.2.2.2.2.2.2.2.2.2.1]; exact hfr) (by rw [C.2.2.2.2.2.2.2.2.2.2.1, cv_cats]; exact hlo) (by rw [hc]; exact hb1) (by rw [hs]; exact hb2) hd (k p e s m args below meth c H locs ls R C hc hs hW hS hL)
theorem ev_rawbits {X : mX} {M : mMD} {B : mB} {pc : Nat} {L st : List Value} {h : mH} {Q : mO → mH → Prop} {idx : Nat} {x : UInt64} (hd : decode (mBy M) pc = .ok (.invokestatic idx, 3)) (hl : Cond.methodLink (RN (mOwn M)) idx ⟨"java/lang/Double", "doubleToRawLongBits", "(D)J"⟩ ∈ WL) (h1 : Cond.native ⟨"java/lang/Double", "doubleToRawLongBits", "(D)J"⟩ ∈ WL) (h2 : Cond.static ⟨"java/lang/Double", "doubleToRawLongBits", "(D)J"⟩ ∈ WL) (h3 : Cond.initialized "java/lang/Double" ∈ WL) (hfr : 1 ≤ mFr M) (hlo : (st.map fun v => v.category).sum + 15 ≤ mLo M) (k : Ev X M B (pc + 3) L (.long x.toInt64 :: st) h Q) : Ev X M B pc L (.double x :: st) h Q := by
  intro p e s m args below meth c H locs ls R C hc hs hW hS hL
  have hw := C.2.2.2.2.2.1
  exact vn_d2l C.1 C.2.1 (C.2.2.2.1.trans hL.1.symm) C.2.2.2.2.1 (hw _ hl) (hw _ h1) (hw _ h2) (hw _ h3) (by rw [C.2.2.2.2.2.2.2.2.2.1]; exact hfr) (by rw [C.2.2.2.2.2.2.2.2.2.2.1, cv_cats]; exact hlo) hd (k p e s m args below meth c H locs ls R C hc hs hW hS hL)
theorem ev_copyI {X : mX} {M : mMD} {B : mB} {pc : Nat} {L st : List Value} {h : mH} {Q : mO → mH → Prop} {idx a a0 n0 n1 : Nat} {f g : Nat → Int32} {sp dp n : Int32} (hd : decode (mBy M) pc = .ok (.invokestatic idx, 3)) (hl : Cond.methodLink (RN (mOwn M)) idx arraycopyName ∈ WL) (hnat : Cond.native arraycopyName ∈ WL) (hstat : Cond.static arraycopyName ∈ WL) (hini : Cond.initialized "java/lang/System" ∈ WL) (hne : a0 ≠ a) (ha0 : h a0 = some (aI n0 f)) (ha : h a = some (aI n1 g)) (h1 : ¬ sp < 0) (h2 : ¬ dp < 0) (h3 : ¬ n < 0) (h4 : sp.toNatClampNeg + n.toNatClampNeg ≤ n0) (h5 : dp.toNatClampNeg + n.toNatClampNeg ≤ n1) (hB : B.1 = none) (hfr : 1 ≤ mFr M) (hlo : (st.map fun v => v.category).sum + 30 ≤ mLo M) (k : Ev X M B (pc + 3) L st (mset h a (aI n1 (va_cpy f g sp.toNatClampNeg dp.toNatClampNeg n.toNatClampNeg))) Q) : Ev X M B pc L (.int n :: .int dp :: .ref a :: .int sp :: .ref a0 :: st) h Q := by
  intro p e s m args below meth c H locs ls R C hc hs hW hS hL
  have hw := C.2.2.2.2.2.1
  have hF := C.2.2.2.2.2.2.2.2.2.2.2.1
  have hl1 : ∀ b e1, h b = some e1 → xlo X + b < H.size := fun b e1 hb => (hW.1 b e1 hb).2.lt
  let dl : List Nat := (List.range H.size).filter (fun b => (h b).isSome)
  have hdl : ∀ b, b ∈ dl ↔ ∃ e1, h b = some e1 := by
    intro b
    show b ∈ (List.range H.size).filter _ ↔ _
    rw [List.mem_filter, List.mem_range, Option.isSome_iff_exists]
    exact ⟨fun z => z.2, fun ⟨e1, z⟩ => ⟨by have := hl1 b e1 z; omega, e1, z⟩⟩
  have hnd : dl.Nodup := List.Pairwise.filter _ List.nodup_range
  let ws : va_W := dl.map (fun b => (xlo X + b, cvE X ((h b).getD (aI 0 f))))
  have hws : ∀ (i : Nat) (q : Nat × va_E), ws[i]? = some q → ∃ b e1, dl[i]? = some b ∧ h b = some e1 ∧ q = (xlo X + b, cvE X e1) := by
    intro i q hq
    have hq2 : (dl.map (fun b => (xlo X + b, cvE X ((h b).getD (aI 0 f)))))[i]? = some q := hq
    rw [List.getElem?_map] at hq2
    cases hb : dl[i]? with
    | none => rw [hb] at hq2; cases hq2
    | some b =>
      rw [hb] at hq2
      obtain ⟨e1, he⟩ := (hdl b).mp (List.mem_of_getElem? hb)
      refine ⟨b, e1, rfl, he, ?_⟩
      have := Option.some.inj hq2
      rw [← this]
      show (xlo X + b, cvE X ((h b).getD _)) = _
      rw [he]; rfl
  have hat : ∀ (b : Nat) (e1 : mAc), h b = some e1 → ∃ i : Nat, dl[i]? = some b ∧ ws[i]? = some (xlo X + b, cvE X e1) := by
    intro b e1 hb
    obtain ⟨i, hi⟩ := List.getElem?_of_mem ((hdl b).mpr ⟨e1, hb⟩)
    refine ⟨i, hi, ?_⟩
    show (dl.map _)[i]? = _
    rw [List.getElem?_map, hi]
    show some (xlo X + b, cvE X ((h b).getD _)) = _
    rw [hb]; rfl
  have hP : va_P (xD X) vwCl ws H := by
    intro i q hq
    obtain ⟨b, e1, -, hb, rfl⟩ := hws i q hq
    exact (hW.1 b e1 hb).2
  have hD : va_D (xA X) ws := by
    refine ⟨fun i j q r hq hr hqr => ?_, fun i q hq => ?_⟩
    · obtain ⟨b, e1, hi, -, rfl⟩ := hws i q hq
      obtain ⟨b2, e2, hj, -, rfl⟩ := hws j r hr
      have hbb : b = b2 := Nat.add_left_cancel hqr
      subst hbb
      exact (List.getElem?_inj (List.getElem?_eq_some_iff.mp hi).1 hnd).mp (hi.trans hj.symm)
    · obtain ⟨b, e1, -, -, rfl⟩ := hws i q hq
      exact Nat.le_add_right _ _
  obtain ⟨i0, hi0, hw0⟩ := hat a0 _ ha0
  obtain ⟨i1, hi1, hw1⟩ := hat a _ ha
  show W _ _ _ _ _ _ _ _ _ _ _ _ _ _ _ (F0 m pc ls (.int n :: .int dp :: .ref (xad X a) :: .int sp :: .ref (xad X a0) :: st.map (cv X)))
  rw [xad_lo hW ha, xad_lo hW ha0]
  have hwd : nativeFrameWords "java/lang/System" "arraycopy" 5 + 11 ≤ 30 := by decide
  refine va_copyi (ty := .int) C.1 C.2.1 (C.2.2.2.1.trans hL.1.symm) C.2.2.2.2.1 (hw _ hl) (hw _ hnat) (hw _ hstat) (hw _ hini) hF.2.1 hP hD hS i0 i1 0 0 hw0 hw1 rfl rfl rfl h1 h2 h3 h4 h5 (fun _ _ => rfl) (by rw [C.2.2.2.2.2.2.2.2.2.1]; exact hfr) (by rw [C.2.2.2.2.2.2.2.2.2.2.1, cv_cats]; omega) hd fun H1 locs1 hP1 _ hS1 => ?_
  refine k p e s m args below meth c H1 locs1 ls R C hc hs ⟨fun b e1 hb => ?_, ?_, ?_⟩ hS1 hL
  · by_cases hba : b = a
    · subst hba
      rw [mset_s] at hb
      cases hb
      exact ⟨(hW.1 b _ ha).1, hP1 i1 _ (List.getElem?_set_self (List.getElem?_eq_some_iff.mp hw1).1)⟩
    · rw [mset_n hba] at hb
      obtain ⟨j, hj, hwj⟩ := hat b e1 hb
      refine ⟨(hW.1 b e1 hb).1, hP1 j _ ?_⟩
      rw [List.getElem?_set_ne (fun q => ?_)]
      · exact hwj
      · subst q
        rw [hi1] at hj
        exact hba (Option.some.inj hj).symm
  · exact Nat.le_trans C.2.2.2.2.2.2.2.2.2.2.2.2 hS1.1
  · intro n' hn'
    rw [hB] at hn'
    cases hn'
theorem ev_copyL {X : mX} {M : mMD} {B : mB} {pc : Nat} {L st : List Value} {h : mH} {Q : mO → mH → Prop} {idx a a0 n0 n1 : Nat} {f g : Nat → Int64} {sp dp n : Int32} (hd : decode (mBy M) pc = .ok (.invokestatic idx, 3)) (hl : Cond.methodLink (RN (mOwn M)) idx arraycopyName ∈ WL) (hnat : Cond.native arraycopyName ∈ WL) (hstat : Cond.static arraycopyName ∈ WL) (hini : Cond.initialized "java/lang/System" ∈ WL) (hne : a0 ≠ a) (ha0 : h a0 = some (aL n0 f)) (ha : h a = some (aL n1 g)) (h1 : ¬ sp < 0) (h2 : ¬ dp < 0) (h3 : ¬ n < 0) (h4 : sp.toNatClampNeg + n.toNatClampNeg ≤ n0) (h5 : dp.toNatClampNeg + n.toNatClampNeg ≤ n1) (hB : B.1 = none) (hfr : 1 ≤ mFr M) (hlo : (st.map fun v => v.category).sum + 30 ≤ mLo M) (k : Ev X M B (pc + 3) L st (mset h a (aL n1 (va_cpy f g sp.toNatClampNeg dp.toNatClampNeg n.toNatClampNeg))) Q) : Ev X M B pc L (.int n :: .int dp :: .ref a :: .int sp :: .ref a0 :: st) h Q := by
  intro p e s m args below meth c H locs ls R C hc hs hW hS hL
  have hw := C.2.2.2.2.2.1
  have hF := C.2.2.2.2.2.2.2.2.2.2.2.1
  have hl1 : ∀ b e1, h b = some e1 → xlo X + b < H.size := fun b e1 hb => (hW.1 b e1 hb).2.lt
  let dl : List Nat := (List.range H.size).filter (fun b => (h b).isSome)
  have hdl : ∀ b, b ∈ dl ↔ ∃ e1, h b = some e1 := by
    intro b
    show b ∈ (List.range H.size).filter _ ↔ _
    rw [List.mem_filter, List.mem_range, Option.isSome_iff_exists]
    exact ⟨fun z => z.2, fun ⟨e1, z⟩ => ⟨by have := hl1 b e1 z; omega, e1, z⟩⟩
  have hnd : dl.Nodup := List.Pairwise.filter _ List.nodup_range
  let ws : va_W := dl.map (fun b => (xlo X + b, cvE X ((h b).getD (aL 0 f))))
  have hws : ∀ (i : Nat) (q : Nat × va_E), ws[i]? = some q → ∃ b e1, dl[i]? = some b ∧ h b = some e1 ∧ q = (xlo X + b, cvE X e1) := by
    intro i q hq
    have hq2 : (dl.map (fun b => (xlo X + b, cvE X ((h b).getD (aL 0 f)))))[i]? = some q := hq
    rw [List.getElem?_map] at hq2
    cases hb : dl[i]? with
    | none => rw [hb] at hq2; cases hq2
    | some b =>
      rw [hb] at hq2
      obtain ⟨e1, he⟩ := (hdl b).mp (List.mem_of_getElem? hb)
      refine ⟨b, e1, rfl, he, ?_⟩
      have := Option.some.inj hq2
      rw [← this]
      show (xlo X + b, cvE X ((h b).getD _)) = _
      rw [he]; rfl
  have hat : ∀ (b : Nat) (e1 : mAc), h b = some e1 → ∃ i : Nat, dl[i]? = some b ∧ ws[i]? = some (xlo X + b, cvE X e1) := by
    intro b e1 hb
    obtain ⟨i, hi⟩ := List.getElem?_of_mem ((hdl b).mpr ⟨e1, hb⟩)
    refine ⟨i, hi, ?_⟩
    show (dl.map _)[i]? = _
    rw [List.getElem?_map, hi]
    show some (xlo X + b, cvE X ((h b).getD _)) = _
    rw [hb]; rfl
  have hP : va_P (xD X) vwCl ws H := by
    intro i q hq
    obtain ⟨b, e1, -, hb, rfl⟩ := hws i q hq
    exact (hW.1 b e1 hb).2
  have hD : va_D (xA X) ws := by
    refine ⟨fun i j q r hq hr hqr => ?_, fun i q hq => ?_⟩
    · obtain ⟨b, e1, hi, -, rfl⟩ := hws i q hq
      obtain ⟨b2, e2, hj, -, rfl⟩ := hws j r hr
      have hbb : b = b2 := Nat.add_left_cancel hqr
      subst hbb
      exact (List.getElem?_inj (List.getElem?_eq_some_iff.mp hi).1 hnd).mp (hi.trans hj.symm)
    · obtain ⟨b, e1, -, -, rfl⟩ := hws i q hq
      exact Nat.le_add_right _ _
  obtain ⟨i0, hi0, hw0⟩ := hat a0 _ ha0
  obtain ⟨i1, hi1, hw1⟩ := hat a _ ha
  show W _ _ _ _ _ _ _ _ _ _ _ _ _ _ _ (F0 m pc ls (.int n :: .int dp :: .ref (xad X a) :: .int sp :: .ref (xad X a0) :: st.map (cv X)))
  rw [xad_lo hW ha, xad_lo hW ha0]
  have hwd : nativeFrameWords "java/lang/System" "arraycopy" 5 + 11 ≤ 30 := by decide
  refine va_copyl (ty := .long) C.1 C.2.1 (C.2.2.2.1.trans hL.1.symm) C.2.2.2.2.1 (hw _ hl) (hw _ hnat) (hw _ hstat) (hw _ hini) hF.2.1 hP hD hS i0 i1 1 1 hw0 hw1 rfl rfl rfl h1 h2 h3 h4 h5 (fun _ _ => rfl) (by rw [C.2.2.2.2.2.2.2.2.2.1]; exact hfr) (by rw [C.2.2.2.2.2.2.2.2.2.2.1, cv_cats]; omega) hd fun H1 locs1 hP1 _ hS1 => ?_
  refine k p e s m args below meth c H1 locs1 ls R C hc hs ⟨fun b e1 hb => ?_, ?_, ?_⟩ hS1 hL
  · by_cases hba : b = a
    · subst hba
      rw [mset_s] at hb
      cases hb
      exact ⟨(hW.1 b _ ha).1, hP1 i1 _ (List.getElem?_set_self (List.getElem?_eq_some_iff.mp hw1).1)⟩
    · rw [mset_n hba] at hb
      obtain ⟨j, hj, hwj⟩ := hat b e1 hb
      refine ⟨(hW.1 b e1 hb).1, hP1 j _ ?_⟩
      rw [List.getElem?_set_ne (fun q => ?_)]
      · exact hwj
      · subst q
        rw [hi1] at hj
        exact hba (Option.some.inj hj).symm
  · exact Nat.le_trans C.2.2.2.2.2.2.2.2.2.2.2.2 hS1.1
  · intro n' hn'
    rw [hB] at hn'
    cases hn'
theorem clone_cell {cell : Cell} {cA : ClassId} {n : Nat} {f : Nat → Int32} (h1 : cell.cls = cA) (h2 : cell.slots.size = n) (h3 : ∀ j : Nat, j < n → cell.slots[j]? = some (.int (f j))) : ({ cls := cell.cls, slots := cell.slots } : Cell) = arrV cA n (fun j => .int (f j)) := by
  subst h1
  subst h2
  have e : cell.slots = (arrV cell.cls cell.slots.size (fun j => .int (f j))).slots := by
    apply Array.ext_getElem?
    intro j
    by_cases hj : j < cell.slots.size
    · rw [h3 j hj, arrV_read _ _ hj]
    · rw [Array.getElem?_eq_none (by omega), Array.getElem?_eq_none (by rw [arrV_size]; omega)]
  exact (congrArg (fun z => ({ cls := cell.cls, slots := z } : Cell)) e).trans rfl
theorem ev_cloneR {X : mX} {M : mMD} {f' : Option Nat} {n ce sl mc ms pc : Nat} {L st : List Value} {h : mH} {Q : mO → mH → Prop} {idx k : Nat} {g : Nat → Int32} (hd : decode (mBy M) pc = .ok (.invokevirtual idx, 3)) (hl : Cond.methodLink (RN (mOwn M)) idx ⟨"[I", "clone", "()Ljava/lang/Object;"⟩ ∈ WL) (w1 : Cond.sameMethod "[I" "java/lang/Object" "clone" "()Ljava/lang/Object;" ∈ WL) (w2 : Cond.native ⟨"java/lang/Object", "clone", "()Ljava/lang/Object;"⟩ ∈ WL) (w3 : Cond.instanceMethod ⟨"java/lang/Object", "clone", "()Ljava/lang/Object;"⟩ ∈ WL) (w4 : Cond.selects "[I" ⟨"[I", "clone", "()Ljava/lang/Object;"⟩ ⟨"java/lang/Object", "clone", "()Ljava/lang/Object;"⟩ ∈ WL) (ha : xro X 1000000 = some (k, g)) (hfr : 1 ≤ mFr M) (hlo : (st.map fun v => v.category).sum + 14 ≤ mLo M) (hn : n + 1 < 1000000) (hcells : ce + 1 ≤ mc) (hslots : sl + k ≤ ms) (kk : Ev X M (some (n + 1), f', ce + 1, sl + k, mc, ms) (pc + 3) L (.ref n :: st) (mset h n (aI k g)) Q) : Ev X M (some n, f', ce, sl, mc, ms) pc L (.ref 1000000 :: st) h Q := by
  intro p e s m args below meth c H locs ls R C hc hs hW hS hL
  have hw := C.2.2.2.2.2.1
  have hF := C.2.2.2.2.2.2.2.2.2.2.2.1
  obtain ⟨hF1, hK, -, -, hcl, -, -, -, -, hR, -, -, ⟨⟨cell0, j1, j2⟩, j3⟩, -⟩ := hF
  obtain ⟨cell, h1, h2, h3, h4, h5, h6⟩ := hR 0 k g ha
  have e0 : cell = cell0 := (Option.some.inj (j1.symm.trans h1)).symm
  subst e0
  have hcK : cell.cls = xK X 0 := Option.some.inj (j2.symm.trans (hK.2 0 _ rfl).2)
  have hcell : H[xta X 0]? = some cell := by rw [hS.2.1 _ (Array.getElem?_eq_some_iff.mp h1).1 h6]; exact h1
  obtain ⟨c0, t0', f1, f2, f3⟩ := Cond.castable_spec (va_Nw.use (A := args) rfl hcl)
  have e00 : cell.cls = c0 := Option.some.inj (j2.symm.trans f1)
  subst e00
  show W _ _ _ _ _ _ _ _ _ _ _ _ _ _ _ (F0 m pc ls (.ref (xad X 1000000) :: st.map (cv X)))
  have ead : xad X 1000000 = xta X 0 := by
    unfold xad
    rw [if_neg (by omega)]
  rw [ead]
  intro T hT Y
  obtain ⟨hst1, kA0, hkA0, comp0, hkind0⟩ := h2
  obtain ⟨-, kA, hkA, comp, hkind⟩ := State.isArrayOf_alike Y.warmed.alike ((hK.2 0 _ rfl).1 0 (fun _ => .null))
  obtain ⟨-, kS, hkS, compS, hkindS⟩ := (hK.2 0 _ rfl).1 0 (fun _ => .null)
  have hcE := clone_cell hcK h4 h5
  obtain ⟨vm', Y', stp⟩ := Y.cloneArray C.1 C.2.2.2.2.1 (hw _ hl) (hw _ w1) (hw _ w2) (hw _ w3) (hw _ w4) (a := xta X 0) (cell := cell) (by rw [hT]; exact hcell) hst1 h3 j2 f2 f3
    (fun i v hv => by
      have hi : i < k := by rw [← h4]; exact (Array.getElem?_eq_some_iff.mp hv).1
      have hv2 : v = .int (g i) := Option.some.inj (hv.symm.trans (h5 i hi))
      rw [hcK, hv2]
      have hk' : T.vm.classes[xK X 0]? = some kA := hkA
      simp [State.fitsSlot, State.slotType?, hk', hkind, fits])
    (g := F0 m pc ls (.ref (xta X 0) :: st.map (cv X))) rfl (hL.1.trans C.2.2.2.1.symm) rfl (by rw [C.2.1]; exact hd) (by rw [C.2.2.2.2.2.2.2.2.2.1]; exact hfr) (by show 2 * 0 + _ + 14 ≤ _; rw [C.2.2.2.2.2.2.2.2.2.2.1, cv_cats]; omega) (by rw [hc]; exact hcells) (by rw [hs, h4]; exact hslots) (hloader := by rw [hcK]; exact Vm.clonesLoader_of_array hkS hkindS)
  rw [hcE, h4] at Y'
  generalize hH1 : H.push (arrV (xK X 0) k (fun j => .int (g j))) = H1
  have z1 : H1.size = H.size + 1 := by rw [← hH1, Array.size_push]
  have e1 : H1[H.size]? = some (arrV (xK X 0) k (fun j => .int (g j))) := by rw [← hH1, Array.getElem?_push_size]
  have o1 : ∀ q : Nat, q < H.size → H1[q]? = H[q]? := fun q hq => by rw [← hH1, Array.getElem?_push, if_neg (Nat.ne_of_lt hq)]
  have hz := (hW.2.2 n rfl).1
  have e9 : Value.ref H.size = cv X (.ref n) := by
    show Value.ref H.size = Value.ref (xad X n)
    rw [hz, xad, if_pos (hW.2.2 n rfl).2.1]
  obtain ⟨t, b1, b2⟩ := kk p e s m args below meth c H1 locs ls R C hc hs (hW.push hn z1 o1 e1) ⟨Nat.le_trans hS.1 (by omega), fun x h1 h2 => (o1 x (Nat.lt_of_lt_of_le h1 hS.1)).trans (hS.2.1 x h1 h2), hS.2.2⟩ hL _ (by rw [← hH1, ← hT]; rfl) Y'
  refine ⟨t, stp t ?_, b2⟩
  rw [hcE, hT, e9]
  exact b1
theorem ev_checkcastI {X : mX} {M : mMD} {B : mB} {pc : Nat} {L st : List Value} {h : mH} {Q : mO → mH → Prop} {idx a n : Nat} {g : Nat → Int32} (hd : decode (mBy M) pc = .ok (.checkcast idx, 3)) (hl : Cond.classLink (RN (mOwn M)) idx "[I" ∈ WL) (ha : h a = some (aI n g)) (k : Ev X M B (pc + 3) L (.ref a :: st) h Q) : Ev X M B pc L (.ref a :: st) h Q := by
  intro p e s m args below meth c H locs ls R C hc hs hW hS hL
  have hF := C.2.2.2.2.2.2.2.2.2.2.2.1
  have K := k p e s m args below meth c H locs ls R C hc hs hW hS hL
  show W _ _ _ _ _ _ _ _ _ _ _ _ _ _ _ (F0 m pc ls (.ref (xad X a) :: st.map (cv X)))
  have K2 : W p (xl X) e R s m args below meth c H locs B.2.2.1 B.2.2.2.1 (vx_MQ below (Qcv X Q B.2.1) (Qxv X Q) args s B.2.2.2.2.1 B.2.2.2.2.2 (xA X)) (F0 m (pc + 3) ls (.ref (xad X a) :: st.map (cv X))) := K
  rw [xad_lo hW ha] at K2 ⊢
  exact va_castA C.1 C.2.1 C.2.2.2.2.1 (C.2.2.2.2.2.1 _ hl) (hW.one ha) 0 rfl (hF.2.1.2 0 _ rfl).2 hd K2
