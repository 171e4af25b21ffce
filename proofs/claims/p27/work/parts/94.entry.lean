/-- the entry: a static array of ints that the start has -/
theorem en_R {args : Array Value} {s : State} {tm : Term} {N : Nat} {f : Nat → Int32} (hN : N < 2 ^ 31) (harr : (Cond.arrayOf tm .int).before args s = true) (hlen : (Term.length tm).eval args s none [] s = some (.int (Int32.ofNat N))) (hel : ∀ j : Nat, j < N → (Term.elem tm (.int (Int32.ofNat j))).eval args s none [] s = some (.int (f j))) : ∃ (t : Nat) (cell : Cell), tm.eval args s none [] s = some (.ref t) ∧ s.heap[t]? = some cell ∧ s.isArrayOf cell .int ∧ cell.vm ≠ .unknown ∧ cell.slots.size = N ∧ ∀ j : Nat, j < N → cell.slots[j]? = some (.int (f j)) := by
  obtain ⟨t, ht, cell, h1, h2, h3, h4, h5, h6, -⟩ := va_Tof (f := fun j => .int (f j)) (A := fun q => s.heap.size ≤ q) hN harr hlen hel (fun a ha => Nat.not_le.mpr ha)
  refine ⟨t, cell, ht, h1, h2, h3, ?_, h6⟩
  obtain ⟨a, cell2, h7, h8, -⟩ := Term.length_spec hlen
  have hta : t = a := by
    have e := ht.symm.trans h7
    cases e
    rfl
  subst hta
  obtain ⟨h9, -, -, -⟩ := State.arrayAt?_spec h8
  cases h1.symm.trans h9
  have hsz : cell.slots.size < 2 ^ 31 := by
    simp only [Term.eval, ht, h8, Option.bind_eq_bind, Option.bind_some] at hlen
    by_cases hlt : cell.slots.size < 2147483648
    · exact hlt
    · simp [hlt] at hlen
  have e := congrArg Int32.toInt h5
  rw [show cell.slots.size.toInt32 = Int32.ofNat cell.slots.size from rfl, Int32.toInt_ofNat_small hsz, Int32.toInt_ofNat_small hN] at e
  omega
theorem en_stat {args : Array Value} {s : State} {n : String} {f : Nat → Nat} (hl : (Cond.laysStatic RX6 n "[I").before args s = true) (hi : (Cond.initialized RX6).before args s = true) (ha : (Cond.arrayOf (.static RX6 n "[I") .int).before args s = true) (hx : (Cond.exactly (.static RX6 n "[I") "[I").before args s = true) (hn : (Cond.eq (.length (.static RX6 n "[I")) (.int (nI 5))).before args s = true) (he : ∀ j, j < 5 → (Cond.eq (.elem (.static RX6 n "[I") (.int (nI j))) (.int (nI (f j)))).before args s = true) : ∃ t : Nat, t < s.heap.size ∧ (∃ cell : Cell, s.heap[t]? = some cell ∧ s.isArrayOf cell .int ∧ cell.vm ≠ .unknown ∧ cell.slots.size = 5 ∧ (∀ j : Nat, j < 5 → cell.slots[j]? = some (.int (nI (f j)))) ∧ s.vm.findClass "[I" = some cell.cls) ∧ va_Z RX6 n "[I" (.ref t) (fun q => s.heap.size ≤ q) s s.heap := by
  obtain ⟨t, cell, h0, h1, h2, h3, h4, h5⟩ := en_R (N := 5) (f := fun j => nI (f j)) (by decide) ha (va_eqt hn) (fun j hj => va_eqt (he j hj))
  obtain ⟨a, c, cell2, k, h6, h7, h8, -, -, h9, -⟩ := Cond.exactly_spec hx
  cases h0.symm.trans h6
  cases h1.symm.trans h8
  exact ⟨t, (Array.getElem?_eq_some_iff.mp h1).1, ⟨cell, h1, h2, h3, h4, h5, by rw [h7, h9]⟩, va_Zref hl hi h0 (fun a ha => Nat.not_le.mpr ha)⟩
theorem en_str {args : Array Value} {s : State} {own tx : String} {k : Nat} (h1 : (Cond.stringRef own k tx).before args s = true) (h2 : (Cond.exactly (.string own k) "java/lang/String").before args s = true) : ∃ a, vk_R own k tx a s := by
  obtain ⟨a, c, cell, kk, h, -⟩ := Cond.exactly_spec h2
  exact ⟨a, vk_R.of h1 h⟩
theorem en_T {args : Array Value} {s : State} (hts : ∀ w ∈ lw_tbl, w.before args s = true) {w : Cond} (i : Nat) (h : lw_tbl[i]? = some w) : w.before args s = true := hts w (List.mem_of_getElem? h)
set_option maxHeartbeats 4000000 in
set_option maxRecDepth 100000 in
theorem en_strs {args : Array Value} {s : State} (hts : ∀ w ∈ lw_tbl, w.before args s = true) (hg : ∀ w ∈ flatC (Jvm.Cond.and given_1 narrow_1), w.before args s = true) : ∀ q ∈ xstrs, ∃ a, vk_R RX6 q.1 q.2 a s := by
  have key : ∀ (k : Nat) (tx : String), Cond.stringRef RX6 k tx ∈ lw_tbl → Cond.exactly (.string RX6 k) "java/lang/String" ∈ flatC (Jvm.Cond.and given_1 narrow_1) → ∃ a, vk_R RX6 k tx a s := fun k tx h1 h2 => en_str (hts _ h1) (hg _ h2)
  have all : ∀ q ∈ xstrs, Cond.stringRef RX6 q.1 q.2 ∈ lw_tbl ∧ Cond.exactly (.string RX6 q.1) "java/lang/String" ∈ flatC (Jvm.Cond.and given_1 narrow_1) := by decide +kernel
  exact fun q hq => key q.1 q.2 (all q hq).1 (all q hq).2
theorem en_kn {args : Array Value} {s : State} (hW : ∀ w ∈ WL, w.before args s = true) : ∃ D : va_G, ∀ c, c < 7 → u_Kn s (RN c) (TN c) (NN c) (D.1 c) (D.2 c) := by
  obtain ⟨c0, i0, k0⟩ := u_known hW (in_N (c := 0) (by decide)) (hW _ wn_0)
  obtain ⟨c1, i1, k1⟩ := u_known hW (in_N (c := 1) (by decide)) (hW _ wn_1)
  obtain ⟨c2, i2, k2⟩ := u_known hW (in_N (c := 2) (by decide)) (hW _ wn_2)
  obtain ⟨c3, i3, k3⟩ := u_known hW (in_N (c := 3) (by decide)) (hW _ wn_3)
  obtain ⟨c4, i4, k4⟩ := u_known hW (in_N (c := 4) (by decide)) (hW _ wn_4)
  obtain ⟨c5, i5, k5⟩ := u_known hW (in_N (c := 5) (by decide)) (hW _ wn_5)
  obtain ⟨c6, i6, k6⟩ := u_known hW (in_N (c := 6) (by decide)) (hW _ wn_6)
  refine ⟨(fun c => match c with | 0 => c0 | 1 => c1 | 2 => c2 | 3 => c3 | 4 => c4 | 5 => c5 | _ => c6, fun c => match c with | 0 => i0 | 1 => i1 | 2 => i2 | 3 => i3 | 4 => i4 | 5 => i5 | _ => i6), fun c hc => ?_⟩
  obtain rfl | rfl | rfl | rfl | rfl | rfl | rfl : c = 0 ∨ c = 1 ∨ c = 2 ∨ c = 3 ∨ c = 4 ∨ c = 5 ∨ c = 6 := by omega
  · exact k0
  · exact k1
  · exact k2
  · exact k3
  · exact k4
  · exact k5
  · exact k6
theorem en_arr {args : Array Value} {s : State} {t : FieldType} (h : (Cond.arrayClass t).before args s = true) (ho : ∀ C, t ≠ .object C) : ∃ c : ClassId, ArrOfT s c t ∧ va_RA s c t := by
  obtain ⟨c, k, comp, h1, h2, h3⟩ := Cond.arrayClass_spec h
  refine ⟨c, fun N z => ⟨(fun q hq => by cases hq), k, h2, comp, h3⟩, ?_⟩
  cases t <;> first | exact h1 | exact absurd rfl (ho _)
theorem en_arrO {args : Array Value} {s : State} {C : String} (h : (Cond.arrayOver (.object C)).before args s = true) : ∃ c : ClassId, ArrOfT s c (.object C) ∧ va_RA s c (.object C) := by
  obtain ⟨comp, c, k, f1, -, f2, f3, f4⟩ := Cond.arrayOver_spec h
  exact ⟨c, fun N z => ⟨(fun q hq => by cases hq), k, f2, comp, f3⟩, k, comp, f2, f3, f1, f4⟩
def enK (a b c d : ClassId) : Nat → ClassId := fun k => match k with
  | 0 => a
  | 1 => b
  | 2 => c
  | _ => d
def enTa (a b c d : Nat) : Nat → Nat := fun k => match k with
  | 0 => a
  | 1 => b
  | 2 => c
  | _ => d
def enRo (L : Nat) (xs : Nat → Int32) : Nat → Option (Nat × (Nat → Int32)) := fun i => if i = 1000000 + 0 then some (5, nf fstF) else if i = 1000000 + 1 then some (5, nf lowF) else if i = 1000000 + 2 then some (5, nf higF) else if i = 1000000 + 3 then some (L, xs) else none
theorem enRo_0 (L : Nat) (xs : Nat → Int32) : enRo L xs (1000000 + 0) = some (5, nf fstF) := if_pos rfl
theorem enRo_1 (L : Nat) (xs : Nat → Int32) : enRo L xs (1000000 + 1) = some (5, nf lowF) := by unfold enRo; rw [if_neg (by omega), if_pos rfl]
theorem enRo_2 (L : Nat) (xs : Nat → Int32) : enRo L xs (1000000 + 2) = some (5, nf higF) := by unfold enRo; rw [if_neg (by omega), if_neg (by omega), if_pos rfl]
theorem enRo_3 (L : Nat) (xs : Nat → Int32) : enRo L xs (1000000 + 3) = some (L, xs) := by unfold enRo; rw [if_neg (by omega), if_neg (by omega), if_neg (by omega), if_pos rfl]
theorem enRo_4 (L : Nat) (xs : Nat → Int32) (k : Nat) : enRo L xs (1000000 + (k + 4)) = none := by unfold enRo; rw [if_neg (by omega), if_neg (by omega), if_neg (by omega), if_neg (by omega)]
theorem en_el {args : Array Value} {s : State} {n : String} {f : Nat → Nat} (h0 : (Cond.eq (.elem (.static RX6 n "[I") (.int (nI 0))) (.int (nI (f 0)))).before args s = true) (h1 : (Cond.eq (.elem (.static RX6 n "[I") (.int (nI 1))) (.int (nI (f 1)))).before args s = true) (h2 : (Cond.eq (.elem (.static RX6 n "[I") (.int (nI 2))) (.int (nI (f 2)))).before args s = true) (h3 : (Cond.eq (.elem (.static RX6 n "[I") (.int (nI 3))) (.int (nI (f 3)))).before args s = true) (h4 : (Cond.eq (.elem (.static RX6 n "[I") (.int (nI 4))) (.int (nI (f 4)))).before args s = true) : ∀ j, j < 5 → (Cond.eq (.elem (.static RX6 n "[I") (.int (nI j))) (.int (nI (f j)))).before args s = true := by
  intro j hj
  obtain rfl | rfl | rfl | rfl | rfl : j = 0 ∨ j = 1 ∨ j = 2 ∨ j = 3 ∨ j = 4 := by omega
  · exact h0
  · exact h1
  · exact h2
  · exact h3
  · exact h4
set_option maxHeartbeats 4000000 in
set_option maxRecDepth 100000 in
theorem en_X {args : Array Value} {s : State} {l : Launch} (hflags : l.flags = flags0) {b L : Nat} {xs : Nat → Int32} (hts : ∀ w ∈ lw_tbl, w.before args s = true) (hgv : (Jvm.Cond.and given_1 narrow_1).before args s = true) (hX : va_X b L xs s s.heap) (hbl : b < s.heap.size) : ∃ X : mX, xl X = l ∧ xlo X = s.heap.size ∧ xta X 3 = b ∧ RO X ∧ xro X (1000000 + 3) = some (L, xs) ∧ Fx X s s.heap := by
  have hW : ∀ w ∈ WL, w.before args s = true := fun w h => hts w (WL_tbl h)
  have hg := flat_of_before _ hgv
  have hA : ∀ a : Nat, a < s.heap.size → ¬ s.heap.size ≤ a := fun a ha => Nat.not_le.mpr ha
  obtain ⟨D, hD⟩ := en_kn hW
  obtain ⟨cI, hI⟩ := en_arr (hW _ w_arrI) (fun C h => by cases h)
  obtain ⟨cL, hL⟩ := en_arr (hW _ w_arrL) (fun C h => by cases h)
  have hO1 : (Cond.arrayOver (.object RX1)).before args s = true := hts _ (by decide +kernel)
  have hO4 : (Cond.arrayOver (.object RX4)).before args s = true := hts _ (by decide +kernel)
  obtain ⟨cC, hC⟩ := en_arrO hO1
  obtain ⟨cS, hS⟩ := en_arrO hO4
  have hi6 : (Cond.initialized RX6).before args s = true := hW _ wi_6
  obtain ⟨t0, l0, ⟨a0, p01, p02, p03, p04, p05, p06⟩, z0⟩ := en_stat (s := s) (args := args) (n := "FIRST_VALUES") (f := fstF) (hts _ (by decide +kernel)) hi6 (hg _ (by decide +kernel)) (hg _ (by decide +kernel)) (hg _ (by decide +kernel)) (en_el (hg _ (by decide +kernel)) (hg _ (by decide +kernel)) (hg _ (by decide +kernel)) (hg _ (by decide +kernel)) (hg _ (by decide +kernel)))
  obtain ⟨t1, l1, ⟨a1, p11, p12, p13, p14, p15, p16⟩, z1⟩ := en_stat (s := s) (args := args) (n := "LOWEST_VALUES") (f := lowF) (hts _ (by decide +kernel)) hi6 (hg _ (by decide +kernel)) (hg _ (by decide +kernel)) (hg _ (by decide +kernel)) (en_el (hg _ (by decide +kernel)) (hg _ (by decide +kernel)) (hg _ (by decide +kernel)) (hg _ (by decide +kernel)) (hg _ (by decide +kernel)))
  obtain ⟨t2, l2, ⟨a2, p21, p22, p23, p24, p25, p26⟩, z2⟩ := en_stat (s := s) (args := args) (n := "HIGHEST_VALUES") (f := higF) (hts _ (by decide +kernel)) hi6 (hg _ (by decide +kernel)) (hg _ (by decide +kernel)) (hg _ (by decide +kernel)) (en_el (hg _ (by decide +kernel)) (hg _ (by decide +kernel)) (hg _ (by decide +kernel)) (hg _ (by decide +kernel)) (hg _ (by decide +kernel)))
  obtain ⟨scr, q1, q2, q3, q4, q5⟩ := hX
  refine ⟨(l, D, enK cI cL cC cS, s.heap.size, enTa t0 t1 t2 b, enRo L xs), rfl, rfl, rfl, ⟨enRo_0 L xs, enRo_1 L xs, enRo_2 L xs⟩, enRo_3 L xs, ?_, ⟨?_, ?_⟩, ?_, ?_, ?_, ?_, ?_, ?_, ?_, ?_, ?_, ?_, ?_, ?_, ?_⟩
  · show (!l.flags.contains noTraceFlag) = false
    rw [hflags]
    decide +kernel
  · intro c q hq
    match c, hq with
    | 0, hq => cases hq; exact hD 0 (by decide)
    | 1, hq => cases hq; exact hD 1 (by decide)
    | 2, hq => cases hq; exact hD 2 (by decide)
    | 3, hq => cases hq; exact hD 3 (by decide)
    | 4, hq => cases hq; exact hD 4 (by decide)
    | 5, hq => cases hq; exact hD 5 (by decide)
    | 6, hq => cases hq; exact hD 6 (by decide)
    | n + 7, hq => simp [vwCl] at hq
  · intro k q hq
    match k, hq with
    | 0, hq => cases hq; exact hI
    | 1, hq => cases hq; exact hL
    | 2, hq => cases hq; exact hC
    | 3, hq => cases hq; exact hS
    | n + 4, hq => simp [xtys] at hq
  · exact fun k hk => lt3 (P := fun k => va_Nw (.castable (exn k) (exn k)) s) (va_Nw.of rfl (hts _ (by decide +kernel))) (va_Nw.of rfl (hts _ (by decide +kernel))) (va_Nw.of rfl (hts _ (by decide +kernel))) hk
  · exact fun _ _ _ _ _ => trivial
  · exact va_Nw.of rfl (hts _ (by decide +kernel))
  · exact en_strs hts hg
  · exact vx_Zqof (hts _ (by decide +kernel)) (hts _ (by decide +kernel)) (hg _ (by decide +kernel)) hA
  · exact vx_Zqof (hts _ (by decide +kernel)) (hts _ (by decide +kernel)) (hg _ (by decide +kernel)) hA
  · intro k hk
    obtain rfl | rfl | rfl : k = 0 ∨ k = 1 ∨ k = 2 := by omega
    · exact z0
    · exact z1
    · exact z2
  · intro k n f e
    match k, e with
    | 0, e =>
      have e' := (enRo_0 L xs).symm.trans e
      cases e'
      exact ⟨a0, p01, p02, p03, p04, p05, hA _ l0⟩
    | 1, e =>
      have e' := (enRo_1 L xs).symm.trans e
      cases e'
      exact ⟨a1, p11, p12, p13, p14, p15, hA _ l1⟩
    | 2, e =>
      have e' := (enRo_2 L xs).symm.trans e
      cases e'
      exact ⟨a2, p21, p22, p23, p24, p25, hA _ l2⟩
    | 3, e =>
      have e' := (enRo_3 L xs).symm.trans e
      cases e'
      exact ⟨scr, q1, q2, q3, q4, q5, hA _ hbl⟩
    | k + 4, e =>
      have e' := (enRo_4 L xs k).symm.trans e
      cases e'
  · exact va_AO.of hO1
  · exact va_AO.of hO4
  · exact ⟨⟨a0, p01, p06⟩, hA _ l0⟩
  · intro n hn
    have hd : ∀ n ∈ exDc, Cond.declares (Bundle.initS n) ∈ lw_tbl := by decide +kernel
    exact va_Nw.of rfl (hts _ (hd n hn))
  · exact va_Nw.of rfl (hts _ (by decide +kernel))
set_option maxHeartbeats 4000000 in
set_option maxRecDepth 100000 in
theorem en_W {p : Program} {e : Env} {s : State} {m : MethodId} {below : List Frame} {meth : Method} {c : Code} (l : Launch) (hflags : l.flags = flags0) {b L : Nat} {xs : Nat → Int32} (hLs : L ≤ 260) (hx : p.tables.exec = Jvm.exec) (hb : c.code = code) (hr : meth.sig.returnType = ret) (hml : c.maxLocals = 10) (hown : s.vm.findClass RL = some m.cls) (hts : ∀ w ∈ lw_tbl, w.before #[Value.ref b] s = true) (hX : va_X b L xs s s.heap) (hbl : b < s.heap.size) (hlocks : meth.locks = false) (hgv : (Jvm.Cond.and given_1 narrow_1).before #[Value.ref b] s = true) (hname : meth.name = (mNm m_L_law).name) (htab : c.exceptionTable.toList.map (fun h => (h.startPc, h.endPc, h.handlerPc, h.catchType)) = []) : W p l e room_1 s m #[Value.ref b] below meth c s.heap [] 0 0 (fun t => ∃ o, t.status = .running ∧ Ended t below o ∧ o = .returned (some (.int 1)) ∧ ∃ Lc, FrameEnd s o t Lc 600130 7301080 ∧ ∀ q ∈ Lc, s.heap.size ≤ q.base) (entryFrame m ([Value.ref b] : List Value).toArray 10) := by
  obtain ⟨X, rfl, e2, e3, hR, hsc, hF⟩ := en_X hflags hts hgv hX hbl
  have hxad : xad X (1000000 + 3) = b := by
    unfold xad
    rw [if_neg (by omega)]
    exact e3
  have ecv : ([.ref (1000000 + 3)] : List Value).map (cv X) = [.ref b] := by
    show [Value.ref (xad X (1000000 + 3))] = _
    rw [hxad]
  have hLR := ent_LR X [.ref (1000000 + 3)] (n := 10) (Nat.le_of_ble_eq_true rfl)
  rw [ecv] at hLR
  rw [lg_entry_eq]
  have hWd : Wd X (fun _ => none) (some 0) s.heap := by
    refine ⟨fun a ee he => ?_, Nat.le_of_eq e2, fun n hn => ?_⟩
    · cases he
    · cases hn
      exact ⟨by rw [e2]; rfl, by decide, fun a _ => rfl⟩
  have hC : Cx X m_L_law room_1 p s m #[Value.ref b] meth c := ⟨hx, hb, hr, hml, hown, fun w hw => hts w (WL_tbl hw), hlocks, hname, htab, rfl, rfl, hF, Nat.le_of_eq e2⟩
  have K := law_ev hR hsc hLs p e s m #[Value.ref b] below meth c s.heap [] _ room_1 hC rfl rfl hWd va_S.rf hLR
  intro T hT Y
  obtain ⟨t, a1, o, b1, b2, b3⟩ := K T hT Y
  refine ⟨t, a1, o, b1, b2, ?_⟩
  rcases b3 with ⟨⟨v, h, f1, f2, -, -⟩, Lc, hfe, hfree⟩ | ⟨q, f1, E, ce, Lc, ⟨k, h, f2, f3, f4, -⟩, -⟩
  · cases f2
    exact ⟨f1, Lc, hfe, fun q hq => by have := hfree q hq; rw [← e2]; exact this⟩
  · cases f4
