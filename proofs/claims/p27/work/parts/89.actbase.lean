theorem ev_cSG10 {X : mX} {M M' : mMD} {f f' f1 : Option Nat} {ce sl mc ms mc1 ms1 pc : Nat} {L st : List Value} {h : mH} {Q Q1 : mO → mH → Prop} {idx : Nat} {a1 a2 a3 a4 a5 a6 a7 a8 a9 a10 : Value} (hd : decode (mBy M) pc = .ok (.invokestatic idx, 3)) (hcal : CalS M' 10) (hl : Cond.methodLink (RN (mOwn M)) idx (mNm M') ∈ WL) (hfit : Fits M M') (hh : mHH M = []) (hst : (st.map fun v => v.category).sum ≤ 8) (hce : ce + mc1 ≤ mc) (hsl : sl + ms1 ≤ ms) (hm : Cn X M' f f1 mc1 ms1 [a1, a2, a3, a4, a5, a6, a7, a8, a9, a10] h Q1) (kk : ∀ (v : Option Value) (h1 : mH), Q1 (.inl v) h1 → Ev X M (f1, f', ce + mc1, sl + ms1, mc, ms) (pc + 3) L (v.toList ++ st) h1 Q) (kx : ∀ (k : Nat) (h1 : mH), Q1 (.inr k) h1 → Q (.inr k) h1) : Ev X M (f, f', ce, sl, mc, ms) pc L (a10 :: a9 :: a8 :: a7 :: a6 :: a5 :: a4 :: a3 :: a2 :: a1 :: st) h Q :=
  ev_callS (as := [a1, a2, a3, a4, a5, a6, a7, a8, a9, a10]) hd hcal hl hfit hh rfl hst hm hce hsl kk kx
theorem LawN.of {h : mH} {V : Nat} {gn gs ge gl : Nat → Nat} {gc : Nat → Int64} {gq go gv : Nat → Nat} (x : LwN h V gn gs ge gl gc gq go gv) : LawN h gn gs ge gl gc gq go := ⟨x.1, x.2.1, x.2.2.1, x.2.2.2.1, x.2.2.2.2.1, x.2.2.2.2.2.1, x.2.2.2.2.2.2.1⟩
theorem LawN.with {h : mH} {V : Nat} {gn gs ge gl : Nat → Nat} {gc : Nat → Int64} {gq go gv : Nat → Nat} (x : LawN h gn gs ge gl gc gq go) (y : h V = some (aI 16 (nf gv))) : LwN h V gn gs ge gl gc gq go gv := ⟨x.1, x.2.1, x.2.2.1, x.2.2.2.1, x.2.2.2.2.1, x.2.2.2.2.2.1, x.2.2.2.2.2.2, y⟩
theorem LawN.go {h h1 : mH} {gn gs ge gl : Nat → Nat} {gc : Nat → Int64} {gq go : Nat → Nat} {a n : Nat} (x : LawN h gn gs ge gl gc gq go) (o : Out h h1 a n) (ha : 277 ≤ a ∨ a + n ≤ 270) : LawN h1 gn gs ge gl gc gq go := by
  obtain ⟨k0, k1, k2, k3, k4, k5, k6⟩ := x
  exact ⟨(o _ (by omega)).trans k0, (o _ (by omega)).trans k1, (o _ (by omega)).trans k2, (o _ (by omega)).trans k3, (o _ (by omega)).trans k4, (o _ (by omega)).trans k5, (o _ (by omega)).trans k6⟩
/-- between acts: the class's object and the law's arrays tell of one state -/
def JW (h : mH) (A : mAs) (gn gs ge gl : Nat → Nat) (gc : Nat → Int64) (gq go : Nat → Nat) : Prop := ClsN h A ∧ InvA A ∧ aB A = 0 ∧ LawN h gn gs ge gl gc gq go ∧ RelT9 gn gs ge gl gc gq go (aT A) ∧ gn 9 = aN A
def PW (h : mH) : Prop := ∃ (A : mAs) (gn gs ge gl : Nat → Nat) (gc : Nat → Int64) (gq go : Nat → Nat), JW h A gn gs ge gl gc gq go
theorem RelT9.n9 {gn g1 gs ge gl : Nat → Nat} {gc : Nat → Int64} {gq go : Nat → Nat} {T : mSt} (h : RelT9 gn gs ge gl gc gq go T) (e : ∀ i, i ≠ 9 → g1 i = gn i) : RelT9 g1 gs ge gl gc gq go T := by
  obtain ⟨h1, h2, h3, h4, h5⟩ := h
  refine ⟨fun k hk => by rw [e _ (by omega)]; exact h1 k hk, by rw [e _ (by omega)]; exact h2, by rw [e _ (by omega)]; exact h3, h4, fun t ht => ?_⟩
  rw [e t (by omega)]
  exact h5 t ht
/-- a change of the class behind a change of the law's arrays -/
theorem JW.chg {h h1 : mH} {A A1 : mAs} {gn gs ge gl : Nat → Nat} {gc : Nat → Int64} {gq go : Nat → Nat} {d : Nat → Nat} (hI : InvA A) (hT : InvT (aT A1)) (hl : LawN h gn gs ge gl gc gq go) (hr : RelT9 gn gs ge gl gc gq go (aT A1)) (h9 : gn 9 = pshN (aN A)) (hc : ClsN h1 (aT A1, hisA A, (0, d))) (o : Out h h1 0 270) : JW h1 (aT A1, hisA A, (0, d)) gn gs ge gl gc gq go :=
  ⟨hc, hI.his hT (Nat.zero_le _) (fun j hj => absurd hj (Nat.not_lt_zero j)), rfl, hl.go o (Or.inr (by omega)), hr, h9⟩
theorem act_n9_178 {X : mX} {h : mH} {B : mB} {L : List Value} {gn : Nat → Nat} {Q : mO → mH → Prop} (k0 : h 270 = some (aI 12 (nf gn))) (h6 : gn 9 ≤ 6) (hL : L[3]? = some (.ref 270)) (kk : ∀ (h1 : mH) (g1 : Nat → Nat), g1 9 = pshN (gn 9) → (∀ i, i ≠ 9 → g1 i = gn i) → h1 270 = some (aI 12 (nf g1)) → Out h h1 270 1 → Ev X m_L_act B 195 L [] h1 Q) : Ev X m_L_act B 178 L [] h Q := by
  refine ev_aload_n dL_act_178 rfl hL ?_
  refine ev_bipush (nI 9) dL_act_179 rfl ?_
  refine ev_ialoadF dL_act_181 k0 (by decide) (by decide) ?_
  refine ev_bipush (nI 6) dL_act_182 rfl ?_
  refine ev_icmp_geN 195 dL_act_184 rfl (by omega) (by omega) (fun hc => ?_) (fun hc => ?_)
  · exact kk h gn (by rw [pshN, if_neg (by omega)]; omega) (fun _ _ => rfl) k0 Out.rf
  · refine ev_aload_n dL_act_187 rfl hL ?_
    refine ev_bipush (nI 9) dL_act_188 rfl ?_
    refine ev_dup2 dL_act_190 rfl rfl ?_
    refine ev_ialoadF dL_act_191 k0 (by decide) (by decide) ?_
    refine ev_iconst (nI 1) dL_act_192 rfl ?_
    refine ev_iaddN dL_act_193 ?_
    refine ev_iastoreF dL_act_194 k0 (by decide) (by decide) ?_
    exact kk _ _ (by rw [upN_s, pshN, if_pos hc]) (fun i hi => upN_n hi) (mset_s _ _ _) (Out.set (by omega) (by omega))
theorem act_n9_384 {X : mX} {h : mH} {B : mB} {L : List Value} {gn : Nat → Nat} {Q : mO → mH → Prop} (k0 : h 270 = some (aI 12 (nf gn))) (h6 : gn 9 ≤ 6) (hL : L[3]? = some (.ref 270)) (kk : ∀ (h1 : mH) (g1 : Nat → Nat), g1 9 = pshN (gn 9) → (∀ i, i ≠ 9 → g1 i = gn i) → h1 270 = some (aI 12 (nf g1)) → Out h h1 270 1 → Ev X m_L_act B 401 L [] h1 Q) : Ev X m_L_act B 384 L [] h Q := by
  refine ev_aload_n dL_act_384 rfl hL ?_
  refine ev_bipush (nI 9) dL_act_385 rfl ?_
  refine ev_ialoadF dL_act_387 k0 (by decide) (by decide) ?_
  refine ev_bipush (nI 6) dL_act_388 rfl ?_
  refine ev_icmp_geN 401 dL_act_390 rfl (by omega) (by omega) (fun hc => ?_) (fun hc => ?_)
  · exact kk h gn (by rw [pshN, if_neg (by omega)]; omega) (fun _ _ => rfl) k0 Out.rf
  · refine ev_aload_n dL_act_393 rfl hL ?_
    refine ev_bipush (nI 9) dL_act_394 rfl ?_
    refine ev_dup2 dL_act_396 rfl rfl ?_
    refine ev_ialoadF dL_act_397 k0 (by decide) (by decide) ?_
    refine ev_iconst (nI 1) dL_act_398 rfl ?_
    refine ev_iaddN dL_act_399 ?_
    refine ev_iastoreF dL_act_400 k0 (by decide) (by decide) ?_
    exact kk _ _ (by rw [upN_s, pshN, if_pos hc]) (fun i hi => upN_n hi) (mset_s _ _ _) (Out.set (by omega) (by omega))
theorem act_n9_524 {X : mX} {h : mH} {B : mB} {L : List Value} {gn : Nat → Nat} {Q : mO → mH → Prop} (k0 : h 270 = some (aI 12 (nf gn))) (h6 : gn 9 ≤ 6) (hL : L[3]? = some (.ref 270)) (kk : ∀ (h1 : mH) (g1 : Nat → Nat), g1 9 = pshN (gn 9) → (∀ i, i ≠ 9 → g1 i = gn i) → h1 270 = some (aI 12 (nf g1)) → Out h h1 270 1 → Ev X m_L_act B 541 L [] h1 Q) : Ev X m_L_act B 524 L [] h Q := by
  refine ev_aload_n dL_act_524 rfl hL ?_
  refine ev_bipush (nI 9) dL_act_525 rfl ?_
  refine ev_ialoadF dL_act_527 k0 (by decide) (by decide) ?_
  refine ev_bipush (nI 6) dL_act_528 rfl ?_
  refine ev_icmp_geN 541 dL_act_530 rfl (by omega) (by omega) (fun hc => ?_) (fun hc => ?_)
  · exact kk h gn (by rw [pshN, if_neg (by omega)]; omega) (fun _ _ => rfl) k0 Out.rf
  · refine ev_aload_n dL_act_533 rfl hL ?_
    refine ev_bipush (nI 9) dL_act_534 rfl ?_
    refine ev_dup2 dL_act_536 rfl rfl ?_
    refine ev_ialoadF dL_act_537 k0 (by decide) (by decide) ?_
    refine ev_iconst (nI 1) dL_act_538 rfl ?_
    refine ev_iaddN dL_act_539 ?_
    refine ev_iastoreF dL_act_540 k0 (by decide) (by decide) ?_
    exact kk _ _ (by rw [upN_s, pshN, if_pos hc]) (fun i hi => upN_n hi) (mset_s _ _ _) (Out.set (by omega) (by omega))
theorem act_n9_681 {X : mX} {h : mH} {B : mB} {L : List Value} {gn : Nat → Nat} {Q : mO → mH → Prop} (k0 : h 270 = some (aI 12 (nf gn))) (h6 : gn 9 ≤ 6) (hL : L[3]? = some (.ref 270)) (kk : ∀ (h1 : mH) (g1 : Nat → Nat), g1 9 = pshN (gn 9) → (∀ i, i ≠ 9 → g1 i = gn i) → h1 270 = some (aI 12 (nf g1)) → Out h h1 270 1 → Ev X m_L_act B 698 L [] h1 Q) : Ev X m_L_act B 681 L [] h Q := by
  refine ev_aload_n dL_act_681 rfl hL ?_
  refine ev_bipush (nI 9) dL_act_682 rfl ?_
  refine ev_ialoadF dL_act_684 k0 (by decide) (by decide) ?_
  refine ev_bipush (nI 6) dL_act_685 rfl ?_
  refine ev_icmp_geN 698 dL_act_687 rfl (by omega) (by omega) (fun hc => ?_) (fun hc => ?_)
  · exact kk h gn (by rw [pshN, if_neg (by omega)]; omega) (fun _ _ => rfl) k0 Out.rf
  · refine ev_aload_n dL_act_690 rfl hL ?_
    refine ev_bipush (nI 9) dL_act_691 rfl ?_
    refine ev_dup2 dL_act_693 rfl rfl ?_
    refine ev_ialoadF dL_act_694 k0 (by decide) (by decide) ?_
    refine ev_iconst (nI 1) dL_act_695 rfl ?_
    refine ev_iaddN dL_act_696 ?_
    refine ev_iastoreF dL_act_697 k0 (by decide) (by decide) ?_
    exact kk _ _ (by rw [upN_s, pshN, if_pos hc]) (fun i hi => upN_n hi) (mset_s _ _ _) (Out.set (by omega) (by omega))
theorem act_n9_717 {X : mX} {h : mH} {B : mB} {L : List Value} {gn : Nat → Nat} {Q : mO → mH → Prop} (k0 : h 270 = some (aI 12 (nf gn))) (h6 : gn 9 ≤ 6) (hL : L[3]? = some (.ref 270)) (kk : ∀ (h1 : mH) (g1 : Nat → Nat), g1 9 = pshN (gn 9) → (∀ i, i ≠ 9 → g1 i = gn i) → h1 270 = some (aI 12 (nf g1)) → Out h h1 270 1 → Ev X m_L_act B 734 L [] h1 Q) : Ev X m_L_act B 717 L [] h Q := by
  refine ev_aload_n dL_act_717 rfl hL ?_
  refine ev_bipush (nI 9) dL_act_718 rfl ?_
  refine ev_ialoadF dL_act_720 k0 (by decide) (by decide) ?_
  refine ev_bipush (nI 6) dL_act_721 rfl ?_
  refine ev_icmp_geN 734 dL_act_723 rfl (by omega) (by omega) (fun hc => ?_) (fun hc => ?_)
  · exact kk h gn (by rw [pshN, if_neg (by omega)]; omega) (fun _ _ => rfl) k0 Out.rf
  · refine ev_aload_n dL_act_726 rfl hL ?_
    refine ev_bipush (nI 9) dL_act_727 rfl ?_
    refine ev_dup2 dL_act_729 rfl rfl ?_
    refine ev_ialoadF dL_act_730 k0 (by decide) (by decide) ?_
    refine ev_iconst (nI 1) dL_act_731 rfl ?_
    refine ev_iaddN dL_act_732 ?_
    refine ev_iastoreF dL_act_733 k0 (by decide) (by decide) ?_
    exact kk _ _ (by rw [upN_s, pshN, if_pos hc]) (fun i hi => upN_n hi) (mset_s _ _ _) (Out.set (by omega) (by omega))
theorem LwN.up0 {h h1 : mH} {V : Nat} {gn gs ge gl : Nat → Nat} {gc : Nat → Int64} {gq go gv : Nat → Nat} {g1 : Nat → Nat} (x : LwN h V gn gs ge gl gc gq go gv) (hV : 277 ≤ V) (o : Out h h1 270 1) (k0 : h1 270 = some (aI 12 (nf g1))) : LwN h1 V g1 gs ge gl gc gq go gv := by
  obtain ⟨-, k1, k2, k3, k4, k5, k6, k7⟩ := x
  exact ⟨k0, (o _ (by omega)).trans k1, (o _ (by omega)).trans k2, (o _ (by omega)).trans k3, (o _ (by omega)).trans k4, (o _ (by omega)).trans k5, (o _ (by omega)).trans k6, (o _ (by omega)).trans k7⟩
theorem LawN.up0 {h h1 : mH} {gn gs ge gl : Nat → Nat} {gc : Nat → Int64} {gq go g1 : Nat → Nat} (x : LawN h gn gs ge gl gc gq go) (o : Out h h1 270 1) (k0 : h1 270 = some (aI 12 (nf g1))) : LawN h1 g1 gs ge gl gc gq go := by
  obtain ⟨-, k1, k2, k3, k4, k5, k6⟩ := x
  exact ⟨k0, (o _ (by omega)).trans k1, (o _ (by omega)).trans k2, (o _ (by omega)).trans k3, (o _ (by omega)).trans k4, (o _ (by omega)).trans k5, (o _ (by omega)).trans k6⟩
theorem LwN.s7 {h : mH} {V : Nat} {gn gs ge gl : Nat → Nat} {gc : Nat → Int64} {gq go gv : Nat → Nat} (y : LwN h V gn gs ge gl gc gq go gv) (hV : 277 ≤ V) (x : Nat → Nat) : LwN (mset h V (aI 16 (nf x))) V gn gs ge gl gc gq go x := by
  obtain ⟨k0, k1, k2, k3, k4, k5, k6, k7⟩ := y
  exact ⟨(mset_n (by omega)).trans k0, (mset_n (by omega)).trans k1, (mset_n (by omega)).trans k2, (mset_n (by omega)).trans k3, (mset_n (by omega)).trans k4, (mset_n (by omega)).trans k5, (mset_n (by omega)).trans k6, mset_s _ _ _⟩
/-! a buffer of letters -/
theorem tl_all {n : Nat} {d : Nat → Nat} (h : ∀ j, j < n → 97 ≤ d j ∧ d j ≤ 104) : (∀ i, i ≤ n → smN (addN d) i = i) ∧ ∀ i, i ≤ n → ∀ j, j < i → tlN d i j = d j - 96 := by
  have hl : ∀ j, j < n → lett (d j) = true := fun j hj => decide_eq_true (h j hj)
  have ha : ∀ j, j < n → addN d j = 1 := fun j hj => by rw [addN, if_pos (hl j hj)]
  have hs : ∀ i, i ≤ n → smN (addN d) i = i := fun i hi => by
    rw [sm_const (g := 1) (fun j hj => ha j (by omega)), Nat.one_mul]
  refine ⟨hs, fun i => ?_⟩
  induction i with
  | zero => exact fun _ j hj => absurd hj (Nat.not_lt_zero j)
  | succ i ih =>
    intro hi j hj
    show (if j < smN (addN d) i then tlN d i j else sgnL d (i + 1)) = _
    rw [hs i (by omega)]
    by_cases e : j < i
    · rw [if_pos e]; exact ih (by omega) j e
    · rw [if_neg e, show j = i by omega, sgnL, if_pos (hl i (by omega))]
theorem wh_all {n : Nat} {d : Nat → Nat} (h : ∀ j, j < n → 97 ≤ d j ∧ d j ≤ 104) (h0 : 0 < n) (h40 : n ≤ 40) : whol d n = true := by
  have hs := (tl_all h).1
  refine decide_eq_true ⟨h0, ?_⟩
  refine upTo_all (fun i hi => decide_eq_true ⟨?_, ?_⟩)
  · rw [addN, if_pos (show lett (d i) = true from decide_eq_true (h i hi))]
    decide
  · rw [hs _ (by omega)]; omega
