theorem cn_keep {X : mX} {M : mMD} {ms : Nat} {as : List Value} {h : mH} {Q : mO → mH → Prop} (hm : Cn X M none none 0 ms as h Q) : ∀ f : Option Nat, Cn X M f f 0 ms as h Q
  | none => hm
  | some n => by
    intro p e ha hcc hk s m args below hf happ hP hK
    obtain ⟨hP1, hP2, hP3⟩ := hP
    obtain ⟨k, o, h1, h2, h3, h4⟩ := hm p e ha hcc hk s m args below hf happ ⟨hP1, hP2.no, hP3⟩ hK
    refine ⟨k, o, h1, h2, h3, ?_⟩
    rcases h4 with ⟨⟨v, h5, e1, e2, e3, e4⟩, L, hfe, hfree⟩ | hx
    · obtain ⟨-, -, -, z1, z2, -⟩ := id hfe
      obtain ⟨k1, k2, k3⟩ := hP2.2.2 n rfl
      have hz : (stepsAlone p.tables e k s).heap.size = xlo X + n := by
        have z1' : s.heap.size ≤ (stepsAlone p.tables e k s).heap.size := z1
        have z2' : (stepsAlone p.tables e k s).heap.size ≤ s.heap.size + 0 := z2
        omega
      refine Or.inl ⟨⟨v, h5, e1, e2, ⟨e3.1, e3.2.1, fun n' hn => ?_⟩, e4⟩, L, hfe, hfree⟩
      cases hn
      refine ⟨hz, k2, fun a ha => ?_⟩
      cases hc : h5 a with
      | none => rfl
      | some ee =>
        have := (e3.1 a ee hc).2.lt
        omega
    · exact Or.inr hx
theorem cn_mono {X : mX} {M : mMD} {ws : List Cond} {f f' : Option Nat} {mc ms : Nat} {as : List Value} {h : mH} {Q Q' : mO → mH → Prop} (hc : CnW X M ws f f' mc ms as h Q) (hq : ∀ o h1, Q o h1 → Q' o h1) : CnW X M ws f f' mc ms as h Q' := by
  intro p e ha hcc hk s m args below hf happ hP hK
  obtain ⟨n, o, h1, h2, h3, h4⟩ := hc p e ha hcc hk s m args below hf happ hP hK
  refine ⟨n, o, h1, h2, h3, ?_⟩
  rcases h4 with ⟨⟨v, h5, e1, e2, e3, e4⟩, h6⟩ | ⟨q, e1, E, ce, L, ⟨k, h5, g1, g2, g3, g4, g5⟩, h7⟩
  · exact Or.inl ⟨⟨v, h5, e1, hq _ _ e2, e3, e4⟩, h6⟩
  · exact Or.inr ⟨q, e1, E, ce, L, ⟨k, h5, g1, g2, hq _ _ g3, g4, g5⟩, h7⟩
theorem ev_cVP0 {X : mX} {M M' : mMD} {f f' : Option Nat} {ce sl mc ms pc : Nat} {L st : List Value} {h : mH} {Q : mO → mH → Prop} {idx : Nat} {b : Nat} {fs : List Value} {v : Option Value} (hd : decode (mBy M) pc = .ok (.invokevirtual idx, 3)) (hcal : CalI M' 0) (hl : Cond.methodLink (RN (mOwn M)) idx (mNm M') ∈ WL) (hfit : Fits M M') (hh : mHH M = []) (hb : h b = some (aO (mOwn M') fs)) (hst : (st.map fun v => v.category).sum ≤ 8) (hce : ce ≤ mc) (hsl : sl ≤ ms) (hm : CnP X M' (.ref b :: []) h v) (kk : Ev X M (f, f', ce, sl, mc, ms) (pc + 3) L (v.toList ++ st) h Q) : Ev X M (f, f', ce, sl, mc, ms) pc L (.ref b :: st) h Q :=
  ev_callV (as := []) hd hcal hl hfit hh hb rfl hst (cn_keep hm f) hce hsl (fun v1 h1 q => by obtain ⟨q1, q2⟩ := q; cases q1; subst q2; exact kk) (fun k h1 q => by cases q.1)
theorem ev_cVU0 {X : mX} {M M' : mMD} {f f' : Option Nat} {ce sl mc ms pc : Nat} {L st : List Value} {h : mH} {Q : mO → mH → Prop} {idx : Nat} {b : Nat} {fs : List Value} {P : Option Value → mH → Prop} (hd : decode (mBy M) pc = .ok (.invokevirtual idx, 3)) (hcal : CalI M' 0) (hl : Cond.methodLink (RN (mOwn M)) idx (mNm M') ∈ WL) (hfit : Fits M M') (hh : mHH M = []) (hb : h b = some (aO (mOwn M') fs)) (hst : (st.map fun v => v.category).sum ≤ 8) (hce : ce ≤ mc) (hsl : sl ≤ ms) (hm : CnU X M' (.ref b :: []) h P) (kk : ∀ (v : Option Value) (h1 : mH), P v h1 → Ev X M (f, f', ce, sl, mc, ms) (pc + 3) L (v.toList ++ st) h1 Q) : Ev X M (f, f', ce, sl, mc, ms) pc L (.ref b :: st) h Q :=
  ev_callV (as := []) hd hcal hl hfit hh hb rfl hst (cn_keep hm f) hce hsl (fun v1 h1 q => by obtain ⟨v, q1, q2⟩ := q; cases q1; exact kk _ _ q2) (fun k h1 q => by obtain ⟨v, q1, q2⟩ := q; cases q1)
theorem ev_cVP1 {X : mX} {M M' : mMD} {f f' : Option Nat} {ce sl mc ms pc : Nat} {L st : List Value} {h : mH} {Q : mO → mH → Prop} {idx : Nat} {b : Nat} {fs : List Value} {a1 : Value} {v : Option Value} (hd : decode (mBy M) pc = .ok (.invokevirtual idx, 3)) (hcal : CalI M' 1) (hl : Cond.methodLink (RN (mOwn M)) idx (mNm M') ∈ WL) (hfit : Fits M M') (hh : mHH M = []) (hb : h b = some (aO (mOwn M') fs)) (hst : (st.map fun v => v.category).sum ≤ 8) (hce : ce ≤ mc) (hsl : sl ≤ ms) (hm : CnP X M' (.ref b :: [a1]) h v) (kk : Ev X M (f, f', ce, sl, mc, ms) (pc + 3) L (v.toList ++ st) h Q) : Ev X M (f, f', ce, sl, mc, ms) pc L (a1 :: .ref b :: st) h Q :=
  ev_callV (as := [a1]) hd hcal hl hfit hh hb rfl hst (cn_keep hm f) hce hsl (fun v1 h1 q => by obtain ⟨q1, q2⟩ := q; cases q1; subst q2; exact kk) (fun k h1 q => by cases q.1)
theorem ev_cVU1 {X : mX} {M M' : mMD} {f f' : Option Nat} {ce sl mc ms pc : Nat} {L st : List Value} {h : mH} {Q : mO → mH → Prop} {idx : Nat} {b : Nat} {fs : List Value} {a1 : Value} {P : Option Value → mH → Prop} (hd : decode (mBy M) pc = .ok (.invokevirtual idx, 3)) (hcal : CalI M' 1) (hl : Cond.methodLink (RN (mOwn M)) idx (mNm M') ∈ WL) (hfit : Fits M M') (hh : mHH M = []) (hb : h b = some (aO (mOwn M') fs)) (hst : (st.map fun v => v.category).sum ≤ 8) (hce : ce ≤ mc) (hsl : sl ≤ ms) (hm : CnU X M' (.ref b :: [a1]) h P) (kk : ∀ (v : Option Value) (h1 : mH), P v h1 → Ev X M (f, f', ce, sl, mc, ms) (pc + 3) L (v.toList ++ st) h1 Q) : Ev X M (f, f', ce, sl, mc, ms) pc L (a1 :: .ref b :: st) h Q :=
  ev_callV (as := [a1]) hd hcal hl hfit hh hb rfl hst (cn_keep hm f) hce hsl (fun v1 h1 q => by obtain ⟨v, q1, q2⟩ := q; cases q1; exact kk _ _ q2) (fun k h1 q => by obtain ⟨v, q1, q2⟩ := q; cases q1)
theorem ev_cVP2 {X : mX} {M M' : mMD} {f f' : Option Nat} {ce sl mc ms pc : Nat} {L st : List Value} {h : mH} {Q : mO → mH → Prop} {idx : Nat} {b : Nat} {fs : List Value} {a1 a2 : Value} {v : Option Value} (hd : decode (mBy M) pc = .ok (.invokevirtual idx, 3)) (hcal : CalI M' 2) (hl : Cond.methodLink (RN (mOwn M)) idx (mNm M') ∈ WL) (hfit : Fits M M') (hh : mHH M = []) (hb : h b = some (aO (mOwn M') fs)) (hst : (st.map fun v => v.category).sum ≤ 8) (hce : ce ≤ mc) (hsl : sl ≤ ms) (hm : CnP X M' (.ref b :: [a1, a2]) h v) (kk : Ev X M (f, f', ce, sl, mc, ms) (pc + 3) L (v.toList ++ st) h Q) : Ev X M (f, f', ce, sl, mc, ms) pc L (a2 :: a1 :: .ref b :: st) h Q :=
  ev_callV (as := [a1, a2]) hd hcal hl hfit hh hb rfl hst (cn_keep hm f) hce hsl (fun v1 h1 q => by obtain ⟨q1, q2⟩ := q; cases q1; subst q2; exact kk) (fun k h1 q => by cases q.1)
theorem ev_cVU2 {X : mX} {M M' : mMD} {f f' : Option Nat} {ce sl mc ms pc : Nat} {L st : List Value} {h : mH} {Q : mO → mH → Prop} {idx : Nat} {b : Nat} {fs : List Value} {a1 a2 : Value} {P : Option Value → mH → Prop} (hd : decode (mBy M) pc = .ok (.invokevirtual idx, 3)) (hcal : CalI M' 2) (hl : Cond.methodLink (RN (mOwn M)) idx (mNm M') ∈ WL) (hfit : Fits M M') (hh : mHH M = []) (hb : h b = some (aO (mOwn M') fs)) (hst : (st.map fun v => v.category).sum ≤ 8) (hce : ce ≤ mc) (hsl : sl ≤ ms) (hm : CnU X M' (.ref b :: [a1, a2]) h P) (kk : ∀ (v : Option Value) (h1 : mH), P v h1 → Ev X M (f, f', ce, sl, mc, ms) (pc + 3) L (v.toList ++ st) h1 Q) : Ev X M (f, f', ce, sl, mc, ms) pc L (a2 :: a1 :: .ref b :: st) h Q :=
  ev_callV (as := [a1, a2]) hd hcal hl hfit hh hb rfl hst (cn_keep hm f) hce hsl (fun v1 h1 q => by obtain ⟨v, q1, q2⟩ := q; cases q1; exact kk _ _ q2) (fun k h1 q => by obtain ⟨v, q1, q2⟩ := q; cases q1)
theorem ev_cVP3 {X : mX} {M M' : mMD} {f f' : Option Nat} {ce sl mc ms pc : Nat} {L st : List Value} {h : mH} {Q : mO → mH → Prop} {idx : Nat} {b : Nat} {fs : List Value} {a1 a2 a3 : Value} {v : Option Value} (hd : decode (mBy M) pc = .ok (.invokevirtual idx, 3)) (hcal : CalI M' 3) (hl : Cond.methodLink (RN (mOwn M)) idx (mNm M') ∈ WL) (hfit : Fits M M') (hh : mHH M = []) (hb : h b = some (aO (mOwn M') fs)) (hst : (st.map fun v => v.category).sum ≤ 8) (hce : ce ≤ mc) (hsl : sl ≤ ms) (hm : CnP X M' (.ref b :: [a1, a2, a3]) h v) (kk : Ev X M (f, f', ce, sl, mc, ms) (pc + 3) L (v.toList ++ st) h Q) : Ev X M (f, f', ce, sl, mc, ms) pc L (a3 :: a2 :: a1 :: .ref b :: st) h Q :=
  ev_callV (as := [a1, a2, a3]) hd hcal hl hfit hh hb rfl hst (cn_keep hm f) hce hsl (fun v1 h1 q => by obtain ⟨q1, q2⟩ := q; cases q1; subst q2; exact kk) (fun k h1 q => by cases q.1)
theorem ev_cVU3 {X : mX} {M M' : mMD} {f f' : Option Nat} {ce sl mc ms pc : Nat} {L st : List Value} {h : mH} {Q : mO → mH → Prop} {idx : Nat} {b : Nat} {fs : List Value} {a1 a2 a3 : Value} {P : Option Value → mH → Prop} (hd : decode (mBy M) pc = .ok (.invokevirtual idx, 3)) (hcal : CalI M' 3) (hl : Cond.methodLink (RN (mOwn M)) idx (mNm M') ∈ WL) (hfit : Fits M M') (hh : mHH M = []) (hb : h b = some (aO (mOwn M') fs)) (hst : (st.map fun v => v.category).sum ≤ 8) (hce : ce ≤ mc) (hsl : sl ≤ ms) (hm : CnU X M' (.ref b :: [a1, a2, a3]) h P) (kk : ∀ (v : Option Value) (h1 : mH), P v h1 → Ev X M (f, f', ce, sl, mc, ms) (pc + 3) L (v.toList ++ st) h1 Q) : Ev X M (f, f', ce, sl, mc, ms) pc L (a3 :: a2 :: a1 :: .ref b :: st) h Q :=
  ev_callV (as := [a1, a2, a3]) hd hcal hl hfit hh hb rfl hst (cn_keep hm f) hce hsl (fun v1 h1 q => by obtain ⟨v, q1, q2⟩ := q; cases q1; exact kk _ _ q2) (fun k h1 q => by obtain ⟨v, q1, q2⟩ := q; cases q1)
theorem ev_cSP2 {X : mX} {M M' : mMD} {f f' : Option Nat} {ce sl mc ms pc : Nat} {L st : List Value} {h : mH} {Q : mO → mH → Prop} {idx : Nat} {a1 a2 : Value} {v : Option Value} (hd : decode (mBy M) pc = .ok (.invokestatic idx, 3)) (hcal : CalS M' 2) (hl : Cond.methodLink (RN (mOwn M)) idx (mNm M') ∈ WL) (hfit : Fits M M') (hh : mHH M = []) (hst : (st.map fun v => v.category).sum ≤ 8) (hce : ce ≤ mc) (hsl : sl ≤ ms) (hm : CnP X M' [a1, a2] h v) (kk : Ev X M (f, f', ce, sl, mc, ms) (pc + 3) L (v.toList ++ st) h Q) : Ev X M (f, f', ce, sl, mc, ms) pc L (a2 :: a1 :: st) h Q :=
  ev_callS (as := [a1, a2]) hd hcal hl hfit hh rfl hst (cn_keep hm f) hce hsl (fun v1 h1 q => by obtain ⟨q1, q2⟩ := q; cases q1; subst q2; exact kk) (fun k h1 q => by cases q.1)
theorem ev_cSP4 {X : mX} {M M' : mMD} {f f' : Option Nat} {ce sl mc ms pc : Nat} {L st : List Value} {h : mH} {Q : mO → mH → Prop} {idx : Nat} {a1 a2 a3 a4 : Value} {v : Option Value} (hd : decode (mBy M) pc = .ok (.invokestatic idx, 3)) (hcal : CalS M' 4) (hl : Cond.methodLink (RN (mOwn M)) idx (mNm M') ∈ WL) (hfit : Fits M M') (hh : mHH M = []) (hst : (st.map fun v => v.category).sum ≤ 8) (hce : ce ≤ mc) (hsl : sl ≤ ms) (hm : CnP X M' [a1, a2, a3, a4] h v) (kk : Ev X M (f, f', ce, sl, mc, ms) (pc + 3) L (v.toList ++ st) h Q) : Ev X M (f, f', ce, sl, mc, ms) pc L (a4 :: a3 :: a2 :: a1 :: st) h Q :=
  ev_callS (as := [a1, a2, a3, a4]) hd hcal hl hfit hh rfl hst (cn_keep hm f) hce hsl (fun v1 h1 q => by obtain ⟨q1, q2⟩ := q; cases q1; subst q2; exact kk) (fun k h1 q => by cases q.1)
theorem ev_cSP5 {X : mX} {M M' : mMD} {f f' : Option Nat} {ce sl mc ms pc : Nat} {L st : List Value} {h : mH} {Q : mO → mH → Prop} {idx : Nat} {a1 a2 a3 a4 a5 : Value} {v : Option Value} (hd : decode (mBy M) pc = .ok (.invokestatic idx, 3)) (hcal : CalS M' 5) (hl : Cond.methodLink (RN (mOwn M)) idx (mNm M') ∈ WL) (hfit : Fits M M') (hh : mHH M = []) (hst : (st.map fun v => v.category).sum ≤ 8) (hce : ce ≤ mc) (hsl : sl ≤ ms) (hm : CnP X M' [a1, a2, a3, a4, a5] h v) (kk : Ev X M (f, f', ce, sl, mc, ms) (pc + 3) L (v.toList ++ st) h Q) : Ev X M (f, f', ce, sl, mc, ms) pc L (a5 :: a4 :: a3 :: a2 :: a1 :: st) h Q :=
  ev_callS (as := [a1, a2, a3, a4, a5]) hd hcal hl hfit hh rfl hst (cn_keep hm f) hce hsl (fun v1 h1 q => by obtain ⟨q1, q2⟩ := q; cases q1; subst q2; exact kk) (fun k h1 q => by cases q.1)
theorem ev_cSP7 {X : mX} {M M' : mMD} {f f' : Option Nat} {ce sl mc ms pc : Nat} {L st : List Value} {h : mH} {Q : mO → mH → Prop} {idx : Nat} {a1 a2 a3 a4 a5 a6 a7 : Value} {v : Option Value} (hd : decode (mBy M) pc = .ok (.invokestatic idx, 3)) (hcal : CalS M' 7) (hl : Cond.methodLink (RN (mOwn M)) idx (mNm M') ∈ WL) (hfit : Fits M M') (hh : mHH M = []) (hst : (st.map fun v => v.category).sum ≤ 8) (hce : ce ≤ mc) (hsl : sl ≤ ms) (hm : CnP X M' [a1, a2, a3, a4, a5, a6, a7] h v) (kk : Ev X M (f, f', ce, sl, mc, ms) (pc + 3) L (v.toList ++ st) h Q) : Ev X M (f, f', ce, sl, mc, ms) pc L (a7 :: a6 :: a5 :: a4 :: a3 :: a2 :: a1 :: st) h Q :=
  ev_callS (as := [a1, a2, a3, a4, a5, a6, a7]) hd hcal hl hfit hh rfl hst (cn_keep hm f) hce hsl (fun v1 h1 q => by obtain ⟨q1, q2⟩ := q; cases q1; subst q2; exact kk) (fun k h1 q => by cases q.1)
theorem ev_newIN {X : mX} {M : mMD} {f' : Option Nat} {n ce sl mc ms pc : Nat} {L st : List Value} {h : mH} {Q : mO → mH → Prop} {z : Int32} (k : Nat) (hd : decode (mBy M) pc = .ok (.newarray .int, 2)) (hz0 : ¬ z < 0) (hzk : z.toNatClampNeg = k) (hk9 : k ≤ 60000) (hn : n + 1 < 1000000) (hcells : ce + 1 ≤ mc) (hslots : sl + k ≤ ms) (kk : Ev X M (some (n + 1), f', ce + 1, sl + k, mc, ms) (pc + 2) L (.ref n :: st) (mset h n (aI k (nf (fun _ => 0)))) Q) : Ev X M (some n, f', ce, sl, mc, ms) pc L (.int z :: st) h Q :=
  ev_newI k hd w_arrI hz0 hzk hk9 hn hcells hslots kk
/-- an int without its last bit, halved, as it has no sign -/
def hlf (x : Int32) : Nat := x.toUInt32.toNat / 2
theorem hlf_lt (x : Int32) : hlf x < 2 ^ 31 := by
  have := x.toUInt32.toNat_lt
  unfold hlf
  omega
theorem hlf_is (x : Int32) : (x.toUInt32 >>> ((nI 1).toUInt32 &&& Int32.toUInt32 31)).toInt32 = nI (hlf x) := by
  have e : (nI 1).toUInt32 &&& Int32.toUInt32 31 = 1 := by decide
  rw [e]
  have h1 : (x.toUInt32 >>> (1 : UInt32)) = UInt32.ofNat (hlf x) := by
    apply UInt32.toNat_inj.mp
    have h3 := hlf_lt x
    rw [UInt32.toNat_shiftRight, show ((1 : UInt32).toNat % 32) = 1 from rfl, Nat.shiftRight_eq_div_pow]
    show x.toUInt32.toNat / 2 ^ 1 = (UInt32.ofNat (hlf x)).toNat
    have h4 : (UInt32.ofNat (hlf x)).toNat = hlf x := Nat.mod_eq_of_lt (by omega)
    rw [h4]
    rfl
  rw [h1]
  rfl
def atN (x : Int32) (n : Nat) : Nat := hlf x % n
theorem atN_lt (x : Int32) {n : Nat} (h : 0 < n) : atN x n < n := Nat.mod_lt _ h
/-! codes of signs in base nine -/
def c9N (s : Nat → Nat) (a : Nat) : Nat → Nat
  | 0 => 0
  | m + 1 => c9N s a m * 9 + s (a + m)
def c9 (s : Nat → Nat) (a : Nat) : Nat → Int64
  | 0 => 0
  | m + 1 => c9 s a m * 9 + lN (s (a + m))
theorem c9N_b {s : Nat → Nat} {a : Nat} : ∀ m, Sg s a m → c9N s a m < 9 ^ m
  | 0, _ => by show 0 < 1; omega
  | m + 1, h => by
    have h1 := c9N_b m h.dn
    have h2 := h m (by omega)
    rw [c9N, Nat.pow_succ]
    omega
theorem p9_16 : (9 : Nat) ^ 16 = 1853020188851841 := by decide
theorem p9 {m k : Nat} (h : m ≤ k) : 9 ^ m ≤ 9 ^ k := Nat.pow_le_pow_right (by decide) h
theorem c9N_lt {s : Nat → Nat} {a m : Nat} (hm : m ≤ 16) (h : Sg s a m) : c9N s a m < 2 ^ 63 := by
  have h1 := c9N_b m h
  have h3 := p9 hm
  rw [p9_16] at h3
  omega
theorem c9_N {s : Nat → Nat} {a : Nat} : ∀ m, c9 s a m = lN (c9N s a m)
  | 0 => rfl
  | m + 1 => by
    rw [c9, c9_N m, c9N]
    show lN (c9N s a m) * lN 9 + lN (s (a + m)) = Int64.ofNat (c9N s a m * 9 + s (a + m))
    rw [Int64.ofNat_add, Int64.ofNat_mul]
    rfl
theorem c9N_inj {s t : Nat → Nat} {a b : Nat} : ∀ m, Sg s a m → Sg t b m → c9N s a m = c9N t b m → ∀ i, i < m → s (a + i) = t (b + i)
  | 0, _, _, _, i, hi => absurd hi (Nat.not_lt_zero i)
  | m + 1, h, g, e, i, hi => by
    have h2 := h m (by omega)
    have g2 := g m (by omega)
    rw [c9N, c9N] at e
    by_cases k : i = m
    · subst k; omega
    · exact c9N_inj m h.dn g.dn (by omega) i (by omega)
theorem c9N_congr {s t : Nat → Nat} {a b : Nat} : ∀ m, (∀ i, i < m → s (a + i) = t (b + i)) → c9N s a m = c9N t b m
  | 0, _ => rfl
  | m + 1, h => by rw [c9N, c9N, c9N_congr m (fun i hi => h i (by omega)), h m (by omega)]
/-- a row against its code in base nine and its length -/
def Ce (w c : Int64) (n : Nat) : Prop := ∃ s : Nat → Nat, 1 ≤ n ∧ n ≤ 16 ∧ Sg s 0 n ∧ w = lN (rowN s 0 n) ∧ c = lN (c9N s 0 n)
theorem Ce.of {s : Nat → Nat} {a m : Nat} (h1 : 1 ≤ m) (h2 : m ≤ 16) (h : Sg s a m) : Ce (rowC s a m) (c9 s a m) m := by
  refine ⟨fun i => s (a + i), h1, h2, fun i hi => by rw [Nat.zero_add]; exact h i hi, ?_, ?_⟩
  · rw [rowC_N m (by omega) h, rowN_congr m (fun i _ => by rw [Nat.zero_add])]
  · rw [c9_N m, c9N_congr m (fun i _ => by rw [Nat.zero_add])]
theorem Ce.rl {w c : Int64} {n : Nat} (x : Ce w c n) : rl w = n := by
  obtain ⟨s, h1, h2, h3, rfl, rfl⟩ := x
  exact rl_row (by omega) h3
theorem Ce.n0 {w c : Int64} {n : Nat} (x : Ce w c n) : w ≠ 0 := by
  obtain ⟨s, h1, h2, h3, rfl, rfl⟩ := x
  exact row_n0 (by omega) h3
theorem Ce.le {w c : Int64} {n : Nat} (x : Ce w c n) : 1 ≤ n ∧ n ≤ 16 := by
  obtain ⟨s, h1, h2, h3, rfl, rfl⟩ := x
  exact ⟨h1, h2⟩
theorem Ce.iff {w c w1 c1 : Int64} {n n1 : Nat} (x : Ce w c n) (y : Ce w1 c1 n1) : w = w1 ↔ n = n1 ∧ c = c1 := by
  have hx := x.rl
  have hy := y.rl
  obtain ⟨s, h1, h2, h3, rfl, rfl⟩ := x
  obtain ⟨t, g1, g2, g3, rfl, rfl⟩ := y
  constructor
  · intro e
    have en : n = n1 := by rw [← hx, ← hy, e]
    subst en
    refine ⟨rfl, ?_⟩
    have e2 := (pk_lEQ (rowN_lt (by omega) h3) (rowN_lt (by omega) g3)).mp e
    rw [c9N_congr n (rowN_inj n h3 g3 e2)]
  · rintro ⟨rfl, e⟩
    have e2 := (pk_lEQ (c9N_lt h2 h3) (c9N_lt g2 g3)).mp e
    rw [rowN_congr n (c9N_inj n h3 g3 e2)]
