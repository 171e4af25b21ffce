theorem ev_pc {X : mX} {M : mMD} {B : mB} {pc : Nat} {L st : List Value} {h : mH} {Q : mO → mH → Prop} {pc' : Nat} (hp : pc = pc') (k : Ev X M B pc' L st h Q) : Ev X M B pc L st h Q := by
  subst hp
  exact k
theorem ev_L {X : mX} {M : mMD} {B : mB} {pc : Nat} {L st : List Value} {h : mH} {Q : mO → mH → Prop} {L' st' : List Value} (hl : L = L') (hs : st = st') (k : Ev X M B pc L' st' h Q) : Ev X M B pc L st h Q := by
  subst hl
  subst hs
  exact k
theorem ev_post {X : mX} {M : mMD} {B : mB} {pc : Nat} {L st : List Value} {h : mH} {Q Q' : mO → mH → Prop} (k : Ev X M B pc L st h Q) (hq : ∀ o h1, Q o h1 → Q' o h1) : Ev X M B pc L st h Q' := by
  intro p e s m args below meth c H locs ls R C hc hs hW hS hL T hT Y
  obtain ⟨t, a1, oc, b1, b2, b3⟩ := k p e s m args below meth c H locs ls R C hc hs hW hS hL T hT Y
  refine ⟨t, a1, oc, b1, b2, ?_⟩
  rcases b3 with ⟨⟨v, h1, e1, e2, e3⟩, e4⟩ | ⟨q, e1, E, ce, L1, ⟨k1, h1, f1, f2, f3, f4⟩, e3⟩
  · exact Or.inl ⟨⟨v, h1, e1, hq _ _ e2, e3⟩, e4⟩
  · exact Or.inr ⟨q, e1, E, ce, L1, ⟨k1, h1, f1, f2, hq _ _ f3, f4⟩, e3⟩
theorem ev_maxN {X : mX} {M : mMD} {B : mB} {pc : Nat} {L st : List Value} {h : mH} {Q : mO → mH → Prop} {idx a b : Nat} (hd : decode (mBy M) pc = .ok (.invokestatic idx, 3)) (hl : Cond.methodLink (RN (mOwn M)) idx Lib.Math.max.name ∈ WL) (h1 : Cond.static Lib.Math.max.name ∈ WL) (h2 : Cond.initialized "java/lang/Math" ∈ WL) (h3 : Cond.code Lib.Math.max.name Lib.Math.max.code 2 (some .int) ∈ WL) (hfr : 1 ≤ mFr M) (hlo : (st.map fun v => v.category).sum + 13 ≤ mLo M) (hb1 : B.2.2.1 ≤ B.2.2.2.2.1) (hb2 : B.2.2.2.1 ≤ B.2.2.2.2.2) (ha : a < 2 ^ 31) (hb : b < 2 ^ 31) (k : Ev X M B (pc + 3) L (.int (nI (max a b)) :: st) h Q) : Ev X M B pc L (.int (nI b) :: .int (nI a) :: st) h Q := by
  refine ev_max hd hl h1 h2 h3 hfr hlo hb1 hb2 ?_
  rw [show (if nI a < nI b then nI b else nI a) = nI (max a b) from by
    by_cases q : a < b
    · rw [if_pos ((nI_ltI ha hb).mpr q), Nat.max_eq_right (Nat.le_of_lt q)]
    · rw [if_neg (fun z => q ((nI_ltI ha hb).mp z)), Nat.max_eq_left (Nat.not_lt.mp q)]]
  exact k
def Out (h h1 : mH) (a n : Nat) : Prop := ∀ q, (q < a ∨ a + n ≤ q) → h1 q = h q
theorem Out.rf {h : mH} {a n : Nat} : Out h h a n := fun _ _ => rfl
theorem Out.tr {h h1 h2 : mH} {a n : Nat} (x : Out h h1 a n) (y : Out h1 h2 a n) : Out h h2 a n := fun q hq => (y q hq).trans (x q hq)
theorem Out.set {h : mH} {a n b : Nat} {e : mAc} (y1 : a ≤ b) (y2 : b < a + n) : Out h (mset h b e) a n := fun q hq => mset_n (by omega)
theorem Out.up {h h1 : mH} {a n b m : Nat} (x : Out h h1 a n) (y1 : b ≤ a) (y2 : a + n ≤ b + m) : Out h h1 b m := fun q hq => x q (by omega)
