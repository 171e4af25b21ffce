/-! sums, counts, whether there is one: over the numbers below n -/
def smN (f : Nat → Nat) : Nat → Nat
  | 0 => 0
  | n + 1 => smN f n + f n
def ctN (p : Nat → Bool) : Nat → Nat
  | 0 => 0
  | n + 1 => ctN p n + (if p n then 1 else 0)
def exN (p : Nat → Bool) : Nat → Bool
  | 0 => false
  | n + 1 => exN p n || p n
def mxN (f : Nat → Nat) : Nat → Nat
  | 0 => 0
  | n + 1 => max (mxN f n) (f n)
theorem exN_iff {p : Nat → Bool} : ∀ {n : Nat}, exN p n = true ↔ ∃ k, k < n ∧ p k = true
  | 0 => by simp [exN]
  | n + 1 => by
    rw [exN, Bool.or_eq_true, exN_iff]
    constructor
    · rintro (⟨k, h1, h2⟩ | h)
      · exact ⟨k, by omega, h2⟩
      · exact ⟨n, by omega, h⟩
    · rintro ⟨k, h1, h2⟩
      by_cases hk : k = n
      · subst hk; exact Or.inr h2
      · exact Or.inl ⟨k, by omega, h2⟩
theorem exN_no {p : Nat → Bool} {n : Nat} (h : ∀ k, k < n → p k = false) : exN p n = false := by
  cases e : exN p n with
  | false => rfl
  | true =>
    obtain ⟨k, h1, h2⟩ := exN_iff.mp e
    rw [h k h1] at h2
    cases h2
theorem exN_yes {p : Nat → Bool} {n k : Nat} (hk : k < n) (h : p k = true) : exN p n = true := exN_iff.mpr ⟨k, hk, h⟩
theorem exN_congr {p q : Nat → Bool} {n : Nat} (h : ∀ k, k < n → p k = q k) : exN p n = exN q n := by
  induction n with
  | zero => rfl
  | succ n ih => rw [exN, exN, ih (fun k hk => h k (by omega)), h n (by omega)]
theorem smN_congr {f g : Nat → Nat} {n : Nat} (h : ∀ k, k < n → f k = g k) : smN f n = smN g n := by
  induction n with
  | zero => rfl
  | succ n ih => rw [smN, smN, ih (fun k hk => h k (by omega)), h n (by omega)]
theorem ctN_congr {p q : Nat → Bool} {n : Nat} (h : ∀ k, k < n → p k = q k) : ctN p n = ctN q n := by
  induction n with
  | zero => rfl
  | succ n ih => rw [ctN, ctN, ih (fun k hk => h k (by omega)), h n (by omega)]
theorem mxN_congr {f g : Nat → Nat} {n : Nat} (h : ∀ k, k < n → f k = g k) : mxN f n = mxN g n := by
  induction n with
  | zero => rfl
  | succ n ih => rw [mxN, mxN, ih (fun k hk => h k (by omega)), h n (by omega)]
theorem ctN_le (p : Nat → Bool) : ∀ n, ctN p n ≤ n
  | 0 => Nat.le_refl _
  | n + 1 => by
    have := ctN_le p n
    rw [ctN]
    split <;> omega
theorem smN_le {f : Nat → Nat} {c : Nat} {n : Nat} (h : ∀ k, k < n → f k ≤ c) : smN f n ≤ n * c := by
  induction n with
  | zero => simp [smN]
  | succ n ih =>
    rw [smN, Nat.succ_mul]
    have := ih (fun k hk => h k (by omega))
    have := h n (by omega)
    omega
theorem mxN_le {f : Nat → Nat} {c : Nat} {n : Nat} (h : ∀ k, k < n → f k ≤ c) : mxN f n ≤ c := by
  induction n with
  | zero => simp [mxN]
  | succ n ih => rw [mxN]; exact Nat.max_le.mpr ⟨ih (fun k hk => h k (by omega)), h n (by omega)⟩
theorem smN_mono (f : Nat → Nat) {a b : Nat} (h : a ≤ b) : smN f a ≤ smN f b := by
  induction b with
  | zero => rw [Nat.le_zero.mp h]; exact Nat.le_refl _
  | succ b ih =>
    by_cases hab : a = b + 1
    · rw [hab]; exact Nat.le_refl _
    · rw [smN]; have := ih (by omega); omega
theorem upd_s (f : Nat → Int32) (k : Nat) (x : Int32) : upd f k x k = x := pk_us
theorem upd_n (f : Nat → Int32) {k j : Nat} (x : Int32) (h : j ≠ k) : upd f k x j = f j := pk_un h
theorem bI_fit (b : Bool) : fits .boolean (.int (bI b)) = true := by cases b <;> rfl
/-! arrays of ints that are numbers -/
abbrev nf (f : Nat → Nat) : Nat → Int32 := fun j => nI (f j)
def upN (f : Nat → Nat) (k x : Nat) : Nat → Nat := fun j => if j = k then x else f j
theorem upN_s (f : Nat → Nat) (k x : Nat) : upN f k x k = x := by simp [upN]
theorem upN_n {f : Nat → Nat} {k x j : Nat} (h : j ≠ k) : upN f k x j = f j := by simp [upN, h]
theorem upd_nf (f : Nat → Nat) (k x : Nat) : upd (nf f) k (nI x) = nf (upN f k x) := by
  funext j
  by_cases h : j = k
  · subst h; rw [upd_s]; show _ = nI (upN f j x j); rw [upN_s]
  · rw [upd_n _ _ h]; show _ = nI (upN f k x j); rw [upN_n h]
theorem aI_up {n : Nat} {f : Nat → Nat} {k x : Nat} : aI n (upd (nf f) k (nI x)) = aI n (nf (upN f k x)) := by rw [upd_nf]
def upB (f : Nat → Bool) (k : Nat) (x : Bool) : Nat → Bool := fun j => if j = k then x else f j
theorem upB_s (f : Nat → Bool) (k : Nat) (x : Bool) : upB f k x k = x := by simp [upB]
theorem upB_n {f : Nat → Bool} {k j : Nat} {x : Bool} (h : j ≠ k) : upB f k x j = f j := by simp [upB, h]
theorem upL_s (f : Nat → Int64) (k : Nat) (x : Int64) : vp_updL f k x k = x := pk_uLs
theorem upL_n {f : Nat → Int64} {k j : Nat} {x : Int64} (h : j ≠ k) : vp_updL f k x j = f j := pk_uLn h
theorem nf_0 : (fun _ => 0 : Nat → Int32) = nf (fun _ => 0) := rfl
def cpN (f g : Nat → Nat) (sp dp n : Nat) : Nat → Nat := va_cpy f g sp dp n
theorem cpy_nf (f g : Nat → Nat) (sp dp n : Nat) : va_cpy (nf f) (nf g) sp dp n = nf (cpN f g sp dp n) := by
  funext j
  show _ = nI (va_cpy f g sp dp n j)
  unfold va_cpy
  split <;> rfl
theorem cpN_0 {f g : Nat → Nat} {n j : Nat} (h : j < n) : cpN f g 0 0 n j = f j := by
  unfold cpN
  rw [pk_cpy_in (by omega) (by omega)]
  simp
theorem cpL_0 {f g : Nat → Int64} {n j : Nat} (h : j < n) : va_cpy f g 0 0 n j = f j := by
  rw [pk_cpy_in (by omega) (by omega)]
  simp
def b2n (b : Bool) : Nat := if b then 1 else 0
theorem b2n_le (b : Bool) : b2n b ≤ 1 := by cases b <;> decide
theorem bI_n (b : Bool) : bI b = nI (b2n b) := by cases b <;> rfl
/-! a cut: its length, its signs, its pieces: how many, their starts, lengths, whether forced, their rows -/
def IsCut (h : mH) (c : Nat) (len : Nat) (sg st le fo : Nat → Nat) (rw : Nat → Int64) (np : Nat) : Prop :=
  h c = some (aO 1 [.ref (c + 1), .int (nI len), .ref (c + 2), .ref (c + 3), .ref (c + 4), .ref (c + 5), .int (nI np)]) ∧ h (c + 1) = some (aI 40 (nf sg)) ∧ h (c + 2) = some (aI 40 (nf st)) ∧ h (c + 3) = some (aI 40 (nf le)) ∧ h (c + 4) = some (aI 40 (nf fo)) ∧ h (c + 5) = some (aL 40 rw)
theorem IsCut.go {h h1 : mH} {c len np a n : Nat} {sg st le fo : Nat → Nat} {rw : Nat → Int64} (x : IsCut h c len sg st le fo rw np) (o : Out h h1 a n) (hd : c + 6 ≤ a ∨ a + n ≤ c) : IsCut h1 c len sg st le fo rw np := by
  obtain ⟨x0, x1, x2, x3, x4, x5⟩ := x
  exact ⟨by rw [o _ (by omega)]; exact x0, by rw [o _ (by omega)]; exact x1, by rw [o _ (by omega)]; exact x2, by rw [o _ (by omega)]; exact x3, by rw [o _ (by omega)]; exact x4, by rw [o _ (by omega)]; exact x5⟩
abbrev mCt : Type := Nat × (Nat → Nat) × Nat × (Nat → Nat) × (Nat → Nat) × (Nat → Bool) × (Nat → Int64)
abbrev kL (K : mCt) : Nat := K.1
abbrev kS (K : mCt) : Nat → Nat := K.2.1
abbrev kN (K : mCt) : Nat := K.2.2.1
abbrev kP (K : mCt) : Nat → Nat := K.2.2.2.1
abbrev kQ (K : mCt) : Nat → Nat := K.2.2.2.2.1
abbrev kF (K : mCt) : Nat → Bool := K.2.2.2.2.2.1
abbrev kR (K : mCt) : Nat → Int64 := K.2.2.2.2.2.2
def CutV (K : mCt) (sg st le fo : Nat → Nat) (rr : Nat → Int64) : Prop := kL K ≤ 40 ∧ kN K ≤ 40 ∧ (∀ j, j < kL K → sg j = kS K j ∧ kS K j ≤ 8) ∧ ∀ p, p < kN K → st p = kP K p ∧ le p = kQ K p ∧ fo p = b2n (kF K p) ∧ rr p = kR K p ∧ kP K p ≤ 40 ∧ kQ K p ≤ 40
/-- the cells at c hold the cut K -/
def CutN (h : mH) (c : Nat) (K : mCt) : Prop := ∃ (sg st le fo : Nat → Nat) (rr : Nat → Int64), IsCut h c (kL K) sg st le fo rr (kN K) ∧ CutV K sg st le fo rr
theorem CutN.go {h h1 : mH} {c a n : Nat} {K : mCt} (x : CutN h c K) (o : Out h h1 a n) (hd : c + 6 ≤ a ∨ a + n ≤ c) : CutN h1 c K := by
  obtain ⟨sg, st, le, fo, rr, x0, x1⟩ := x
  exact ⟨sg, st, le, fo, rr, x0.go o hd, x1⟩
/-! settings -/
def SetN (h : mH) (c : Nat) (v : Nat → Nat) : Prop := (h c = some (aO 3 [.ref (c + 1)]) ∧ ∃ w : Nat → Nat, h (c + 1) = some (aI 5 (nf w)) ∧ ∀ k, k < 5 → w k = v k) ∧ (1 ≤ v 0 ∧ v 0 ≤ 6) ∧ (1 ≤ v 1 ∧ v 1 ≤ 9) ∧ v 2 ≤ 8 ∧ (1 ≤ v 3 ∧ v 3 ≤ 6) ∧ (6 ≤ v 4 ∧ v 4 ≤ 20)
theorem SetN.go {h h1 : mH} {c a n : Nat} {v : Nat → Nat} (x : SetN h c v) (o : Out h h1 a n) (hd : c + 2 ≤ a ∨ a + n ≤ c) : SetN h1 c v := by
  obtain ⟨⟨x0, w, x1, x2⟩, x3⟩ := x
  exact ⟨⟨by rw [o _ (by omega)]; exact x0, w, by rw [o _ (by omega)]; exact x1, x2⟩, x3⟩
theorem ev_ialoadF {X : mX} {M : mMD} {B : mB} {pc : Nat} {L st : List Value} {h : mH} {Q : mO → mH → Prop} {q n i : Nat} {f : Nat → Nat} (hd : decode (mBy M) pc = .ok (.iaload, 1)) (ha : h q = some (aI n (nf f))) (hi : i < n) (hn : n < 2 ^ 31) (k : Ev X M B (pc + 1) L (.int (nI (f i)) :: st) h Q) : Ev X M B pc L (.int (nI i) :: .ref q :: st) h Q := ev_ialoadN hd ha hi hn k
theorem ev_iastoreF {X : mX} {M : mMD} {B : mB} {pc : Nat} {L st : List Value} {h : mH} {Q : mO → mH → Prop} {q n i x : Nat} {f : Nat → Nat} (hd : decode (mBy M) pc = .ok (.iastore, 1)) (ha : h q = some (aI n (nf f))) (hi : i < n) (hn : n < 2 ^ 31) (k : Ev X M B (pc + 1) L st (mset h q (aI n (nf (upN f i x)))) Q) : Ev X M B pc L (.int (nI x) :: .int (nI i) :: .ref q :: st) h Q := by
  refine ev_iastoreN hd ha hi hn ?_
  rw [upd_nf]
  exact k
