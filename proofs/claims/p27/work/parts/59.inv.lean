/-! the invariant of a state, and that each change keeps it -/
def ctT (T : mSt) (t : Nat) (w : Int64) : Nat := ctN (fun p => kR (tC T t) p == w) (kN (tC T t))
def cT (T : mSt) (w : Int64) : Nat := smN (fun t => ctT T t w) 4
def InvT (T : mSt) : Prop := SetV (tV T) ∧ (∀ t, t < 4 → Tile (tC T t)) ∧ SoD (tS T) ∧ GdR (tS T) ∧ Own (tS T) (cT T) ∧ InS (tS T) (cT T) ∧ szS (tS T) ≤ 150
theorem cT_le {T : mSt} (h : ∀ t, t < 4 → Tile (tC T t)) (w : Int64) : cT T w ≤ 160 := smN_le (c := 40) (n := 4) (fun t ht => Nat.le_trans (ctN_le _ _) (h t ht).n40)
theorem ctT_le (T : mSt) {t : Nat} (ht : t < 4) (w : Int64) : ctT T t w ≤ cT T w := by
  have := smN_at (f := fun t => ctT T t w) ht
  unfold cT
  omega
theorem ctN_pos {p : Nat → Bool} {n k : Nat} (hk : k < n) (h : p k = true) : 0 < ctN p n := by
  have := ctN_mono p (show k + 1 ≤ n from hk)
  rw [ctN_y h] at this
  omega
theorem cT_pos {T : mSt} {t p : Nat} (ht : t < 4) (hp : p < kN (tC T t)) : 0 < ctT T t (kR (tC T t) p) ∧ 0 < cT T (kR (tC T t) p) := by
  have h1 : 0 < ctT T t (kR (tC T t) p) := ctN_pos hp (beq_self_eq_true _)
  have := ctT_le T ht (kR (tC T t) p)
  exact ⟨h1, by omega⟩
theorem InvT.B {T : mSt} (h : InvT T) : SoB (tS T) := fun k hk hz => by
  obtain ⟨h1, h2, h3, h4, h5, h6, h7⟩ := h
  obtain ⟨c, n, x⟩ := h4 k hk hz
  refine ⟨by rw [x.rl]; exact x.le.2, ?_⟩
  rw [h5 k hk hz]
  exact Nat.le_trans (cT_le h2 _) (by decide)
theorem InvT.inS {T : mSt} (h : InvT T) {t p : Nat} (ht : t < 4) (hp : p < kN (tC T t)) : slU (tS T) (kR (tC T t) p) < 60 := h.2.2.2.2.2.1.2 _ (cT_pos ht hp).2
theorem InvT.los {T : mSt} (h : InvT T) {t : Nat} (ht : t < 4) : LosOK T t := by
  refine ⟨h.2.2.1, h.B, fun k hk hz => ?_, fun p hp => ((h.2.1 t ht).cd hp).n0⟩
  rw [h.2.2.2.2.1 k hk hz]
  exact ctT_le T ht _
def c1T (T : mSt) (t : Nat) (x : Int64) : Nat := cT T x - ctT T t x
theorem los_O {T : mSt} (h : InvT T) {t : Nat} : Own (los1 T t) (c1T T t) := fun k hk hz => by
  show sO (tS T) k - ctN (fun p => kR (tC T t) p == sR (tS T) k) (kN (tC T t)) = _
  rw [h.2.2.2.2.1 k hk hz]
  rfl
theorem los_I {T : mSt} (h : InvT T) {t : Nat} : InS (los1 T t) (c1T T t) := by
  refine ⟨?_, fun w hw => ?_⟩
  · have := h.2.2.2.2.2.1.1
    unfold c1T
    omega
  · rw [slU_congr (S := tS T) (S1 := los1 T t) (fun k _ => rfl)]
    refine h.2.2.2.2.2.1.2 w ?_
    unfold c1T at hw
    omega
theorem chgS_all {T : mSt} (h : InvT T) {t : Nat} {K : mCt} : SoD (chgS T t K) ∧ GdR (chgS T t K) ∧ Own (chgS T t K) (c1T T t) ∧ InS (chgS T t K) (c1T T t) ∧ szS (chgS T t K) ≤ 150 ∧ ∀ x, 0 < c1T T t x → slU (chgS T t K) x = slU (tS T) x := by
  have e : ∀ x, slU (los1 T t) x = slU (tS T) x := fun x => slU_congr (fun k _ => rfl)
  have hD : SoD (los1 T t) := h.2.2.1
  have hG : GdR (los1 T t) := h.2.2.2.1
  have hz := chgS_sz (t := t) (K := K) h.2.2.2.2.2.2
  unfold chgS at hz ⊢
  by_cases f : fitS (los1 T t) K = true
  · rw [if_pos f] at hz ⊢
    exact ⟨hD, hG, los_O h, los_I h, hz, fun x _ => e x⟩
  · rw [if_neg f] at hz ⊢
    obtain ⟨a, b⟩ := swN_I (K := K) (w := sW (los1 T t) + ctN (rmS (los1 T t) K) 60) hD (los_O h) (los_I h)
    exact ⟨swN_D hD, swN_G hG, swN_O (los_O h), a, hz, fun x hx => by rw [b x hx, e]⟩
theorem cT_chg {T : mSt} {t : Nat} (ht : t < 4) {T1 : mSt} {K : mCt} (hK : tC T1 t = K) (ho : ∀ u, u ≠ t → tC T1 u = tC T u) (x : Int64) : c1T T t x + ctN (fun p => kR K p == x) (kN K) = cT T1 x := by
  have h1 := smN_upd (f := fun u => ctT T u x) (g := fun u => ctT T1 u x) ht (fun u _ hn => by show ctT T1 u x = ctT T u x; unfold ctT; rw [ho u hn])
  have h2 : ctT T1 t x = ctN (fun p => kR K p == x) (kN K) := by unfold ctT; rw [hK]
  have h3 := ctT_le T ht x
  unfold c1T
  unfold cT at h3 ⊢
  omega
theorem okS_1 {T : mSt} {t : Nat} {K : mCt} (hok : okS T t K = true) : ndS (chgS T t K) K ≤ 60 - pcS (chgS T t K) ∧ ndR (chgS T t K) K ≤ 150 - szS (chgS T t K) := of_decide_eq_true hok
theorem chgT_all {T : mSt} (h : InvT T) {t : Nat} (ht : t < 4) {K : mCt} (hK : Tile K) (hok : okS T t K = true) : InvT (chgT T t K) ∧ (∀ u p, u < 4 → u ≠ t → p < kN (tC T u) → slU (tS (chgT T t K)) (kR (tC T u) p) = slU (tS T) (kR (tC T u) p)) ∧ ∀ p, p < kN K → slU (gtN (chgS T t K) K p) (kR K p) < 60 ∨ slU (gtN (chgS T t K) K p) 0 < 60 := by
  obtain ⟨a1, a2, a3, a4, a5, a6⟩ := chgS_all (t := t) (K := K) h
  obtain ⟨o1, o2⟩ := okS_1 hok
  obtain ⟨b1, b2, b3, b4, b5, b6, b7, b8, b9⟩ := gtN_all hK a1 a3 a4 a2 o1 (kN K) (Nat.le_refl _)
  have ec : (fun x => c1T T t x + ctN (fun p => kR K p == x) (kN K)) = cT (chgT T t K) := funext (cT_chg ht (if_pos rfl) (fun u hu => if_neg hu))
  rw [ec] at b3 b4
  refine ⟨⟨h.1, fun u hu => ?_, b2, b9, b3, b4, ?_⟩, fun u p hu hn hp => ?_, b1⟩
  · show Tile (if u = t then K else tC T u)
    by_cases e : u = t
    · rw [if_pos e]; exact hK
    · rw [if_neg e]; exact h.2.1 u hu
  · show szS (gtN (chgS T t K) K (kN K)) ≤ 150
    rw [b8]
    have : ndR (chgS T t K) K = smN (fun p => if isMiss (chgS T t K) K p = true then kQ K p else 0) (kN K) := rfl
    omega
  · have h0 := ((h.2.1 u hu).cd hp).n0
    have hc : 0 < c1T T t (kR (tC T u) p) := by
      have q1 := (cT_pos hu hp).1
      have q2 : ctT T u (kR (tC T u) p) + ctT T t (kR (tC T u) p) ≤ cT T (kR (tC T u) p) := by
        have z := smN_upd (f := fun v => ctT T v (kR (tC T u) p)) (g := fun v => if v = t then 0 else ctT T v (kR (tC T u) p)) ht (fun v _ hv => if_neg hv)
        have z2 := smN_at (f := fun v => if v = t then 0 else ctT T v (kR (tC T u) p)) hu
        simp only [if_neg hn, if_true] at z z2
        unfold cT
        omega
      unfold c1T
      omega
    show slU (gtN (chgS T t K) K (kN K)) _ = _
    have hs := a6 _ hc
    rw [b5 _ h0 (by rw [hs]; exact h.inS hu hp), hs]
theorem InvT.ch {T : mSt} (h : InvT T) {t : Nat} (ht : t < 4) {K : mCt} (hK : Tile K) : ChOK T t K := ⟨h.los ht, h.2.2.2.2.2.2, fun p hp => ⟨(hK.cd hp).n0, (hK.cd hp).rl.symm⟩, fun hok => (chgT_all h ht hK hok).2.2⟩
theorem raw_tile (s : Nat → Nat) : Tile (rawK 0 s) := ⟨Nat.zero_le _, fun j hj => absurd hj (Nat.not_lt_zero j), fun p hp => absurd hp (Nat.not_lt_zero p), rfl⟩
theorem clrT_all {T : mSt} (h : InvT T) {t : Nat} (ht : t < 4) : InvT (clrT T t) := by
  have ec : c1T T t = cT (clrT T t) := funext (fun x => by
    have := cT_chg (T := T) (T1 := clrT T t) (K := rawK 0 (fun _ => 0)) ht (if_pos rfl) (fun u hu => if_neg hu) x
    rw [← this]
    rfl)
  refine ⟨h.1, fun u hu => ?_, h.2.2.1, h.2.2.2.1, ?_, ?_, h.2.2.2.2.2.2⟩
  · show Tile (if u = t then rawK 0 (fun _ => 0) else tC T u)
    by_cases e : u = t
    · rw [if_pos e]; exact raw_tile _
    · rw [if_neg e]; exact h.2.1 u hu
  · rw [← ec]; exact los_O h
  · rw [← ec]; exact los_I h
theorem swpT_all {T : mSt} (h : InvT T) : InvT (swpT T) ∧ ∀ u p, u < 4 → p < kN (tC T u) → slU (tS (swpT T)) (kR (tC T u) p) = slU (tS T) (kR (tC T u) p) := by
  obtain ⟨a, b⟩ := swN_I (K := rawK 0 (fun _ => 0)) (w := sW (tS T) + ctN (rmS (tS T) (rawK 0 (fun _ => 0))) 60) h.2.2.1 h.2.2.2.2.1 h.2.2.2.2.2.1
  exact ⟨⟨h.1, h.2.1, swN_D h.2.2.1, swN_G h.2.2.2.1, swN_O h.2.2.2.2.1, a, Nat.le_trans (szS_sw _ _ _ _) h.2.2.2.2.2.2⟩, fun u p hu hp => b _ (cT_pos hu hp).2⟩
theorem setV_up {v : Nat → Nat} (h : SetV v) {k x : Nat} (hk : k < 5) (h1 : lowF k ≤ x) (h2 : x ≤ higF k) : SetV (upN v k x) := by
  obtain ⟨a, b, c, d, e⟩ := h
  have : k = 0 ∨ k = 1 ∨ k = 2 ∨ k = 3 ∨ k = 4 := by omega
  rcases this with rfl | rfl | rfl | rfl | rfl <;> simp only [lowF, higF] at h1 h2 <;> refine ⟨?_, ?_, ?_, ?_, ?_⟩ <;> simp [upN] <;> omega
theorem setT_all {T : mSt} (h : InvT T) {k x : Nat} (hk : k < 5) (h1 : lowF k ≤ x) (h2 : x ≤ higF k) : InvT (setT T k x) := ⟨setV_up h.1 hk h1 h2, h.2⟩
