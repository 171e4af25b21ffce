/-! stores: what losing, sweeping and getting owners does to rows, owners, how many, how much room -/
def Own (S : mSo) (c : Int64 → Nat) : Prop := ∀ k, k < 60 → sR S k ≠ 0 → sO S k = c (sR S k)
def InS (S : mSo) (c : Int64 → Nat) : Prop := c 0 = 0 ∧ ∀ w, 0 < c w → slU S w < 60
def GdR (S : mSo) : Prop := ∀ k, k < 60 → sR S k ≠ 0 → ∃ c n, Cd (sR S k) c n
theorem slU_iff {S : mSo} {w : Int64} : slU S w < 60 ↔ ∃ k, k < 60 ∧ sR S k = w := ⟨fun h => ⟨_, h, slU_at h⟩, fun ⟨_, hk, e⟩ => slU_is hk e⟩
theorem smN_upd {f g : Nat → Nat} {n u : Nat} (hu : u < n) (h : ∀ k, k < n → k ≠ u → g k = f k) : smN g n + f u = smN f n + g u := by
  induction n with
  | zero => omega
  | succ n ih =>
    rw [smN, smN]
    by_cases e : u = n
    · rw [e, smN_congr (f := g) (g := f) (fun k hk => h k (by omega) (by omega))]
      omega
    · have h1 := ih (by omega) (fun k hk hn => h k (by omega) hn)
      have h2 := h n (by omega) (fun z => e z.symm)
      omega
theorem smN_plus {f g e : Nat → Nat} {n : Nat} (h : ∀ k, k < n → f k + g k = e k) : smN f n + smN g n = smN e n := by
  induction n with
  | zero => rfl
  | succ n ih =>
    have h1 := ih (fun k hk => h k (by omega))
    have h2 := h n (by omega)
    rw [smN, smN, smN]
    omega
theorem gt1_in {S : mSo} {w : Int64} (h : slU S w < 60) : gt1 S w = ownS S (slU S w) := if_pos h
theorem gt1_out {S : mSo} {w : Int64} (h : ¬ slU S w < 60) : gt1 S w = ownS (putS S w) (slU S 0) := if_neg h
theorem ieq {a b : Int64} : (a == b) = decide (a = b) := by
  by_cases h : a = b
  · rw [decide_eq_true h, h]; exact beq_self_eq_true b
  · rw [decide_eq_false h]; exact beq_eq_false_iff_ne.mpr h
theorem gt1_all {S : mSo} {w : Int64} {c : Int64 → Nat} (hw : w ≠ 0) (hD : SoD S) (hO : Own S c) (hI : InS S c) (hr : slU S w < 60 ∨ slU S 0 < 60) : SoD (gt1 S w) ∧ Own (gt1 S w) (fun x => c x + if w == x then 1 else 0) ∧ InS (gt1 S w) (fun x => c x + if w == x then 1 else 0) ∧ (∀ x, x ≠ 0 → slU S x < 60 → slU (gt1 S w) x = slU S x) ∧ slU (gt1 S w) w < 60 := by
  have w0 : (w == (0 : Int64)) = false := by rw [ieq]; exact decide_eq_false hw
  by_cases h : slU S w < 60
  · rw [gt1_in h]
    have e : ∀ x, slU (ownS S (slU S w)) x = slU S x := fun x => slU_congr (fun k _ => rfl)
    refine ⟨hD, fun k hk hz => ?_, ⟨?_, fun x hx => ?_⟩, fun x _ _ => e x, by rw [e]; exact h⟩
    · show upN (sO S) (slU S w) (sO S (slU S w) + 1) k = c (sR S k) + if w == sR S k then 1 else 0
      have hz' : sR S k ≠ 0 := hz
      by_cases ek : k = slU S w
      · rw [ek, upN_s, slU_at h, hO _ h (by rw [slU_at h]; exact hw), slU_at h, if_pos (beq_self_eq_true w)]
      · rw [upN_n ek, hO k hk hz', if_neg (fun z => ek ?_), Nat.add_zero]
        rw [ieq] at z
        exact (slU_eq hD hw hk (of_decide_eq_true z).symm).symm
    · show c 0 + (if w == 0 then 1 else 0) = 0
      rw [hI.1, w0]
      rfl
    · rw [e]
      by_cases ex : w = x
      · rw [← ex]; exact h
      · refine hI.2 x ?_
        have hx' : 0 < c x + if w == x then 1 else 0 := hx
        rw [ieq, decide_eq_false ex] at hx'
        simpa using hx'
  · have hf : slU S 0 < 60 := hr.resolve_left h
    rw [gt1_out h]
    have a0 := slU_at hf
    have no : ∀ k, k < 60 → sR S k ≠ w := fun k hk => slU_no h hk
    have eR : ∀ k, k ≠ slU S 0 → sR (ownS (putS S w) (slU S 0)) k = sR S k := fun k hk => upL_n hk
    have eU : sR (ownS (putS S w) (slU S 0)) (slU S 0) = w := upL_s _ _ _
    have hD' : SoD (ownS (putS S w) (slU S 0)) := fun j k hj hk e n0 => by
      by_cases ej : j = slU S 0
      · by_cases ek : k = slU S 0
        · rw [ej, ek]
        · rw [ej, eU, eR k ek] at e
          exact absurd e.symm (no k hk)
      · by_cases ek : k = slU S 0
        · rw [ek, eU, eR j ej] at e
          exact absurd e (no j hj)
        · rw [eR j ej, eR k ek] at e
          rw [eR j ej] at n0
          exact hD j k hj hk e n0
    have st : ∀ x, x ≠ 0 → slU S x < 60 → slU (ownS (putS S w) (slU S 0)) x = slU S x := fun x hx hl => by
      have hk : slU S x ≠ slU S 0 := fun z => by
        have := slU_at hl
        rw [z, a0] at this
        exact hx this.symm
      exact slU_eq hD' hx hl (by rw [eR _ hk]; exact slU_at hl)
    have hin : slU (ownS (putS S w) (slU S 0)) w < 60 := slU_is hf eU
    have cw : c w = 0 := by
      rcases Nat.eq_zero_or_pos (c w) with z | z
      · exact z
      · exact absurd (hI.2 w z) h
    refine ⟨hD', fun k hk hz => ?_, ⟨?_, fun x hx => ?_⟩, st, hin⟩
    · show upN (upN (sO S) (slU S 0) 0) (slU S 0) (upN (sO S) (slU S 0) 0 (slU S 0) + 1) k = c (sR (ownS (putS S w) (slU S 0)) k) + if w == sR (ownS (putS S w) (slU S 0)) k then 1 else 0
      by_cases ek : k = slU S 0
      · rw [ek, eU, upN_s, upN_s, cw, if_pos (beq_self_eq_true w)]
      · rw [eR k ek] at hz ⊢
        rw [upN_n ek, upN_n ek, hO k hk hz, if_neg (fun z => no k hk ?_), Nat.add_zero]
        rw [ieq] at z
        exact (of_decide_eq_true z).symm
    · show c 0 + (if w == 0 then 1 else 0) = 0
      rw [hI.1, w0]
      rfl
    · by_cases ex : w = x
      · rw [← ex]; exact hin
      · have hx' : 0 < c x + if w == x then 1 else 0 := hx
        rw [ieq, decide_eq_false ex] at hx'
        have hp : 0 < c x := by simpa using hx'
        have x0 : x ≠ 0 := fun z => by rw [z, hI.1] at hp; omega
        rw [st x x0 (hI.2 x hp)]
        exact hI.2 x hp
theorem gt1_pc {S : mSo} {w : Int64} (hw : w ≠ 0) (hr : slU S w < 60 ∨ slU S 0 < 60) : pcS (gt1 S w) = pcS S + (if slU S w < 60 then 0 else 1) ∧ szS (gt1 S w) = szS S + (if slU S w < 60 then 0 else rl w) := by
  by_cases h : slU S w < 60
  · rw [gt1_in h, if_pos h, if_pos h]
    exact ⟨rfl, rfl⟩
  · have hf : slU S 0 < 60 := hr.resolve_left h
    have a0 := slU_at hf
    rw [gt1_out h, if_neg h, if_neg h]
    have eR : ∀ k, k ≠ slU S 0 → sR (ownS (putS S w) (slU S 0)) k = sR S k := fun k hk => upL_n hk
    have eU : sR (ownS (putS S w) (slU S 0)) (slU S 0) = w := upL_s _ _ _
    have fR : ∀ k, k ≠ slU S 0 → isF (ownS (putS S w) (slU S 0)) k = isF S k := fun k hk => by rw [isF, isF, eR k hk]
    have fU : isF (ownS (putS S w) (slU S 0)) (slU S 0) = false := by rw [isF, eU, ieq]; exact decide_eq_false hw
    have f0 : isF S (slU S 0) = true := by rw [isF, a0]; rfl
    constructor
    · rw [pcS, pcS, ctN_sm, ctN_sm]
      have := smN_upd (f := fun k => if (!(isF S k)) = true then 1 else 0) (g := fun k => if (!(isF (ownS (putS S w) (slU S 0)) k)) = true then 1 else 0) hf (fun k hk hn => by show (if (!(isF (ownS (putS S w) (slU S 0)) k)) = true then 1 else 0) = _; rw [fR k hn])
      simp only [f0, fU, Bool.not_true, Bool.not_false, if_true, Bool.false_eq_true, if_false] at this
      omega
    · rw [szS, szS]
      have := smN_upd (f := fun k => if isF S k = true then 0 else rl (sR S k)) (g := fun k => if isF (ownS (putS S w) (slU S 0)) k = true then 0 else rl (sR (ownS (putS S w) (slU S 0)) k)) hf (fun k hk hn => by show (if isF (ownS (putS S w) (slU S 0)) k = true then 0 else rl (sR (ownS (putS S w) (slU S 0)) k)) = _; rw [fR k hn, eR k hn])
      simp only [f0, fU, eU, if_true, Bool.false_eq_true, if_false] at this
      omega
theorem gt1_gd {S : mSo} {w : Int64} (hG : GdR S) (hw : ∃ c n, Cd w c n) : GdR (gt1 S w) := fun k hk hz => by
  by_cases h : slU S w < 60
  · rw [gt1_in h] at hz ⊢
    exact hG k hk hz
  · rw [gt1_out h] at hz ⊢
    by_cases ek : k = slU S 0
    · rw [show sR (ownS (putS S w) (slU S 0)) k = w from by rw [ek]; exact upL_s _ _ _]
      exact hw
    · have e : sR (ownS (putS S w) (slU S 0)) k = sR S k := upL_n ek
      rw [e] at hz ⊢
      exact hG k hk hz
theorem free_of {S : mSo} (h : pcS S < 60) : slU S 0 < 60 := Classical.byContradiction (fun z => by
  have : pcS S = 60 := by
    rw [pcS, ctN_sm, smN_congr (g := fun _ => 1) (fun k hk => ?_), sm_const (g := 1) (fun _ _ => rfl)]
    have := slU_no z hk
    rw [isF, ieq, decide_eq_false this]
    rfl
  omega)
theorem isMiss_iff {S : mSo} {K : mCt} {p : Nat} : isMiss S K p = true ↔ ¬ slU S (kR K p) < 60 ∧ exN (fun q => kR K q == kR K p) p = false := by
  simp [isMiss, isIn, and_comm]
theorem gtN_all {S : mSo} {K : mCt} {c : Int64 → Nat} (hK : Tile K) (hD : SoD S) (hO : Own S c) (hI : InS S c) (hG : GdR S) (hfit : ndS S K ≤ 60 - pcS S) : ∀ n, n ≤ kN K → (∀ p, p < n → slU (gtN S K p) (kR K p) < 60 ∨ slU (gtN S K p) 0 < 60) ∧ SoD (gtN S K n) ∧ Own (gtN S K n) (fun x => c x + ctN (fun p => kR K p == x) n) ∧ InS (gtN S K n) (fun x => c x + ctN (fun p => kR K p == x) n) ∧ (∀ x, x ≠ 0 → slU S x < 60 → slU (gtN S K n) x = slU S x) ∧ (∀ x, x ≠ 0 → (slU (gtN S K n) x < 60 ↔ (slU S x < 60 ∨ exN (fun q => kR K q == x) n = true))) ∧ pcS (gtN S K n) = pcS S + ctN (isMiss S K) n ∧ szS (gtN S K n) = szS S + smN (fun p => if isMiss S K p = true then kQ K p else 0) n ∧ GdR (gtN S K n)
  | 0, _ => ⟨fun p hp => absurd hp (Nat.not_lt_zero p), hD, hO, hI, fun _ _ _ => rfl, fun x _ => by simp [gtN, exN], rfl, rfl, hG⟩
  | n + 1, hn => by
    obtain ⟨h1, h2, h3, h4, h5, h6, h7, h8, h9⟩ := gtN_all hK hD hO hI hG hfit n (by omega)
    have cd := hK.cd (p := n) (by omega)
    have w0 := cd.n0
    have hm : slU (gtN S K n) (kR K n) < 60 ↔ ¬ isMiss S K n = true := by
      rw [h6 _ w0, isMiss_iff]
      cases exN (fun q => kR K q == kR K n) n <;> simp
    have hr : slU (gtN S K n) (kR K n) < 60 ∨ slU (gtN S K n) 0 < 60 := by
      by_cases h : slU (gtN S K n) (kR K n) < 60
      · exact Or.inl h
      · right
        have hmi : isMiss S K n = true := Classical.byContradiction (fun z => h (hm.mpr z))
        have a1 := ctN_y hmi
        have a2 : ctN (isMiss S K) (n + 1) ≤ ndS S K := ctN_mono _ (by omega)
        exact free_of (by omega)
    obtain ⟨g1, g2, g3, g4, g5⟩ := gt1_all w0 h2 h3 h4 hr
    obtain ⟨p1, p2⟩ := gt1_pc w0 hr
    have ec : (fun x => c x + ctN (fun p => kR K p == x) n + if kR K n == x then 1 else 0) = fun x => c x + ctN (fun p => kR K p == x) (n + 1) := by
      funext x
      show _ = c x + (ctN (fun p => kR K p == x) n + if kR K n == x then 1 else 0)
      omega
    rw [ec] at g2 g3
    rw [gtN_s]
    refine ⟨fun p hp => ?_, g1, g2, g3, fun x hx hl => ?_, fun x hx => ?_, ?_, ?_, gt1_gd h9 ⟨_, _, cd⟩⟩
    · by_cases ep : p = n
      · rw [ep]; exact hr
      · exact h1 p (by omega)
    · have := h5 x hx hl
      rw [g4 x hx (by rw [this]; exact hl), this]
    · have e1 : exN (fun q => kR K q == x) (n + 1) = (exN (fun q => kR K q == x) n || (kR K n == x)) := rfl
      rw [e1, Bool.or_eq_true]
      constructor
      · intro hl
        by_cases ex : kR K n = x
        · exact Or.inr (Or.inr (by rw [ieq]; exact decide_eq_true ex))
        · have : slU (gtN S K n) x < 60 := by
            obtain ⟨k, hk, ek⟩ := slU_iff.mp hl
            by_cases hin : slU (gtN S K n) (kR K n) < 60
            · rw [gt1_in hin] at ek
              exact slU_is hk ek
            · rw [gt1_out hin] at ek
              by_cases kz : k = slU (gtN S K n) 0
              · rw [kz] at ek
                exact absurd ((upL_s _ _ _).symm.trans ek) ex
              · exact slU_is hk ((upL_n kz).symm.trans ek)
          rcases (h6 x hx).mp this with z | z
          · exact Or.inl z
          · exact Or.inr (Or.inl z)
      · intro z
        by_cases ex : kR K n = x
        · rw [← ex]; exact g5
        · have : slU (gtN S K n) x < 60 := (h6 x hx).mpr (by
            rcases z with z | z | z
            · exact Or.inl z
            · exact Or.inr z
            · rw [ieq] at z; exact absurd (of_decide_eq_true z) ex)
          rw [g4 x hx this]
          exact this
    · rw [p1, h7]
      cases hmi : isMiss S K n with
      | true => rw [if_neg (fun z => (hm.mp z) hmi), ctN_y hmi]; omega
      | false => rw [if_pos (hm.mpr (by rw [hmi]; decide)), ctN_n hmi]; omega
    · rw [p2, h8, smN]
      cases hmi : isMiss S K n with
      | true =>
        rw [if_neg (fun z => (hm.mp z) hmi), if_pos rfl, cd.rl]
        omega
      | false =>
        rw [if_pos (hm.mpr (by rw [hmi]; decide)), if_neg (by decide)]
        omega
/-! sweeping -/
theorem swN_R {S : mSo} {K : mCt} {w k : Nat} (hk : k < 60) : sR (swN S K 60 w) k = if rmS S K k = true then 0 else sR S k := by
  show (if decide (k < 60) && rmS S K k then 0 else sR S k) = _
  rw [decide_eq_true hk, Bool.true_and]
theorem swN_D {S : mSo} {K : mCt} {w : Nat} (hD : SoD S) : SoD (swN S K 60 w) := fun j k hj hk e n0 => by
  rw [swN_R hj] at n0 e
  rw [swN_R hk] at e
  by_cases a : rmS S K j = true
  · rw [if_pos a] at n0; exact absurd rfl n0
  · rw [if_neg a] at n0 e
    by_cases b : rmS S K k = true
    · rw [if_pos b] at e; exact absurd e n0
    · rw [if_neg b] at e
      exact hD j k hj hk e n0
theorem swN_O {S : mSo} {K : mCt} {w : Nat} {c : Int64 → Nat} (hO : Own S c) : Own (swN S K 60 w) c := fun k hk hz => by
  rw [swN_R hk] at hz ⊢
  by_cases a : rmS S K k = true
  · rw [if_pos a] at hz; exact absurd rfl hz
  · rw [if_neg a] at hz ⊢
    exact hO k hk hz
theorem swN_G {S : mSo} {K : mCt} {w : Nat} (hG : GdR S) : GdR (swN S K 60 w) := fun k hk hz => by
  rw [swN_R hk] at hz ⊢
  by_cases a : rmS S K k = true
  · rw [if_pos a] at hz; exact absurd rfl hz
  · rw [if_neg a] at hz ⊢
    exact hG k hk hz
theorem swN_st {S : mSo} {K : mCt} {w : Nat} (hD : SoD S) {x : Int64} (hx : x ≠ 0) (hl : slU S x < 60) (hr : rmS S K (slU S x) = false) : slU (swN S K 60 w) x = slU S x := by
  refine slU_eq (swN_D hD) hx hl ?_
  rw [swN_R hl, if_neg (by rw [hr]; decide)]
  exact slU_at hl
theorem swN_I {S : mSo} {K : mCt} {w : Nat} {c : Int64 → Nat} (hD : SoD S) (hO : Own S c) (hI : InS S c) : InS (swN S K 60 w) c ∧ ∀ x, 0 < c x → slU (swN S K 60 w) x = slU S x := by
  have z : ∀ x, 0 < c x → slU (swN S K 60 w) x = slU S x := fun x hx => by
    have hl := hI.2 x hx
    have x0 : x ≠ 0 := fun z => by rw [z, hI.1] at hx; omega
    refine swN_st hD x0 hl (rmS_n1 ?_)
    have e := hO _ hl (by rw [slU_at hl]; exact x0)
    rw [slU_at hl] at e
    rw [isU, Bool.and_eq_false_iff]
    right
    rw [e]
    exact beq_eq_false_iff_ne.mpr (by omega)
  exact ⟨⟨hI.1, fun x hx => by rw [z x hx]; exact hI.2 x hx⟩, z⟩
theorem rmS_in {S : mSo} {K : mCt} {p : Nat} (hD : SoD S) (hp : p < kN K) (h0 : kR K p ≠ 0) {k : Nat} (hk : k < 60) (e : sR S k = kR K p) : rmS S K k = false := rmS_n2 (exN_yes hp (by rw [ieq]; exact decide_eq_true e.symm))
theorem swN_miss {S : mSo} {K : mCt} {w : Nat} (hD : SoD S) (hK : Tile K) {p : Nat} (hp : p < kN K) : isMiss (swN S K 60 w) K p = isMiss S K p := by
  have h0 := (hK.cd hp).n0
  have : isIn (swN S K 60 w) (kR K p) = isIn S (kR K p) := by
    rw [isIn, isIn, decide_eq_decide]
    constructor
    · intro z
      obtain ⟨k, hk, ek⟩ := slU_iff.mp z
      rw [swN_R hk] at ek
      by_cases a : rmS S K k = true
      · rw [if_pos a] at ek; exact absurd ek.symm h0
      · rw [if_neg a] at ek
        exact slU_is hk ek
    · intro z
      rw [swN_st hD h0 z (rmS_in hD hp h0 z (slU_at z))]
      exact z
  rw [isMiss, isMiss, this]
theorem swN_nd {S : mSo} {K : mCt} {w : Nat} (hD : SoD S) (hK : Tile K) : ndS (swN S K 60 w) K = ndS S K ∧ ndR (swN S K 60 w) K = ndR S K := ⟨ctN_congr (fun p hp => swN_miss hD hK hp), smN_congr (fun p hp => by rw [swN_miss hD hK hp])⟩
theorem rmS_n0 {S : mSo} {K : mCt} {k : Nat} (h : rmS S K k = true) : isF S k = false := by
  rw [rmS, Bool.and_eq_true, isU, Bool.and_eq_true] at h
  have := h.1.1
  rw [isF]
  simpa using this
theorem swN_pc {S : mSo} {K : mCt} {w : Nat} : pcS (swN S K 60 w) + ctN (rmS S K) 60 = pcS S := by
  rw [pcS, pcS, ctN_sm, ctN_sm, ctN_sm]
  refine smN_plus (fun k hk => ?_)
  show (if (!(sR (swN S K 60 w) k == 0)) = true then 1 else 0) + _ = (if (!(isF S k)) = true then 1 else 0)
  rw [swN_R hk]
  by_cases a : rmS S K k = true
  · rw [if_pos a, if_pos a, rmS_n0 a]
    rfl
  · rw [if_neg a, if_neg a]
    rfl
theorem swN_sz {S : mSo} {K : mCt} {w : Nat} : szS (swN S K 60 w) + smN (fun k => if rmS S K k = true then rl (sR S k) else 0) 60 = szS S := by
  rw [szS, szS]
  refine smN_plus (fun k hk => ?_)
  show (if (sR (swN S K 60 w) k == 0) = true then 0 else rl (sR (swN S K 60 w) k)) + (if rmS S K k = true then rl (sR S k) else 0) = _
  rw [swN_R hk]
  by_cases a : rmS S K k = true
  · rw [if_pos a, if_pos a, rmS_n0 a]
    show 0 + rl (sR S k) = _
    rw [Nat.zero_add]
    rfl
  · rw [if_neg a, if_neg a]
    rfl
