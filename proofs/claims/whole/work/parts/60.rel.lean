/-! the model's cells against the class's state -/
def RelS (gz : Nat → Nat) (gc : Nat → Int64) (S : mSo) : Prop := gz 5 = sC S ∧ gz 6 = sW S ∧ ∀ k, k < 60 → (sR S k = 0 → gz (491 + k) = 0 ∧ gz (551 + k) = 0 ∧ gc k = 0) ∧ (sR S k ≠ 0 → Cd (sR S k) (gc k) (gz (491 + k)) ∧ gz (551 + k) = sO S k)
def RelX (gz : Nat → Nat) (t : Nat) (K : mCt) (S : mSo) : Prop := gz (7 + t) = kL K ∧ (∀ j, j < kL K → gz (11 + 40 * t + j) = kS K j) ∧ ∀ p, p < kN K → ∀ i, i < kQ K p → gz (331 + 40 * t + (kP K p + i)) = slU S (kR K p) ∧ gz (171 + 40 * t + (kP K p + i)) ≤ 3 ∧ (gz (171 + 40 * t + (kP K p + i)) = 0 ↔ i + 1 ≠ kQ K p) ∧ (gz (171 + 40 * t + (kP K p + i)) = 2 ↔ i + 1 = kQ K p ∧ kF K p = true)
def RelT (gz : Nat → Nat) (gc : Nat → Int64) (T : mSt) : Prop := (∀ k, k < 5 → gz k = tV T k) ∧ RelS gz gc (tS T) ∧ ∀ t, t < 4 → RelX gz t (tC T t) (tS T)
theorem RelS.len {gz : Nat → Nat} {gc : Nat → Int64} {S : mSo} (h : RelS gz gc S) {k : Nat} (hk : k < 60) : gz (491 + k) = if isF S k = true then 0 else rl (sR S k) := by
  obtain ⟨-, -, h3⟩ := h
  by_cases e : sR S k = 0
  · rw [if_pos (by rw [isF, e]; rfl)]
    exact ((h3 k hk).1 e).1
  · rw [if_neg (by rw [isF, ieq]; simpa using e)]
    exact (((h3 k hk).2 e).1.rl).symm
theorem isF_iff {S : mSo} {k : Nat} : isF S k = true ↔ sR S k = 0 := by rw [isF, ieq]; exact decide_eq_true_iff
theorem RelS.kp {gz : Nat → Nat} {gc : Nat → Int64} {S : mSo} (h : RelS gz gc S) : KpB gz := fun k hk => by
  obtain ⟨-, -, h3⟩ := h
  by_cases e : sR S k = 0
  · rw [((h3 k hk).1 e).1]; omega
  · exact ((h3 k hk).2 e).1.le.2
theorem RelS.pos {gz : Nat → Nat} {gc : Nat → Int64} {S : mSo} (h : RelS gz gc S) {k : Nat} (hk : k < 60) : 0 < gz (491 + k) ↔ sR S k ≠ 0 := by
  obtain ⟨-, -, h3⟩ := h
  by_cases e : sR S k = 0
  · rw [((h3 k hk).1 e).1]; simp [e]
  · have := ((h3 k hk).2 e).1.le.1
    exact ⟨fun _ => e, fun _ => by omega⟩
theorem RelS.ow {gz : Nat → Nat} {gc : Nat → Int64} {S : mSo} (h : RelS gz gc S) (hB : SoB S) {k : Nat} (hk : k < 60) : gz (551 + k) ≤ 200 := by
  obtain ⟨-, -, h3⟩ := h
  by_cases e : sR S k = 0
  · rw [((h3 k hk).1 e).2.1]; omega
  · rw [((h3 k hk).2 e).2]
    exact (hB k hk e).2
theorem RelS.congr {gz y : Nat → Nat} {gc d : Nat → Int64} {S : mSo} (h : RelS gz gc S) (e : ∀ i, (i = 5 ∨ i = 6 ∨ (491 ≤ i ∧ i < 611)) → y i = gz i) (e2 : ∀ k, k < 60 → d k = gc k) : RelS y d S := by
  obtain ⟨h1, h2, h3⟩ := h
  refine ⟨by rw [e _ (Or.inl rfl)]; exact h1, by rw [e _ (Or.inr (Or.inl rfl))]; exact h2, fun k hk => ?_⟩
  rw [e (491 + k) (by omega), e (551 + k) (by omega), e2 k hk]
  exact h3 k hk
theorem RelX.congr {gz y : Nat → Nat} {t : Nat} {K : mCt} {S S1 : mSo} (h : RelX gz t K S) (hK : Tile K) (e : ∀ i, (i = 7 + t ∨ (11 + 40 * t ≤ i ∧ i < 51 + 40 * t) ∨ (171 + 40 * t ≤ i ∧ i < 211 + 40 * t) ∨ (331 + 40 * t ≤ i ∧ i < 371 + 40 * t)) → y i = gz i) (e2 : ∀ p, p < kN K → slU S1 (kR K p) = slU S (kR K p)) : RelX y t K S1 := by
  obtain ⟨h1, h2, h3⟩ := h
  have h40 := hK.1
  refine ⟨by rw [e _ (Or.inl rfl)]; exact h1, fun j hj => ?_, fun p hp i hi => ?_⟩
  · rw [e _ (by omega)]; exact h2 j hj
  · have hen := hK.en hp
    rw [e (331 + 40 * t + (kP K p + i)) (by omega), e (171 + 40 * t + (kP K p + i)) (by omega), e2 p hp]
    exact h3 p hp i hi
theorem lstM_n {P : Nat → Bool} : ∀ {n : Nat}, (∀ k, k < n → P k = false) → lstM P n = -1
  | 0, _ => rfl
  | n + 1, h => by rw [lstM, if_neg (by rw [h n (by omega)]; decide), lstM_n (fun k hk => h k (by omega))]
theorem lstM_y {P : Nat → Bool} : ∀ {n k : Nat}, k < n → P k = true → (∀ j, j < n → P j = true → j = k) → lstM P n = nI k
  | 0, k, hk, _, _ => absurd hk (Nat.not_lt_zero k)
  | n + 1, k, hk, h, u => by
    rw [lstM]
    by_cases e : k = n
    · subst e; rw [if_pos h]
    · rw [if_neg (fun z => e (u n (by omega) z).symm), lstM_y (by omega) h (fun j hj z => u j (by omega) z)]
theorem rel_hit {gz : Nat → Nat} {gc gp : Nat → Int64} {gq : Nat → Nat} {S : mSo} (h : RelS gz gc S) {w : Int64} {p : Nat} (x : Cd w (gp p) (gq p)) {k : Nat} (hk : k < 60) : hitM gz gc gp gq p k = (sR S k == w) := by
  obtain ⟨-, -, h3⟩ := h
  rw [ieq]
  by_cases e : sR S k = 0
  · have h0 := ((h3 k hk).1 e).1
    have hl := x.le.1
    rw [hitM_n1 (by omega), e, decide_eq_false x.n0.symm]
  · have hi := ((h3 k hk).2 e).1.iff x
    by_cases e2 : sR S k = w
    · rw [decide_eq_true e2]
      exact hitM_y (hi.mp e2).1 (hi.mp e2).2
    · rw [decide_eq_false e2, hitM, Bool.and_eq_false_iff]
      by_cases e3 : gz (491 + k) = gq p
      · right
        exact decide_eq_false (fun z => e2 (hi.mpr ⟨e3, z⟩))
      · left
        exact decide_eq_false e3
theorem rel_lst {gz : Nat → Nat} {gc gp : Nat → Int64} {gq : Nat → Nat} {S : mSo} (h : RelS gz gc S) (hD : SoD S) {w : Int64} {p : Nat} (x : Cd w (gp p) (gq p)) : lstM (hitM gz gc gp gq p) 60 = slI (slU S w) := by
  by_cases hl : slU S w < 60
  · rw [slI_y hl]
    refine lstM_y hl ?_ (fun j hj z => ?_)
    · rw [rel_hit h x hl, ieq]
      exact decide_eq_true (slU_at hl)
    · rw [rel_hit h x hj, ieq] at z
      exact (slU_eq hD x.n0 hj (of_decide_eq_true z)).symm
  · rw [slI_n hl]
    refine lstM_n (fun k hk => ?_)
    rw [rel_hit h x hk, ieq]
    exact decide_eq_false (slU_no hl hk)
theorem CutM.cd {gp : Nat → Int64} {gq ge : Nat → Nat} {gn : Nat} {K : mCt} (h : CutM gp gq ge gn K) (hK : Tile K) {p : Nat} (hp : p < kN K) : Cd (kR K p) (gp p) (gq p) := by
  obtain ⟨h1, h2, -⟩ := h.2 p hp
  rw [h1, h2]
  exact hK.cd hp
theorem CutM.q {gp : Nat → Int64} {gq ge : Nat → Nat} {gn : Nat} {K : mCt} (h : CutM gp gq ge gn K) (hK : Tile K) : gn ≤ 40 ∧ ∀ p, p < gn → gq p ≤ 40 := by
  refine ⟨by rw [h.1]; exact hK.n40, fun p hp => ?_⟩
  rw [h.1] at hp
  have := (h.cd hK hp).le
  omega
theorem rel_alk {gp : Nat → Int64} {gq ge : Nat → Nat} {gn : Nat} {K : mCt} (h : CutM gp gq ge gn K) (hK : Tile K) {p q : Nat} (hp : p < kN K) (hq : q < kN K) : alkM gp gq p q = (kR K p == kR K q) := by
  have hi := (h.cd hK hp).iff (h.cd hK hq)
  rw [ieq, alkM]
  by_cases e : kR K p = kR K q
  · rw [decide_eq_true e, decide_eq_true (hi.mp e).2, decide_eq_true (hi.mp e).1]; rfl
  · rw [decide_eq_false e, Bool.and_eq_false_iff]
    by_cases e3 : gq p = gq q
    · left
      exact decide_eq_false (fun z => e (hi.mpr ⟨e3, z⟩))
    · right
      exact decide_eq_false e3
theorem rel_mis {gz : Nat → Nat} {gc gp : Nat → Int64} {gq ge : Nat → Nat} {gn : Nat} {K : mCt} {S : mSo} (h : RelS gz gc S) (hD : SoD S) (hc : CutM gp gq ge gn K) (hK : Tile K) {p : Nat} (hp : p < kN K) : misM gz gc gp gq p = isMiss S K p := by
  have e1 : fstM gp gq p p = !(exN (fun q => kR K q == kR K p) p) := by
    rw [fstM, exN_congr (fun k hk => rel_alk hc hK (p := k) (q := p) (by omega) hp)]
  rw [misM, isMiss, e1, rel_lst h hD (hc.cd hK hp), isIn]
  congr 1
  by_cases hl : slU S (kR K p) < 60
  · rw [decide_eq_true hl, slI_y hl, decide_eq_false (nI_m1 hl)]; rfl
  · rw [decide_eq_false hl, slI_n hl]; rfl
theorem rel_mss {gz : Nat → Nat} {gc gp : Nat → Int64} {gq ge : Nat → Nat} {gn : Nat} {K : mCt} {S : mSo} (h : RelS gz gc S) (hD : SoD S) (hc : CutM gp gq ge gn K) (hK : Tile K) : mssM gz gc gp gq false gn = ndS S K ∧ mssM gz gc gp gq true gn = ndR S K := by
  have hg := hc.1
  constructor
  · rw [mssM, hg, ndS, ctN_sm]
    exact smN_congr (fun p hp => by rw [rel_mis h hD hc hK hp]; rfl)
  · rw [mssM, hg, ndR]
    exact smN_congr (fun p hp => by rw [rel_mis h hD hc hK hp, (hc.2 p hp).2.1]; rfl)
theorem rel_fre {gz : Nat → Nat} {gc : Nat → Int64} {S : mSo} (h : RelS gz gc S) : freM gz + pcS S = 60 := by
  rw [freM, pcS, ctN_sm, ctN_sm, smN_plus (e := fun _ => 1) (fun k hk => ?_), sm_const (g := 1) (fun _ _ => rfl)]
  have hp := h.pos hk
  by_cases e : sR S k = 0
  · rw [isF_iff.mpr e, decide_eq_false (fun z => hp.mp z e)]; rfl
  · rw [show isF S k = false from Bool.eq_false_iff.mpr (fun z => e (isF_iff.mp z)), decide_eq_true (hp.mpr e)]; rfl
theorem rel_siz {gz : Nat → Nat} {gc : Nat → Int64} {S : mSo} (h : RelS gz gc S) : sizM gz = szS S := smN_congr (fun k hk => h.len hk)
theorem rel_fit {gz : Nat → Nat} {gc gp : Nat → Int64} {gq ge : Nat → Nat} {gn : Nat} {K : mCt} {S : mSo} (h : RelS gz gc S) (hD : SoD S) (hc : CutM gp gq ge gn K) (hK : Tile K) (hz : szS S ≤ 150) : fitM gz gc gp gq gn = fitS S K := by
  obtain ⟨a, b⟩ := rel_mss h hD hc hK
  have c := rel_fre h
  rw [fitM, fitS, a, b, rel_siz h, decide_eq_decide]
  omega
/-! texts -/
theorem RelX.sl {gz : Nat → Nat} {t : Nat} {K : mCt} {S : mSo} (h : RelX gz t K S) {p i : Nat} (hp : p < kN K) (hi : i < kQ K p) : gz (331 + 40 * t + (kP K p + i)) = slU S (kR K p) := (h.2.2 p hp i hi).1
theorem RelX.tx {gz : Nat → Nat} {t : Nat} {K : mCt} {S : mSo} (h : RelX gz t K S) (hK : Tile K) (hI : ∀ p, p < kN K → slU S (kR K p) < 60) : TxB gz t := by
  obtain ⟨h1, h2, h3⟩ := h
  refine ⟨by rw [h1]; exact hK.1, fun j hj => ?_⟩
  rw [h1] at hj
  have hs := hK.2.1 j hj
  obtain ⟨p, i, hp, hi, e⟩ := hK.pl hj
  obtain ⟨a, b, -⟩ := h3 p hp i hi
  rw [h2 j hj]
  rw [e, a]
  exact ⟨b, hI p hp, by rw [← e]; exact hs.1, by rw [← e]; exact hs.2⟩
theorem RelX.own {gz : Nat → Nat} {t : Nat} {K : mCt} {S : mSo} (h : RelX gz t K S) (hK : Tile K) (k : Nat) : ownM gz t k (gz (7 + t)) = ctN (fun p => decide (slU S (kR K p) = k)) (kN K) := by
  obtain ⟨h1, h2, h3⟩ := h
  rw [h1, ownM, ctN_sm, ctN_sm, ← hK.2.2.2]
  refine hK.last _ _ (fun p hp i hi => ?_) (Nat.le_refl _)
  obtain ⟨a, b, c, -⟩ := h3 p hp i hi
  rw [ownP, a]
  by_cases e : i + 1 = kQ K p
  · rw [if_pos e, decide_eq_true (show gz (171 + 40 * t + (kP K p + i)) ≠ 0 from fun z => c.mp z e), Bool.true_and]
  · rw [if_neg e, decide_eq_false (show ¬ gz (171 + 40 * t + (kP K p + i)) ≠ 0 from fun z => z (c.mpr e)), Bool.false_and, if_neg (by decide)]
theorem sl_row {S : mSo} (hD : SoD S) {w : Int64} (hw : w ≠ 0) (hl : slU S w < 60) {k : Nat} (hk : k < 60) : slU S w = k ↔ w = sR S k := ⟨fun e => by rw [← e, slU_at hl], fun e => slU_eq hD hw hk e.symm⟩
theorem RelX.own2 {gz : Nat → Nat} {t : Nat} {T : mSt} (h : RelX gz t (tC T t) (tS T)) (hT : InvT T) (ht : t < 4) {k : Nat} (hk : k < 60) : ownM gz t k (gz (7 + t)) = if sR (tS T) k = 0 then 0 else ctT T t (sR (tS T) k) := by
  have hK := hT.2.1 t ht
  rw [h.own hK, ctT]
  by_cases e : sR (tS T) k = 0
  · rw [if_pos e, ctN_sm]
    refine smN_zero (fun p hp => if_neg (fun z => ?_))
    have := (sl_row hT.2.2.1 (hK.cd hp).n0 (hT.inS ht hp) hk).mp (of_decide_eq_true z)
    rw [e] at this
    exact (hK.cd hp).n0 this
  · rw [if_neg e]
    refine ctN_congr (fun p hp => ?_)
    rw [ieq, decide_eq_decide]
    exact sl_row hT.2.2.1 (hK.cd hp).n0 (hT.inS ht hp) hk
theorem RelT.ob {gz : Nat → Nat} {gc : Nat → Int64} {T : mSt} (h : RelT gz gc T) (hT : InvT T) {t : Nat} (ht : t < 4) : OwB gz t := fun k hk => by
  have h1 := h.2.1.ow hT.B hk
  refine ⟨?_, by omega⟩
  rw [(h.2.2 t ht).own2 hT ht hk]
  by_cases e : sR (tS T) k = 0
  · rw [if_pos e]; exact Nat.zero_le _
  · rw [if_neg e, ((h.2.1.2.2 k hk).2 e).2, hT.2.2.2.2.1 k hk e]
    exact ctT_le T ht _
theorem RelT.tx {gz : Nat → Nat} {gc : Nat → Int64} {T : mSt} (h : RelT gz gc T) (hT : InvT T) {t : Nat} (ht : t < 4) : TxB gz t := (h.2.2 t ht).tx (hT.2.1 t ht) (fun p hp => hT.inS ht hp)
theorem exN_dec {p q : Nat → Bool} {n : Nat} (h : ∀ k, k < n → (p k = true ↔ q k = true)) : exN p n = exN q n := exN_congr (fun k hk => Bool.eq_iff_iff.mpr (h k hk))
theorem rel_new {gz : Nat → Nat} {gc gp : Nat → Int64} {gq ge : Nat → Nat} {gn : Nat} {K : mCt} {S : mSo} (h : RelS gz gc S) (hc : CutM gp gq ge gn K) (hK : Tile K) {k : Nat} (hk : k < 60) : newM gz gc gp gq k gn = exN (fun p => kR K p == sR S k) (kN K) := by
  rw [newM, hc.1]
  refine exN_congr (fun p hp => ?_)
  rw [rel_hit h (hc.cd hK hp) hk, ieq, ieq, decide_eq_decide]
  exact eq_comm
theorem rel_cbs {gz : Nat → Nat} {gc gp : Nat → Int64} {gq ge : Nat → Nat} {gn : Nat} {K : mCt} {T : mSt} (h : RelT gz gc T) (hT : InvT T) (hc : CutM gp gq ge gn K) (hK : Tile K) {t : Nat} (ht : t < 4) {k : Nat} (hk : k < 60) : cbsM gz gc gp gq gn t k = rmS (los1 T t) K k := by
  have hp := h.2.1.pos hk
  rw [cbsM, rmS, rel_new h.2.1 hc hK hk, isU]
  congr 1
  by_cases e : sR (tS T) k = 0
  · rw [decide_eq_false (fun z => hp.mp z e), show (sR (los1 T t) k == 0) = true from by rw [ieq]; exact decide_eq_true e]
    rfl
  · rw [decide_eq_true (hp.mpr e), show (sR (los1 T t) k == 0) = false from by rw [ieq]; exact decide_eq_false e]
    have e1 : sO (los1 T t) k = gz (551 + k) - ownM gz t k (gz (7 + t)) := by
      rw [(h.2.2 t ht).own2 hT ht hk, if_neg e, ((h.2.1.2.2 k hk).2 e).2]
      rfl
    rw [e1]
    rfl
theorem rel_ref {gz : Nat → Nat} {gc gp : Nat → Int64} {gq ge : Nat → Nat} {gn : Nat} {K : mCt} {T : mSt} (h : RelT gz gc T) (hT : InvT T) (hc : CutM gp gq ge gn K) (hK : Tile K) {t : Nat} (ht : t < 4) : (!(fitM gz gc gp gq gn) && !(fswM gz gc gp gq gn t)) = !(okS T t K) := by
  have hz := hT.2.2.2.2.2.2
  have e1 : fitM gz gc gp gq gn = fitS (los1 T t) K := (rel_fit h.2.1 hT.2.2.1 hc hK hz).trans rfl
  rw [e1]
  by_cases f : fitS (los1 T t) K = true
  · rw [f]
    have : okS T t K = true := by rw [okS, chgS, if_pos f, f]
    rw [this]; rfl
  · rw [Bool.eq_false_iff.mpr f, Bool.not_false, Bool.true_and]
    congr 1
    obtain ⟨a, b⟩ := rel_mss h.2.1 hT.2.2.1 hc hK
    have c := rel_fre h.2.1
    have hD : SoD (los1 T t) := hT.2.2.1
    have d := swN_nd (S := los1 T t) (K := K) (w := sW (los1 T t) + ctN (rmS (los1 T t) K) 60) hD hK
    have p := swN_pc (S := los1 T t) (K := K) (w := sW (los1 T t) + ctN (rmS (los1 T t) K) 60)
    have q := swN_sz (S := los1 T t) (K := K) (w := sW (los1 T t) + ctN (rmS (los1 T t) K) 60)
    have e2 : ctN (cbsM gz gc gp gq gn t) 60 = ctN (rmS (los1 T t) K) 60 := ctN_congr (fun k hk => rel_cbs h hT hc hK ht hk)
    have e3 : swkM gz gc gp gq gn t 60 = smN (fun k => if rmS (los1 T t) K k = true then rl (sR (los1 T t) k) else 0) 60 := smN_congr (fun k hk => by
      rw [rel_cbs h hT hc hK ht hk]
      by_cases r : rmS (los1 T t) K k = true
      · rw [if_pos r, if_pos r, h.2.1.len hk, if_neg (by rw [show isF (tS T) k = false from rmS_n0 (S := los1 T t) r]; decide)]
        rfl
      · rw [if_neg r, if_neg r])
    have s1 : ndS (los1 T t) K = ndS (tS T) K := rfl
    have s2 : ndR (los1 T t) K = ndR (tS T) K := rfl
    have s3 : pcS (los1 T t) = pcS (tS T) := rfl
    have s4 : szS (los1 T t) = szS (tS T) := rfl
    rw [okS, chgS, if_neg f, fswM, fitS, a, b, rel_siz h.2.1, e2, e3, d.1, d.2, decide_eq_decide, s1, s2]
    rw [s3] at p
    rw [s4] at q
    generalize ctN (rmS (los1 T t) K) 60 = x1 at *
    generalize smN (fun k => if rmS (los1 T t) K k = true then rl (sR (los1 T t) k) else 0) 60 = x2 at *
    omega
