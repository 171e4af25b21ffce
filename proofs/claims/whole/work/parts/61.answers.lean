/-! what looks at the model's texts answer, against the class's -/
theorem rel_pcu {gz : Nat → Nat} {t : Nat} {K : mCt} {S : mSo} (h : RelX gz t K S) (hK : Tile K) : pcuM gz t (gz (7 + t)) = kN K := by
  rw [h.1, pcuM, ctN_sm, ← hK.2.2.2, hK.last _ (fun _ => 1) (fun p hp i hi => ?_) (Nat.le_refl _), sm_const (g := 1) (fun _ _ => rfl), Nat.one_mul]
  obtain ⟨a, b, c, -⟩ := h.2.2 p hp i hi
  by_cases e : i + 1 = kQ K p
  · rw [if_pos e, if_pos (decide_eq_true (show ¬ gz (171 + 40 * t + (kP K p + i)) = 0 from fun z => c.mp z e))]
  · rw [if_neg e, if_neg (show ¬ decide (¬ gz (171 + 40 * t + (kP K p + i)) = 0) = true from fun z => of_decide_eq_true z (c.mpr e))]
theorem rel_pcp {gz : Nat → Nat} {t : Nat} {K : mCt} {S : mSo} (h : RelX gz t K S) (hK : Tile K) {p i : Nat} (hp : p < kN K) (hi : i < kQ K p) : pcuM gz t (kP K p + i) = p := by
  rw [pcuM, ctN_sm, hK.lastp _ (fun _ => 1) (fun p hp i hi => ?_) hp hi, sm_const (g := 1) (fun _ _ => rfl), Nat.one_mul]
  obtain ⟨a, b, c, -⟩ := h.2.2 p hp i hi
  by_cases e : i + 1 = kQ K p
  · rw [if_pos e, if_pos (decide_eq_true (show ¬ gz (171 + 40 * t + (kP K p + i)) = 0 from fun z => c.mp z e))]
  · rw [if_neg e, if_neg (show ¬ decide (¬ gz (171 + 40 * t + (kP K p + i)) = 0) = true from fun z => of_decide_eq_true z (c.mpr e))]
theorem pcAt_is {K : mCt} (hK : Tile K) {p i : Nat} (hp : p < kN K) (hi : i < kQ K p) : pcAt K (kP K p + i) = p := by
  have hb : ∀ q, q < p → decide (kP K q + kQ K q ≤ kP K p + i) = true := fun q hq => by
    have := (hK.en (p := q) (by omega)).2.1
    have := smN_mono (kQ K) (show q + 1 ≤ p from hq)
    have := (hK.2.2.1 p hp).1
    exact decide_eq_true (by omega)
  rw [pcAt]
  by_cases e : p < kN K - 1
  · exact upTo_stop e hb (decide_eq_false (by omega))
  · rw [show kN K - 1 = p by omega]
    exact upTo_all hb
theorem rel_frc {gz : Nat → Nat} {t : Nat} {K : mCt} {S : mSo} (h : RelX gz t K S) (hK : Tile K) : frcM gz t (gz (7 + t)) = smN (fun p => b2n (kF K p)) (kN K) := by
  rw [h.1, frcM, ctN_sm, ← hK.2.2.2]
  refine hK.last _ _ (fun p hp i hi => ?_) (Nat.le_refl _)
  obtain ⟨a, b, c, d⟩ := h.2.2 p hp i hi
  by_cases e : i + 1 = kQ K p
  · rw [if_pos e]
    cases f : kF K p with
    | true => rw [if_pos (decide_eq_true (d.mpr ⟨e, f⟩))]; rfl
    | false => rw [if_neg (fun z => by have := (d.mp (of_decide_eq_true z)).2; rw [f] at this; cases this)]; rfl
  · rw [if_neg e, if_neg (fun z => e (d.mp (of_decide_eq_true z)).1)]
theorem rel_has {gz : Nat → Nat} {t : Nat} {K : mCt} {S : mSo} (h : RelX gz t K S) (hK : Tile K) (k : Nat) : hasM gz t k (gz (7 + t)) = exN (fun p => decide (slU S (kR K p) = k)) (kN K) := by
  rw [h.1, hasM]
  apply Bool.eq_iff_iff.mpr
  rw [exN_iff, exN_iff]
  constructor
  · rintro ⟨j, hj, z⟩
    obtain ⟨p, i, hp, hi, e⟩ := hK.pl hj
    refine ⟨p, hp, ?_⟩
    rw [e, h.sl hp hi] at z
    exact z
  · rintro ⟨p, hp, z⟩
    have he := hK.en hp
    refine ⟨kP K p + 0, by omega, ?_⟩
    rw [h.sl hp (by omega)]
    exact z
theorem rel_has2 {gz : Nat → Nat} {t : Nat} {T : mSt} (h : RelX gz t (tC T t) (tS T)) (hT : InvT T) (ht : t < 4) {k : Nat} (hk : k < 60) (h0 : sR (tS T) k ≠ 0) : hasM gz t k (gz (7 + t)) = hasK (tC T t) (sR (tS T) k) := by
  have hK := hT.2.1 t ht
  rw [rel_has h hK, hasK]
  refine exN_congr (fun p hp => ?_)
  rw [ieq, decide_eq_decide]
  exact sl_row hT.2.2.1 (hK.cd hp).n0 (hT.inS ht hp) hk
theorem rel_has0 {gz : Nat → Nat} {t : Nat} {T : mSt} (h : RelX gz t (tC T t) (tS T)) (hT : InvT T) (ht : t < 4) {k : Nat} (hk : k < 60) (h0 : sR (tS T) k = 0) : hasM gz t k (gz (7 + t)) = false := by
  have hK := hT.2.1 t ht
  rw [rel_has h hK]
  refine exN_no (fun p hp => decide_eq_false (fun z => ?_))
  have := (sl_row hT.2.2.1 (hK.cd hp).n0 (hT.inS ht hp) hk).mp z
  rw [h0] at this
  exact (hK.cd hp).n0 this
theorem rel_msk {gz : Nat → Nat} {gc : Nat → Int64} {T : mSt} (h : RelT gz gc T) (hT : InvT T) {k : Nat} (hk : k < 60) (h0 : sR (tS T) k ≠ 0) : mskM gz k 4 = mskN T (sR (tS T) k) 4 := smN_congr (fun t ht => by rw [rel_has2 (h.2.2 t ht) hT ht hk h0])
/-- slots that some thing has, against first things -/
theorem cnt_slots {f : Nat → Nat} (P : Nat → Bool) (m : Nat) : ∀ n, (∀ p, p < n → f p < m) → ctN (fun k => exN (fun p => decide (f p = k)) n && P k) m = ctN (fun p => !(exN (fun q => decide (f q = f p)) p) && P (f p)) n
  | 0, _ => by rw [ctN_sm]; exact smN_zero (fun k _ => rfl)
  | n + 1, h => by
    have ih := cnt_slots P m n (fun p hp => h p (by omega))
    have e : ∀ k, exN (fun p => decide (f p = k)) (n + 1) = (exN (fun p => decide (f p = k)) n || decide (f n = k)) := fun k => rfl
    show _ = ctN (fun p => !(exN (fun q => decide (f q = f p)) p) && P (f p)) n + (if (!(exN (fun q => decide (f q = f n)) n) && P (f n)) = true then 1 else 0)
    rw [← ih]
    cases s : exN (fun q => decide (f q = f n)) n with
    | true =>
      rw [Bool.not_true, Bool.false_and, if_neg (by decide), Nat.add_zero]
      refine ctN_congr (fun k _ => ?_)
      rw [e]
      by_cases q : f n = k
      · rw [← q, s]; rfl
      · rw [decide_eq_false q, Bool.or_false]
    | false =>
      rw [Bool.not_false, Bool.true_and, ctN_sm, ctN_sm]
      have z := smN_upd (f := fun k => if (exN (fun p => decide (f p = k)) n && P k) = true then 1 else 0) (g := fun k => if (exN (fun p => decide (f p = k)) (n + 1) && P k) = true then 1 else 0) (h n (by omega)) (fun k _ hk => by
        show (if (exN (fun p => decide (f p = k)) (n + 1) && P k) = true then 1 else 0) = _
        rw [e, decide_eq_false (fun z => hk z.symm), Bool.or_false])
      simp only [s, e, decide_true, Bool.or_true, Bool.false_and, Bool.true_and, Bool.false_eq_true, if_false, Nat.add_zero] at z
      exact z
theorem rel_fst {S : mSo} {K : mCt} (hK : Tile K) (hI : ∀ p, p < kN K → slU S (kR K p) < 60) {p : Nat} (hp : p < kN K) : exN (fun q => decide (slU S (kR K q) = slU S (kR K p))) p = exN (fun q => kR K q == kR K p) p := exN_congr (fun q hq => by
  rw [ieq, decide_eq_decide]
  constructor
  · intro e
    have h1 := slU_at (hI q (by omega))
    have h2 := slU_at (hI p hp)
    rw [← h1, ← h2, e]
  · intro e
    rw [e])
theorem rel_shp {gz : Nat → Nat} {gc : Nat → Int64} {T : mSt} (h : RelT gz gc T) (hT : InvT T) {t u : Nat} (ht : t < 4) (hu : u < 4) : shpM gz t u 60 = comV (tC T t) (tC T u) 0 := by
  have hK := hT.2.1 t ht
  have hI := fun p hp => hT.inS (p := p) ht hp
  have e1 : shpM gz t u 60 = ctN (fun k => exN (fun p => decide (slU (tS T) (kR (tC T t) p) = k)) (kN (tC T t)) && hasM gz u k (gz (7 + u))) 60 := ctN_congr (fun k hk => by
    rw [rel_has (h.2.2 t ht) hK]
    by_cases e : sR (tS T) k = 0
    · have := rel_has0 (h.2.2 t ht) hT ht hk e
      rw [rel_has (h.2.2 t ht) hK] at this
      rw [this, Bool.and_false]
    · rw [decide_eq_true ((h.2.1.pos hk).mpr e), Bool.true_and])
  rw [e1, cnt_slots (f := fun p => slU (tS T) (kR (tC T t) p)) (fun k => hasM gz u k (gz (7 + u))) 60 _ hI]
  refine ctN_congr (fun p hp => ?_)
  have h0 := (hK.cd hp).n0
  rw [rel_fst hK hI hp]
  congr 1
  have hl := hI p hp
  rw [rel_has2 (h.2.2 u hu) hT hu hl (by rw [slU_at hl]; exact h0), slU_at hl]
  rfl
theorem rel_unl {gz : Nat → Nat} {gc : Nat → Int64} {T : mSt} (h : RelT gz gc T) (hT : InvT T) {t : Nat} (ht : t < 4) : unlM gz t 60 = txtV T t 2 := by
  have e1 := rel_shp h hT ht ht
  rw [show txtV T t 2 = comV (tC T t) (tC T t) 0 from rfl, ← e1]
  refine ctN_congr (fun k hk => ?_)
  cases hasM gz t k (gz (7 + t)) <;> simp
theorem rel_len {gz : Nat → Nat} {gc : Nat → Int64} {T : mSt} (h : RelT gz gc T) (hT : InvT T) {t p : Nat} (ht : t < 4) (hp : p < kN (tC T t)) : gz (491 + slU (tS T) (kR (tC T t) p)) = kQ (tC T t) p := by
  have hl := hT.inS ht hp
  have x := (hT.2.1 t ht).cd hp
  have h0 := x.n0
  have e := h.2.1.len hl
  rw [e, if_neg (fun z => h0 ((slU_at hl).symm.trans (isF_iff.mp z))), slU_at hl, x.rl]
theorem rel_lng {gz : Nat → Nat} {gc : Nat → Int64} {T : mSt} (h : RelT gz gc T) (hT : InvT T) {t : Nat} (ht : t < 4) : lngM gz t (gz (7 + t)) = mxN (kQ (tC T t)) (kN (tC T t)) := by
  rw [(h.2.2 t ht).1]
  exact (hT.2.1 t ht).most _ _ (fun p hp i hi => by rw [(h.2.2 t ht).sl hp hi]; exact rel_len h hT ht hp)
theorem rel_ows {gz : Nat → Nat} {gc : Nat → Int64} {T : mSt} (h : RelT gz gc T) (hT : InvT T) {t : Nat} (ht : t < 4) : owsM gz t (gz (7 + t)) = txtV T t 5 := by
  rw [(h.2.2 t ht).1, owsM, ctN_sm, (hT.2.1 t ht).each _ (fun p => if mskN T (kR (tC T t) p) 4 = 2 ^ t then 1 else 0) (fun p hp i hi => ?_)]
  · refine smN_congr (fun p hp => ?_)
    by_cases e : mskN T (kR (tC T t) p) 4 = 2 ^ t
    · rw [if_pos e, if_pos e, Nat.one_mul]
    · rw [if_neg e, if_neg e, Nat.zero_mul]
  · have hl := hT.inS ht hp
    have h0 := ((hT.2.1 t ht).cd hp).n0
    rw [(h.2.2 t ht).sl hp hi, rel_msk h hT hl (by rw [slU_at hl]; exact h0), slU_at hl]
    by_cases e : mskN T (kR (tC T t) p) 4 = 2 ^ t
    · rw [if_pos e, if_pos (decide_eq_true e)]
    · rw [if_neg e, if_neg (fun z => e (of_decide_eq_true z))]
theorem rel_shs {gz : Nat → Nat} {gc : Nat → Int64} {T : mSt} (h : RelT gz gc T) (hT : InvT T) {t u : Nat} (ht : t < 4) (hu : u < 4) : shsM gz t u (gz (7 + t)) = comV (tC T t) (tC T u) 1 := by
  rw [(h.2.2 t ht).1, shsM, ctN_sm, (hT.2.1 t ht).each _ (fun p => if exN (fun q => kR (tC T u) q == kR (tC T t) p) (kN (tC T u)) = true then 1 else 0) (fun p hp i hi => ?_)]
  · refine smN_congr (fun p hp => ?_)
    by_cases e : exN (fun q => kR (tC T u) q == kR (tC T t) p) (kN (tC T u)) = true
    · rw [if_pos e, if_pos e, Nat.one_mul]
    · rw [if_neg e, if_neg e, Nat.zero_mul]
  · have hl := hT.inS ht hp
    have h0 := ((hT.2.1 t ht).cd hp).n0
    rw [(h.2.2 t ht).sl hp hi, rel_has2 (h.2.2 u hu) hT hu hl (by rw [slU_at hl]; exact h0), slU_at hl]
    rfl
theorem rel_owl {gz : Nat → Nat} {gc : Nat → Int64} {S : mSo} (h : RelS gz gc S) : owlM gz false 60 = ctN (isU S) 60 ∧ owlM gz true 60 = smN (fun k => if isU S k = true then rl (sR S k) else 0) 60 := by
  have e : ∀ k, k < 60 → owlP gz k = isU S k := fun k hk => by
    rw [owlP, isU]
    by_cases z : sR S k = 0
    · rw [decide_eq_false (fun q => (h.pos hk).mp q z), show (sR S k == 0) = true from by rw [ieq]; exact decide_eq_true z]
      rfl
    · rw [decide_eq_true ((h.pos hk).mpr z), show (sR S k == 0) = false from by rw [ieq]; exact decide_eq_false z, ((h.2.2 k hk).2 z).2]
      rfl
  constructor
  · rw [owlM, ctN_sm]
    exact smN_congr (fun k hk => by rw [e k hk]; rfl)
  · refine smN_congr (fun k hk => ?_)
    rw [e k hk]
    by_cases u : isU S k = true
    · rw [if_pos u, if_pos u, if_pos rfl, h.len hk, if_neg (fun z => ?_)]
      rw [isU, isF_iff.mp z] at u
      cases u
    · rw [if_neg u, if_neg u]
theorem rel_mow {gz : Nat → Nat} {gc : Nat → Int64} {S : mSo} (h : RelS gz gc S) : mxN (fun k => gz (551 + k)) 60 = mxN (fun k => if isF S k = true then 0 else sO S k) 60 := mxN_congr (fun k hk => by
  by_cases z : sR S k = 0
  · rw [if_pos (isF_iff.mpr z)]; exact ((h.2.2 k hk).1 z).2.1
  · rw [if_neg (fun q => z (isF_iff.mp q))]; exact ((h.2.2 k hk).2 z).2)
