/-- unlike rows: how many, which; the sum of their lengths -/
abbrev mUl : Type := Nat × (Nat → Int64) × Nat
def ul1 (σ : mUl) (w : Int64) (n : Nat) : mUl := if exN (fun q => σ.2.1 q == w) σ.1 = true then σ else (σ.1 + 1, vp_updL σ.2.1 σ.1 w, σ.2.2 + n)
def ulK (σ : mUl) (K : mCt) : Nat → mUl
  | 0 => σ
  | p + 1 => ul1 (ulK σ K p) (kR K p) (kQ K p)
def cutD (T : mSt) (d t : Nat) : mCt := cutK (upN (tV T) 1 d) (kL (tC T t)) (kS (tC T t))
def ulT (T : mSt) (d : Nat) : Nat → mUl
  | 0 => (0, fun _ => 0, 0)
  | t + 1 => ulK (ulT T d t) (cutD T d t) (kN (cutD T d t))
def ulL (T : mSt) (d : Nat) : Nat := (ulT T d 4).2.2
theorem ul1_le (σ : mUl) (w : Int64) (n : Nat) : (ul1 σ w n).1 ≤ σ.1 + 1 ∧ (ul1 σ w n).2.2 ≤ σ.2.2 + n := by
  unfold ul1
  split
  · exact ⟨by omega, by omega⟩
  · exact ⟨Nat.le_refl _, Nat.le_refl _⟩
theorem ulK_le {σ : mUl} {K : mCt} (hq : ∀ p, p < kN K → kQ K p ≤ 40) : ∀ p, p ≤ kN K → (ulK σ K p).1 ≤ σ.1 + p ∧ (ulK σ K p).2.2 ≤ σ.2.2 + p * 40
  | 0, _ => ⟨by rw [ulK]; omega, by rw [ulK]; omega⟩
  | p + 1, h => by
    have h1 := ulK_le (σ := σ) hq p (by omega)
    have h2 := ul1_le (ulK σ K p) (kR K p) (kQ K p)
    have h3 := hq p (by omega)
    rw [ulK, Nat.succ_mul]
    omega
theorem cutK_B (v : Nat → Nat) (n : Nat) (s : Nat → Nat) (hn : n ≤ 40) : kN (cutK v n s) ≤ 40 := by
  have := cutG_st v n s n
  show (cutG v n s n).2.1 ≤ 40
  omega
theorem cutG_Q {v s : Nat → Nat} {n : Nat} : ∀ i, i ≤ n → ∀ p, p < (cutG v n s i).2.1 → (cutG v n s i).2.2.2.1 p ≤ n
  | 0, _, p, hp => absurd hp (Nat.not_lt_zero p)
  | i + 1, hi, p, hp => by
    have h1 := cutG_Q (v := v) (s := s) (n := n) i (by omega)
    have h2 := cutG_st v n s i
    cases hH : cutH v s n i (i - (cutG v n s i).1 + 1) with
    | true =>
      rw [cutG_y hH] at hp ⊢
      show upN _ _ _ p ≤ n
      by_cases e : p = (cutG v n s i).2.1
      · rw [e, upN_s]; omega
      · rw [upN_n e]
        refine h1 p ?_
        have : p < (cutG v n s i).2.1 + 1 := hp
        omega
    | false =>
      rw [cutG_n hH] at hp ⊢
      exact h1 p hp
theorem cutK_Q {v s : Nat → Nat} {n : Nat} (hn : n ≤ 40) (p : Nat) (hp : p < kN (cutK v n s)) : kQ (cutK v n s) p ≤ 40 := Nat.le_trans (cutG_Q n (Nat.le_refl n) p hp) hn
theorem ulT_le {T : mSt} {d : Nat} (hL : ∀ t, t < 4 → kL (tC T t) ≤ 40) : ∀ t, t ≤ 4 → (ulT T d t).1 ≤ 40 * t ∧ (ulT T d t).2.2 ≤ 1600 * t
  | 0, _ => ⟨Nat.zero_le _, Nat.zero_le _⟩
  | t + 1, h => by
    have h1 := ulT_le (d := d) hL t (by omega)
    have h2 := cutK_B (upN (tV T) 1 d) (kL (tC T t)) (kS (tC T t)) (hL t (by omega))
    have h3 := ulK_le (σ := ulT T d t) (K := cutD T d t) (fun p hp => cutK_Q (hL t (by omega)) p hp) (kN (cutD T d t)) (Nat.le_refl _)
    have h4 : kN (cutD T d t) ≤ 40 := h2
    rw [ulT]
    omega
set_option maxHeartbeats 4000000 in
set_option maxRecDepth 100000 in
theorem c_hasSeen {X : mX} {h : mH} {f : Nat → Int64} (a0 : h 0 = some obC) (z0 : h 269 = some (aL 160 f)) (w : Int64) (n : Nat) (hn : n ≤ 160) : CnP X m_X6_hasSeen [.ref 0, .long w, .int (nI n)] h (some (.int (bI (exN (fun q => f q == w) n)))) := by
  refine cn_of_ev (L0 := [_, _, _, _, _]) (by decide +kernel) rfl rfl (Nat.le_of_ble_eq_true rfl) rfl ?_
  refine ev_iconst (nI 0) dX6_hasSeen_0 rfl ?_
  refine ev_istore (L' := [_, _, _, _, _]) dX6_hasSeen_1 (Nat.le_of_ble_eq_true rfl) rfl ?_
  refine ev_pc (pc' := 3) rfl ?_
  have LP3 : ∀ (mz : Nat) (k : Nat), n - k = mz → (k ≤ n) → (∀ q, q < k → ¬ f q = w) → Ev X m_X6_hasSeen B0 3 [.ref 0, .long w, jk, .int (nI n), .int (nI k)] [] h (fun o h1 => o = .inl (some (.int (bI (exN (fun q => f q == w) n)))) ∧ h1 = h) := by
    intro mz
    induction mz using Nat.strongRecOn with
    | _ mz ih =>
      intro k hmz hk hno
      refine ev_iload dX6_hasSeen_3 rfl ?_
      refine ev_iload_n dX6_hasSeen_5 rfl rfl ?_
      refine ev_icmp_geN 29 dX6_hasSeen_6 rfl (by omega) (by omega) (fun hc6 => ?_) (fun hc6 => ?_)
      · refine ev_iconst (nI 0) dX6_hasSeen_29 rfl ?_
        refine ev_zreturn dX6_hasSeen_30 rfl (by first | rfl | exact bI_nar _) (Or.inl rfl) (Nat.zero_le _) (Nat.zero_le _) ?_
        exact ⟨by rw [exN_no (fun q hq => by simpa using hno q (by omega))]; rfl, rfl⟩
      · refine ev_aload_n dX6_hasSeen_9 rfl rfl ?_
        first | refine ev_getfield dX6_hasSeen_10 lf_6_47 (a0) rfl ?_ | refine ev_getfield dX6_hasSeen_10 lf_6_47 (z0) rfl ?_
        refine ev_iload dX6_hasSeen_13 rfl ?_
        first | refine ev_laloadN dX6_hasSeen_15 (a0) (by omega) (by decide) ?_ | refine ev_laloadN dX6_hasSeen_15 (z0) (by omega) (by decide) ?_
        refine ev_lload_n dX6_hasSeen_16 rfl rfl ?_
        refine ev_lcmp_ne 23 dX6_hasSeen_17 dX6_hasSeen_18 rfl (fun hc18 => ?_) (fun hc18 => ?_)
        · refine ev_iincN (L' := [_, _, _, _, _]) 1 dX6_hasSeen_23 rfl rfl ?_
          refine ev_goto 3 dX6_hasSeen_26 rfl ?_
          refine ev_pc (pc' := 3) rfl ?_
          exact ih _ (by omega) (k + 1) rfl (by omega) (fun q hq => by rcases Nat.lt_succ_iff_lt_or_eq.mp hq with z | z; exact hno q z; rw [z]; exact hc18)
        · refine ev_iconst (nI 1) dX6_hasSeen_21 rfl ?_
          refine ev_zreturn dX6_hasSeen_22 rfl (by first | rfl | exact bI_nar _) (Or.inl rfl) (Nat.zero_le _) (Nat.zero_le _) ?_
          exact ⟨by rw [exN_yes (k := k) (by omega) (by rw [hc18]; exact beq_self_eq_true _)]; rfl, rfl⟩
  exact LP3 _ 0 rfl (Nat.zero_le _) (fun q hq => absurd hq (Nat.not_lt_zero q))
set_option maxHeartbeats 4000000 in
set_option maxRecDepth 100000 in
theorem c_unlikeLengthsWith {X : mX} {h : mH} {A : mAs} (hA : ClsN h A) (d : Nat) (hd1 : 1 ≤ d) (hd9 : d ≤ 9) (h1 : ∀ t, t < 4 → ∀ j, j < kL (tC (aT A) t) → 1 ≤ kS (tC (aT A) t) j) : CnU X m_X6_unlikeLengthsWith [.ref 0, .int (nI d)] h (fun v h1 => v = some (.int (nI (ulL (aT A) d))) ∧ ClsN h1 A ∧ Out h h1 0 270) := by
  obtain ⟨a0, hT, hH, hBf, hW⟩ := id hA
  obtain ⟨t0, ⟨f, t1, t2⟩, hcs, hsto, hset⟩ := id hT
  obtain ⟨m0, hm6, -⟩ := id hH
  obtain ⟨⟨b0, bf, b1, hbf⟩, hb60, hbd⟩ := id hBf
  obtain ⟨⟨T1, w1⟩, ⟨K1, wc⟩, ⟨v1, w3⟩, f1, w4⟩ := id hW
  obtain ⟨⟨s0, -⟩, -⟩ := id w3
  have hL40 : ∀ t, t < 4 → kL (tC (aT A) t) ≤ 40 := fun t ht => by obtain ⟨_, _, _, _, _, _, z, _⟩ := hcs t ht; exact z
  refine cn_of_ev (L0 := [_, _, _, _, _, _, _, _]) (by decide +kernel) rfl rfl (Nat.le_of_ble_eq_true rfl) rfl ?_
  refine ev_aload_n dX6_unlikeLengthsWith_0 rfl rfl ?_
  first | refine ev_getfield dX6_unlikeLengthsWith_1 lf_6_43 (a0) rfl ?_ | refine ev_getfield dX6_unlikeLengthsWith_1 lf_6_43 (t0) rfl ?_ | refine ev_getfield dX6_unlikeLengthsWith_1 lf_6_43 (s0) rfl ?_
  refine ev_aload_n dX6_unlikeLengthsWith_4 rfl rfl ?_
  first | refine ev_getfield dX6_unlikeLengthsWith_5 lf_6_10 (a0) rfl ?_ | refine ev_getfield dX6_unlikeLengthsWith_5 lf_6_10 (t0) rfl ?_ | refine ev_getfield dX6_unlikeLengthsWith_5 lf_6_10 (s0) rfl ?_
  first | refine ev_getfield dX6_unlikeLengthsWith_8 lf_6_134 (a0) rfl ?_ | refine ev_getfield dX6_unlikeLengthsWith_8 lf_6_134 (t0) rfl ?_ | refine ev_getfield dX6_unlikeLengthsWith_8 lf_6_134 (s0) rfl ?_
  first | refine ev_callVU1 dX6_unlikeLengthsWith_11 cal_X3_become lk_6_282 ⟨(Nat.le_of_ble_eq_true rfl), (Nat.le_of_ble_eq_true rfl)⟩ rfl (a0) (Nat.le_of_ble_eq_true rfl) (c_Set_become hset w3 (by omega)) (fun v h11 hq11 => ?_) | refine ev_callVU1 dX6_unlikeLengthsWith_11 cal_X3_become lk_6_282 ⟨(Nat.le_of_ble_eq_true rfl), (Nat.le_of_ble_eq_true rfl)⟩ rfl (t0) (Nat.le_of_ble_eq_true rfl) (c_Set_become hset w3 (by omega)) (fun v h11 hq11 => ?_) | refine ev_callVU1 dX6_unlikeLengthsWith_11 cal_X3_become lk_6_282 ⟨(Nat.le_of_ble_eq_true rfl), (Nat.le_of_ble_eq_true rfl)⟩ rfl (s0) (Nat.le_of_ble_eq_true rfl) (c_Set_become hset w3 (by omega)) (fun v h11 hq11 => ?_)
  refine ev_pc (pc' := 14) rfl ?_
  obtain ⟨rfl, hs2, o2⟩ := hq11
  have a2 := (o2 0 (by omega)).trans a0
  obtain ⟨⟨s02, w, s12, hw2⟩, -⟩ := id hs2
  refine ev_aload_n dX6_unlikeLengthsWith_14 rfl rfl ?_
  first | refine ev_getfield dX6_unlikeLengthsWith_15 lf_6_43 (a2) rfl ?_ | refine ev_getfield dX6_unlikeLengthsWith_15 lf_6_43 (s02) rfl ?_ | refine ev_getfield dX6_unlikeLengthsWith_15 lf_6_43 (s12) rfl ?_
  first | refine ev_getfield dX6_unlikeLengthsWith_18 lf_6_137 (a2) rfl ?_ | refine ev_getfield dX6_unlikeLengthsWith_18 lf_6_137 (s02) rfl ?_ | refine ev_getfield dX6_unlikeLengthsWith_18 lf_6_137 (s12) rfl ?_
  refine ev_iconst (nI 1) dX6_unlikeLengthsWith_21 rfl ?_
  refine ev_iload_n dX6_unlikeLengthsWith_22 rfl rfl ?_
  first | refine ev_iastoreF dX6_unlikeLengthsWith_23 (a2) (by omega) (by decide) ?_ | refine ev_iastoreF dX6_unlikeLengthsWith_23 (s02) (by omega) (by decide) ?_ | refine ev_iastoreF dX6_unlikeLengthsWith_23 (s12) (by omega) (by decide) ?_
  refine ev_iconst (nI 0) dX6_unlikeLengthsWith_24 rfl ?_
  refine ev_istore_n (L' := [_, _, _, _, _, _, _, _]) dX6_unlikeLengthsWith_25 rfl (Nat.le_of_ble_eq_true rfl) rfl ?_
  refine ev_iconst (nI 0) dX6_unlikeLengthsWith_26 rfl ?_
  refine ev_istore_n (L' := [_, _, _, _, _, _, _, _]) dX6_unlikeLengthsWith_27 rfl (Nat.le_of_ble_eq_true rfl) rfl ?_
  refine ev_iconst (nI 0) dX6_unlikeLengthsWith_28 rfl ?_
  refine ev_istore (L' := [_, _, _, _, _, _, _, _]) dX6_unlikeLengthsWith_29 (Nat.le_of_ble_eq_true rfl) rfl ?_
  refine ev_pc (pc' := 31) rfl ?_
  have hs3 := hs2.up (k := 1) (by omega) (show lowF 1 ≤ d from hd1) (show d ≤ higF 1 from hd9) hw2 s02
  have o3 : Out h11 (mset h11 (267 + 1) (aI 5 (nf (upN w 1 d)))) 267 2 := Out.set (by omega) (by omega)
  generalize mset h11 (267 + 1) (aI 5 (nf (upN w 1 d))) = h37 at *
  have o23 : Out h h37 261 9 := (o2.tr o3).up (by omega) (by omega)
  have w23 := wc.go (o2.tr o3) (by omega)
  have w43 := ((o2.tr o3) 269 (by omega)).trans w4
  have LP31 : ∀ (mz : Nat) (t : Nat) (h2 : mH) (g : Nat → Int64), 4 - t = mz → (t ≤ 4) → (Out h h2 261 9) → (SetN h2 267 (upN (tV (aT A)) 1 d)) → (∃ K, CutN h2 261 K) → (h2 269 = some (aL 160 g)) → (∀ q, q < (ulT (aT A) d t).1 → g q = (ulT (aT A) d t).2.1 q) → Ev X m_X6_unlikeLengthsWith B0 31 [.ref 0, .int (nI d), .int (nI (ulT (aT A) d t).1), .int (nI (ulT (aT A) d t).2.2), .int (nI t), jk, jk, jk] [] h2 (fun o h1 => ∃ v, o = .inl v ∧ (v = some (.int (nI (ulL (aT A) d))) ∧ ClsN h1 A ∧ Out h h1 0 270)) := by
    intro mz
    induction mz using Nat.strongRecOn with
    | _ mz ih =>
      intro t h2 g hmz ht j1 j2 j3 j4 j5
      have ht4' : t ≤ 4 := ht
      have b2 := ulT_le (T := aT A) (d := d) hL40 t ht
      have a2 := (j1 0 (by omega)).trans a0
      have hT2 : StN h2 1 (aT A) := hT.go j1 (by omega)
      obtain ⟨K2, j3'⟩ := j3
      obtain ⟨t02, ⟨f2, t12, t22⟩, hcs2, hsto2, hset2⟩ := id hT2
      obtain ⟨_, _, _, _, _, ⟨y0, -, -, -, -, -⟩, -⟩ := id j3'
      refine ev_iload dX6_unlikeLengthsWith_31 rfl ?_
      refine ev_iconst (nI 4) dX6_unlikeLengthsWith_33 rfl ?_
      refine ev_icmp_geN 147 dX6_unlikeLengthsWith_34 rfl (by omega) (by omega) (fun hc34 => ?_) (fun hc34 => ?_)
      · refine ev_iload_n dX6_unlikeLengthsWith_147 rfl rfl ?_
        refine ev_ireturn dX6_unlikeLengthsWith_148 rfl (Or.inl rfl) (Nat.zero_le _) (Nat.zero_le _) ?_
        have e4 : t = 4 := by omega
        subst e4
        exact ⟨_, rfl, rfl, ⟨a2, hT2, hH.go j1 (by omega), hBf.go j1 (by omega), ⟨T1, w1.go j1 (by omega)⟩, ⟨_, j3'⟩, ⟨_, j2⟩, _, j4⟩, j1.up (by omega) (by omega)⟩
      · refine ev_aload_n dX6_unlikeLengthsWith_37 rfl rfl ?_
        first | refine ev_getfield dX6_unlikeLengthsWith_38 lf_6_36 (a2) rfl ?_ | refine ev_getfield dX6_unlikeLengthsWith_38 lf_6_36 (t02) rfl ?_ | refine ev_getfield dX6_unlikeLengthsWith_38 lf_6_36 (y0) rfl ?_
        refine ev_aload_n dX6_unlikeLengthsWith_41 rfl rfl ?_
        first | refine ev_getfield dX6_unlikeLengthsWith_42 lf_6_10 (a2) rfl ?_ | refine ev_getfield dX6_unlikeLengthsWith_42 lf_6_10 (t02) rfl ?_ | refine ev_getfield dX6_unlikeLengthsWith_42 lf_6_10 (y0) rfl ?_
        first | refine ev_getfield dX6_unlikeLengthsWith_45 lf_6_70 (a2) rfl ?_ | refine ev_getfield dX6_unlikeLengthsWith_45 lf_6_70 (t02) rfl ?_ | refine ev_getfield dX6_unlikeLengthsWith_45 lf_6_70 (y0) rfl ?_
        refine ev_iload dX6_unlikeLengthsWith_48 rfl ?_
        have ht4 : t < 4 := hc34
        refine ev_aaloadN dX6_unlikeLengthsWith_50 (Or.inl rfl) t12 (by omega) (by decide) (t22 t ht4) ?_
        first | refine ev_callVU1 dX6_unlikeLengthsWith_51 cal_X1_becomeSignsOf lk_6_107 ⟨(Nat.le_of_ble_eq_true rfl), (Nat.le_of_ble_eq_true rfl)⟩ rfl (a2) (Nat.le_of_ble_eq_true rfl) (c_becomeSignsOf j3' (hcs2 t (show t < 4 from hc34)) (by omega)) (fun v h51 hq51 => ?_) | refine ev_callVU1 dX6_unlikeLengthsWith_51 cal_X1_becomeSignsOf lk_6_107 ⟨(Nat.le_of_ble_eq_true rfl), (Nat.le_of_ble_eq_true rfl)⟩ rfl (t02) (Nat.le_of_ble_eq_true rfl) (c_becomeSignsOf j3' (hcs2 t (show t < 4 from hc34)) (by omega)) (fun v h51 hq51 => ?_) | refine ev_callVU1 dX6_unlikeLengthsWith_51 cal_X1_becomeSignsOf lk_6_107 ⟨(Nat.le_of_ble_eq_true rfl), (Nat.le_of_ble_eq_true rfl)⟩ rfl (y0) (Nat.le_of_ble_eq_true rfl) (c_becomeSignsOf j3' (hcs2 t (show t < 4 from hc34)) (by omega)) (fun v h51 hq51 => ?_)
        refine ev_pc (pc' := 54) rfl ?_
        obtain ⟨rfl, hc3, o3⟩ := hq51
        have a3 := (o3 0 (by omega)).trans a2
        have j23 := j2.go o3 (by omega)
        obtain ⟨_, _, _, _, _, ⟨y3, -, -, -, -, -⟩, -⟩ := id hc3
        refine ev_aload_n dX6_unlikeLengthsWith_54 rfl rfl ?_
        first | refine ev_getfield dX6_unlikeLengthsWith_55 lf_6_36 (a3) rfl ?_ | refine ev_getfield dX6_unlikeLengthsWith_55 lf_6_36 (y3) rfl ?_
        refine ev_aload_n dX6_unlikeLengthsWith_58 rfl rfl ?_
        first | refine ev_getfield dX6_unlikeLengthsWith_59 lf_6_43 (a3) rfl ?_ | refine ev_getfield dX6_unlikeLengthsWith_59 lf_6_43 (y3) rfl ?_
        first | refine ev_callVU1 dX6_unlikeLengthsWith_62 cal_X1_cutBy lk_6_268 ⟨(Nat.le_of_ble_eq_true rfl), (Nat.le_of_ble_eq_true rfl)⟩ rfl (a3) (Nat.le_of_ble_eq_true rfl) (c_cutBy hc3 j23 (by omega) (h1 t (show t < 4 from hc34))) (fun v h62 hq62 => ?_) | refine ev_callVU1 dX6_unlikeLengthsWith_62 cal_X1_cutBy lk_6_268 ⟨(Nat.le_of_ble_eq_true rfl), (Nat.le_of_ble_eq_true rfl)⟩ rfl (y3) (Nat.le_of_ble_eq_true rfl) (c_cutBy hc3 j23 (by omega) (h1 t (show t < 4 from hc34))) (fun v h62 hq62 => ?_)
        refine ev_pc (pc' := 65) rfl ?_
        obtain ⟨rfl, q3, o4⟩ := hq62
        have q1 := ((j1.tr (o3.up (by omega) (by omega))).tr (o4.up (by omega) (by omega)) : Out h h62 261 9)
        have q2 := j23.go o4 (by omega)
        have q4 := (o4 269 (by omega)).trans ((o3 269 (by omega)).trans j4)
        have q5 := j5
        have iht := ih
        clear ih
        have ht4 : t < 4 := hc34
        refine ev_iconst (nI 0) dX6_unlikeLengthsWith_65 rfl ?_
        refine ev_istore (L' := [_, _, _, _, _, _, _, _]) dX6_unlikeLengthsWith_66 (Nat.le_of_ble_eq_true rfl) rfl ?_
        refine ev_pc (pc' := 68) rfl ?_
        have LP68 : ∀ (mz : Nat) (p : Nat) (h6 : mH) (g : Nat → Int64), kN (cutD (aT A) d t) - p = mz → (p ≤ kN (cutD (aT A) d t)) → (Out h h6 261 9) → (SetN h6 267 (upN (tV (aT A)) 1 d)) → (CutN h6 261 (cutD (aT A) d t)) → (h6 269 = some (aL 160 g)) → (∀ q, q < (ulK (ulT (aT A) d t) (cutD (aT A) d t) p).1 → g q = (ulK (ulT (aT A) d t) (cutD (aT A) d t) p).2.1 q) → Ev X m_X6_unlikeLengthsWith B0 68 [.ref 0, .int (nI d), .int (nI (ulK (ulT (aT A) d t) (cutD (aT A) d t) p).1), .int (nI (ulK (ulT (aT A) d t) (cutD (aT A) d t) p).2.2), .int (nI t), .int (nI p), jk, jk] [] h6 (fun o h1 => ∃ v, o = .inl v ∧ (v = some (.int (nI (ulL (aT A) d))) ∧ ClsN h1 A ∧ Out h h1 0 270)) := by
          intro mz
          induction mz using Nat.strongRecOn with
          | _ mz ih =>
            intro p h6 g hmz hp i1 i2 i3 i4 i5
            have hN40 : kN (cutD (aT A) d t) ≤ 40 := cutK_B _ _ _ (hL40 t ht4)
            have a6 := (i1 0 (by omega)).trans a0
            have b1 := ulK_le (σ := ulT (aT A) d t) (K := cutD (aT A) d t) (fun p hp => cutK_Q (hL40 t ht4) p hp) p hp
            obtain ⟨sg, st, le, fo, rk, ⟨x0, x1, x2, x3, x4, x5⟩, -, -, hS, hP⟩ := id i3
            have hss : (ulK (ulT (aT A) d t) (cutD (aT A) d t) (p + 1)) = ul1 (ulK (ulT (aT A) d t) (cutD (aT A) d t) p) (kR (cutD (aT A) d t) p) (kQ (cutD (aT A) d t) p) := rfl
            refine ev_iload dX6_unlikeLengthsWith_68 rfl ?_
            refine ev_aload_n dX6_unlikeLengthsWith_70 rfl rfl ?_
            first | refine ev_getfield dX6_unlikeLengthsWith_71 lf_6_36 (a6) rfl ?_ | refine ev_getfield dX6_unlikeLengthsWith_71 lf_6_36 (x0) rfl ?_ | refine ev_getfield dX6_unlikeLengthsWith_71 lf_6_36 (x3) rfl ?_ | refine ev_getfield dX6_unlikeLengthsWith_71 lf_6_36 (x5) rfl ?_ | refine ev_getfield dX6_unlikeLengthsWith_71 lf_6_36 (i4) rfl ?_
            first | refine ev_getfield dX6_unlikeLengthsWith_74 lf_6_178 (a6) rfl ?_ | refine ev_getfield dX6_unlikeLengthsWith_74 lf_6_178 (x0) rfl ?_ | refine ev_getfield dX6_unlikeLengthsWith_74 lf_6_178 (x3) rfl ?_ | refine ev_getfield dX6_unlikeLengthsWith_74 lf_6_178 (x5) rfl ?_ | refine ev_getfield dX6_unlikeLengthsWith_74 lf_6_178 (i4) rfl ?_
            refine ev_icmp_geN 141 dX6_unlikeLengthsWith_77 rfl (by omega) (by omega) (fun hc77 => ?_) (fun hc77 => ?_)
            · refine ev_pc (pc' := 141) rfl ?_
              have e : ulT (aT A) d (t + 1) = (ulK (ulT (aT A) d t) (cutD (aT A) d t) p) := by rw [ulT, show kN (cutD (aT A) d t) = p from by have : kN (cutD (aT A) d t) ≤ p := hc77; omega]
              refine ev_fgt 5 (L' := [_, _, _, _, _, _, _, _]) rfl ?_
              refine ev_iincN (L' := [_, _, _, _, _, _, _, _]) 1 dX6_unlikeLengthsWith_141 rfl rfl ?_
              refine ev_goto 31 dX6_unlikeLengthsWith_144 rfl ?_
              refine ev_L (L' := [.ref 0, .int (nI d), .int (nI (ulT (aT A) d (t + 1)).1), .int (nI (ulT (aT A) d (t + 1)).2.2), .int (nI (t + 1)), jk, jk, jk]) (by rw [e]) rfl ?_
              exact iht _ (by omega) (t + 1) _ _ rfl (by omega) i1 i2 ⟨_, i3⟩ i4 (by rw [e]; exact i5)
            · refine ev_aload_n dX6_unlikeLengthsWith_80 rfl rfl ?_
              first | refine ev_getfield dX6_unlikeLengthsWith_81 lf_6_36 (a6) rfl ?_ | refine ev_getfield dX6_unlikeLengthsWith_81 lf_6_36 (x0) rfl ?_ | refine ev_getfield dX6_unlikeLengthsWith_81 lf_6_36 (x3) rfl ?_ | refine ev_getfield dX6_unlikeLengthsWith_81 lf_6_36 (x5) rfl ?_ | refine ev_getfield dX6_unlikeLengthsWith_81 lf_6_36 (i4) rfl ?_
              first | refine ev_getfield dX6_unlikeLengthsWith_84 lf_6_181 (a6) rfl ?_ | refine ev_getfield dX6_unlikeLengthsWith_84 lf_6_181 (x0) rfl ?_ | refine ev_getfield dX6_unlikeLengthsWith_84 lf_6_181 (x3) rfl ?_ | refine ev_getfield dX6_unlikeLengthsWith_84 lf_6_181 (x5) rfl ?_ | refine ev_getfield dX6_unlikeLengthsWith_84 lf_6_181 (i4) rfl ?_
              refine ev_iload dX6_unlikeLengthsWith_87 rfl ?_
              first | refine ev_laloadN dX6_unlikeLengthsWith_89 (a6) (by omega) (by decide) ?_ | refine ev_laloadN dX6_unlikeLengthsWith_89 (x0) (by omega) (by decide) ?_ | refine ev_laloadN dX6_unlikeLengthsWith_89 (x3) (by omega) (by decide) ?_ | refine ev_laloadN dX6_unlikeLengthsWith_89 (x5) (by omega) (by decide) ?_ | refine ev_laloadN dX6_unlikeLengthsWith_89 (i4) (by omega) (by decide) ?_
              rw [(hP p (by omega)).2.2.2.1]
              refine ev_lstore (L' := [_, _, _, _, _, _, _, _]) dX6_unlikeLengthsWith_90 (Nat.le_of_ble_eq_true rfl) rfl ?_
              refine ev_iload_n dX6_unlikeLengthsWith_92 rfl rfl ?_
              refine ev_aload_n dX6_unlikeLengthsWith_93 rfl rfl ?_
              first | refine ev_getfield dX6_unlikeLengthsWith_94 lf_6_47 (a6) rfl ?_ | refine ev_getfield dX6_unlikeLengthsWith_94 lf_6_47 (x0) rfl ?_ | refine ev_getfield dX6_unlikeLengthsWith_94 lf_6_47 (x3) rfl ?_ | refine ev_getfield dX6_unlikeLengthsWith_94 lf_6_47 (x5) rfl ?_ | refine ev_getfield dX6_unlikeLengthsWith_94 lf_6_47 (i4) rfl ?_
              first | refine ev_arraylengthL dX6_unlikeLengthsWith_97 (a6) ?_ | refine ev_arraylengthL dX6_unlikeLengthsWith_97 (x0) ?_ | refine ev_arraylengthL dX6_unlikeLengthsWith_97 (x3) ?_ | refine ev_arraylengthL dX6_unlikeLengthsWith_97 (x5) ?_ | refine ev_arraylengthL dX6_unlikeLengthsWith_97 (i4) ?_
              refine ev_icmp_geN 135 dX6_unlikeLengthsWith_98 rfl (by omega) (by omega) (fun hc98 => ?_) (fun hc98 => ?_)
              · refine ev_pc (pc' := 135) rfl ?_
                first
                  | (have e := hss.trans (show ul1 (ulK (ulT (aT A) d t) (cutD (aT A) d t) p) (kR (cutD (aT A) d t) p) (kQ (cutD (aT A) d t) p) = (ulK (ulT (aT A) d t) (cutD (aT A) d t) p) from if_pos hc108)
                     refine ev_fgt 6 (L' := [_, _, _, _, _, _, _, _]) rfl ?_
                     refine ev_iincN (L' := [_, _, _, _, _, _, _, _]) 1 dX6_unlikeLengthsWith_135 rfl rfl ?_
                     refine ev_goto 68 dX6_unlikeLengthsWith_138 rfl ?_
                     refine ev_L (L' := [.ref 0, .int (nI d), .int (nI (ulK (ulT (aT A) d t) (cutD (aT A) d t) (p + 1)).1), .int (nI (ulK (ulT (aT A) d t) (cutD (aT A) d t) (p + 1)).2.2), .int (nI t), .int (nI (p + 1)), jk, jk]) (by rw [e]) rfl ?_
                     exact ih _ (by omega) (p + 1) _ _ rfl (by omega) i1 i2 i3 i4 (by rw [e]; exact i5))
                  | (have e := hss.trans (show ul1 (ulK (ulT (aT A) d t) (cutD (aT A) d t) p) (kR (cutD (aT A) d t) p) (kQ (cutD (aT A) d t) p) = _ from if_neg (by rw [hc108]; decide))
                     refine ev_fgt 6 (L' := [_, _, _, _, _, _, _, _]) rfl ?_
                     refine ev_iincN (L' := [_, _, _, _, _, _, _, _]) 1 dX6_unlikeLengthsWith_135 rfl rfl ?_
                     refine ev_goto 68 dX6_unlikeLengthsWith_138 rfl ?_
                     refine ev_L (L' := [.ref 0, .int (nI d), .int (nI (ulK (ulT (aT A) d t) (cutD (aT A) d t) (p + 1)).1), .int (nI (ulK (ulT (aT A) d t) (cutD (aT A) d t) (p + 1)).2.2), .int (nI t), .int (nI (p + 1)), jk, jk]) (by rw [e]) rfl ?_
                     have ow : Out h6 (mset h6 269 (aL 160 (vp_updL g (ulK (ulT (aT A) d t) (cutD (aT A) d t) p).1 (kR (cutD (aT A) d t) p)))) 269 1 := Out.set (by omega) (by omega)
                     refine ih _ (by omega) (p + 1) _ _ rfl (by omega) (i1.tr (ow.up (by omega) (by omega))) (i2.go ow (by omega)) (i3.go ow (by omega)) (mset_s _ _ _) (fun q hq => ?_)
                     rw [e] at hq ⊢
                     show vp_updL g (ulK (ulT (aT A) d t) (cutD (aT A) d t) p).1 _ q = vp_updL (ulK (ulT (aT A) d t) (cutD (aT A) d t) p).2.1 (ulK (ulT (aT A) d t) (cutD (aT A) d t) p).1 _ q
                     by_cases z : q = (ulK (ulT (aT A) d t) (cutD (aT A) d t) p).1
                     · rw [z, upL_s, upL_s]
                     · rw [upL_n z, upL_n z]; exact i5 q (by have : q < (ulK (ulT (aT A) d t) (cutD (aT A) d t) p).1 + 1 := hq; omega))
                  | omega
              · refine ev_aload_n dX6_unlikeLengthsWith_101 rfl rfl ?_
                refine ev_lload dX6_unlikeLengthsWith_102 rfl ?_
                refine ev_iload_n dX6_unlikeLengthsWith_104 rfl rfl ?_
                first | refine ev_callVP2 dX6_unlikeLengthsWith_105 cal_X6_hasSeen lk_6_341 ⟨(Nat.le_of_ble_eq_true rfl), (Nat.le_of_ble_eq_true rfl)⟩ rfl (a6) (Nat.le_of_ble_eq_true rfl) ((show CnP X m_X6_hasSeen _ h6 (some (.int (bI (exN (fun q => (ulK (ulT (aT A) d t) (cutD (aT A) d t) p).2.1 q == kR (cutD (aT A) d t) p) (ulK (ulT (aT A) d t) (cutD (aT A) d t) p).1)))) from by have z := c_hasSeen (X := X) a6 i4 (kR (cutD (aT A) d t) p) (ulK (ulT (aT A) d t) (cutD (aT A) d t) p).1 (by omega); rwa [exN_congr (fun q hq => by rw [i5 q hq])] at z)) ?_ | refine ev_callVP2 dX6_unlikeLengthsWith_105 cal_X6_hasSeen lk_6_341 ⟨(Nat.le_of_ble_eq_true rfl), (Nat.le_of_ble_eq_true rfl)⟩ rfl (x0) (Nat.le_of_ble_eq_true rfl) ((show CnP X m_X6_hasSeen _ h6 (some (.int (bI (exN (fun q => (ulK (ulT (aT A) d t) (cutD (aT A) d t) p).2.1 q == kR (cutD (aT A) d t) p) (ulK (ulT (aT A) d t) (cutD (aT A) d t) p).1)))) from by have z := c_hasSeen (X := X) a6 i4 (kR (cutD (aT A) d t) p) (ulK (ulT (aT A) d t) (cutD (aT A) d t) p).1 (by omega); rwa [exN_congr (fun q hq => by rw [i5 q hq])] at z)) ?_ | refine ev_callVP2 dX6_unlikeLengthsWith_105 cal_X6_hasSeen lk_6_341 ⟨(Nat.le_of_ble_eq_true rfl), (Nat.le_of_ble_eq_true rfl)⟩ rfl (x3) (Nat.le_of_ble_eq_true rfl) ((show CnP X m_X6_hasSeen _ h6 (some (.int (bI (exN (fun q => (ulK (ulT (aT A) d t) (cutD (aT A) d t) p).2.1 q == kR (cutD (aT A) d t) p) (ulK (ulT (aT A) d t) (cutD (aT A) d t) p).1)))) from by have z := c_hasSeen (X := X) a6 i4 (kR (cutD (aT A) d t) p) (ulK (ulT (aT A) d t) (cutD (aT A) d t) p).1 (by omega); rwa [exN_congr (fun q hq => by rw [i5 q hq])] at z)) ?_ | refine ev_callVP2 dX6_unlikeLengthsWith_105 cal_X6_hasSeen lk_6_341 ⟨(Nat.le_of_ble_eq_true rfl), (Nat.le_of_ble_eq_true rfl)⟩ rfl (x5) (Nat.le_of_ble_eq_true rfl) ((show CnP X m_X6_hasSeen _ h6 (some (.int (bI (exN (fun q => (ulK (ulT (aT A) d t) (cutD (aT A) d t) p).2.1 q == kR (cutD (aT A) d t) p) (ulK (ulT (aT A) d t) (cutD (aT A) d t) p).1)))) from by have z := c_hasSeen (X := X) a6 i4 (kR (cutD (aT A) d t) p) (ulK (ulT (aT A) d t) (cutD (aT A) d t) p).1 (by omega); rwa [exN_congr (fun q hq => by rw [i5 q hq])] at z)) ?_ | refine ev_callVP2 dX6_unlikeLengthsWith_105 cal_X6_hasSeen lk_6_341 ⟨(Nat.le_of_ble_eq_true rfl), (Nat.le_of_ble_eq_true rfl)⟩ rfl (i4) (Nat.le_of_ble_eq_true rfl) ((show CnP X m_X6_hasSeen _ h6 (some (.int (bI (exN (fun q => (ulK (ulT (aT A) d t) (cutD (aT A) d t) p).2.1 q == kR (cutD (aT A) d t) p) (ulK (ulT (aT A) d t) (cutD (aT A) d t) p).1)))) from by have z := c_hasSeen (X := X) a6 i4 (kR (cutD (aT A) d t) p) (ulK (ulT (aT A) d t) (cutD (aT A) d t) p).1 (by omega); rwa [exN_congr (fun q hq => by rw [i5 q hq])] at z)) ?_
                refine ev_if_neB 135 dX6_unlikeLengthsWith_108 rfl (fun hc108 => ?_) (fun hc108 => ?_)
                · refine ev_pc (pc' := 135) rfl ?_
                  first
                    | (have e := hss.trans (show ul1 (ulK (ulT (aT A) d t) (cutD (aT A) d t) p) (kR (cutD (aT A) d t) p) (kQ (cutD (aT A) d t) p) = (ulK (ulT (aT A) d t) (cutD (aT A) d t) p) from if_pos hc108)
                       refine ev_fgt 6 (L' := [_, _, _, _, _, _, _, _]) rfl ?_
                       refine ev_iincN (L' := [_, _, _, _, _, _, _, _]) 1 dX6_unlikeLengthsWith_135 rfl rfl ?_
                       refine ev_goto 68 dX6_unlikeLengthsWith_138 rfl ?_
                       refine ev_L (L' := [.ref 0, .int (nI d), .int (nI (ulK (ulT (aT A) d t) (cutD (aT A) d t) (p + 1)).1), .int (nI (ulK (ulT (aT A) d t) (cutD (aT A) d t) (p + 1)).2.2), .int (nI t), .int (nI (p + 1)), jk, jk]) (by rw [e]) rfl ?_
                       exact ih _ (by omega) (p + 1) _ _ rfl (by omega) i1 i2 i3 i4 (by rw [e]; exact i5))
                    | (have e := hss.trans (show ul1 (ulK (ulT (aT A) d t) (cutD (aT A) d t) p) (kR (cutD (aT A) d t) p) (kQ (cutD (aT A) d t) p) = _ from if_neg (by rw [hc108]; decide))
                       refine ev_fgt 6 (L' := [_, _, _, _, _, _, _, _]) rfl ?_
                       refine ev_iincN (L' := [_, _, _, _, _, _, _, _]) 1 dX6_unlikeLengthsWith_135 rfl rfl ?_
                       refine ev_goto 68 dX6_unlikeLengthsWith_138 rfl ?_
                       refine ev_L (L' := [.ref 0, .int (nI d), .int (nI (ulK (ulT (aT A) d t) (cutD (aT A) d t) (p + 1)).1), .int (nI (ulK (ulT (aT A) d t) (cutD (aT A) d t) (p + 1)).2.2), .int (nI t), .int (nI (p + 1)), jk, jk]) (by rw [e]) rfl ?_
                       have ow : Out h6 (mset h6 269 (aL 160 (vp_updL g (ulK (ulT (aT A) d t) (cutD (aT A) d t) p).1 (kR (cutD (aT A) d t) p)))) 269 1 := Out.set (by omega) (by omega)
                       refine ih _ (by omega) (p + 1) _ _ rfl (by omega) (i1.tr (ow.up (by omega) (by omega))) (i2.go ow (by omega)) (i3.go ow (by omega)) (mset_s _ _ _) (fun q hq => ?_)
                       rw [e] at hq ⊢
                       show vp_updL g (ulK (ulT (aT A) d t) (cutD (aT A) d t) p).1 _ q = vp_updL (ulK (ulT (aT A) d t) (cutD (aT A) d t) p).2.1 (ulK (ulT (aT A) d t) (cutD (aT A) d t) p).1 _ q
                       by_cases z : q = (ulK (ulT (aT A) d t) (cutD (aT A) d t) p).1
                       · rw [z, upL_s, upL_s]
                       · rw [upL_n z, upL_n z]; exact i5 q (by have : q < (ulK (ulT (aT A) d t) (cutD (aT A) d t) p).1 + 1 := hq; omega))
                    | omega
                · refine ev_aload_n dX6_unlikeLengthsWith_111 rfl rfl ?_
                  first | refine ev_getfield dX6_unlikeLengthsWith_112 lf_6_47 (a6) rfl ?_ | refine ev_getfield dX6_unlikeLengthsWith_112 lf_6_47 (x0) rfl ?_ | refine ev_getfield dX6_unlikeLengthsWith_112 lf_6_47 (x3) rfl ?_ | refine ev_getfield dX6_unlikeLengthsWith_112 lf_6_47 (x5) rfl ?_ | refine ev_getfield dX6_unlikeLengthsWith_112 lf_6_47 (i4) rfl ?_
                  refine ev_iload_n dX6_unlikeLengthsWith_115 rfl rfl ?_
                  refine ev_lload dX6_unlikeLengthsWith_116 rfl ?_
                  first | refine ev_lastoreN dX6_unlikeLengthsWith_118 (a6) (by omega) (by decide) ?_ | refine ev_lastoreN dX6_unlikeLengthsWith_118 (x0) (by omega) (by decide) ?_ | refine ev_lastoreN dX6_unlikeLengthsWith_118 (x3) (by omega) (by decide) ?_ | refine ev_lastoreN dX6_unlikeLengthsWith_118 (x5) (by omega) (by decide) ?_ | refine ev_lastoreN dX6_unlikeLengthsWith_118 (i4) (by omega) (by decide) ?_
                  refine ev_iincN (L' := [_, _, _, _, _, _, _, _]) 1 dX6_unlikeLengthsWith_119 rfl rfl ?_
                  refine ev_iload_n dX6_unlikeLengthsWith_122 rfl rfl ?_
                  refine ev_aload_n dX6_unlikeLengthsWith_123 rfl rfl ?_
                  first | refine ev_getfield dX6_unlikeLengthsWith_124 lf_6_36 (mset_s _ _ _) rfl ?_ | refine ev_getfield dX6_unlikeLengthsWith_124 lf_6_36 ((mset_n (by omega)).trans (a6)) rfl ?_ | refine ev_getfield dX6_unlikeLengthsWith_124 lf_6_36 ((mset_n (by omega)).trans (x0)) rfl ?_ | refine ev_getfield dX6_unlikeLengthsWith_124 lf_6_36 ((mset_n (by omega)).trans (x3)) rfl ?_ | refine ev_getfield dX6_unlikeLengthsWith_124 lf_6_36 ((mset_n (by omega)).trans (x5)) rfl ?_ | refine ev_getfield dX6_unlikeLengthsWith_124 lf_6_36 ((mset_n (by omega)).trans (i4)) rfl ?_
                  first | refine ev_getfield dX6_unlikeLengthsWith_127 lf_6_191 (mset_s _ _ _) rfl ?_ | refine ev_getfield dX6_unlikeLengthsWith_127 lf_6_191 ((mset_n (by omega)).trans (a6)) rfl ?_ | refine ev_getfield dX6_unlikeLengthsWith_127 lf_6_191 ((mset_n (by omega)).trans (x0)) rfl ?_ | refine ev_getfield dX6_unlikeLengthsWith_127 lf_6_191 ((mset_n (by omega)).trans (x3)) rfl ?_ | refine ev_getfield dX6_unlikeLengthsWith_127 lf_6_191 ((mset_n (by omega)).trans (x5)) rfl ?_ | refine ev_getfield dX6_unlikeLengthsWith_127 lf_6_191 ((mset_n (by omega)).trans (i4)) rfl ?_
                  refine ev_iload dX6_unlikeLengthsWith_130 rfl ?_
                  first | refine ev_ialoadF dX6_unlikeLengthsWith_132 (mset_s _ _ _) (by omega) (by decide) ?_ | refine ev_ialoadF dX6_unlikeLengthsWith_132 ((mset_n (by omega)).trans (a6)) (by omega) (by decide) ?_ | refine ev_ialoadF dX6_unlikeLengthsWith_132 ((mset_n (by omega)).trans (x0)) (by omega) (by decide) ?_ | refine ev_ialoadF dX6_unlikeLengthsWith_132 ((mset_n (by omega)).trans (x3)) (by omega) (by decide) ?_ | refine ev_ialoadF dX6_unlikeLengthsWith_132 ((mset_n (by omega)).trans (x5)) (by omega) (by decide) ?_ | refine ev_ialoadF dX6_unlikeLengthsWith_132 ((mset_n (by omega)).trans (i4)) (by omega) (by decide) ?_
                  rw [(hP p (by omega)).2.1]
                  refine ev_iaddN dX6_unlikeLengthsWith_133 ?_
                  refine ev_istore_n (L' := [_, _, _, _, _, _, _, _]) dX6_unlikeLengthsWith_134 rfl (Nat.le_of_ble_eq_true rfl) rfl ?_
                  refine ev_pc (pc' := 135) rfl ?_
                  first
                    | (have e := hss.trans (show ul1 (ulK (ulT (aT A) d t) (cutD (aT A) d t) p) (kR (cutD (aT A) d t) p) (kQ (cutD (aT A) d t) p) = (ulK (ulT (aT A) d t) (cutD (aT A) d t) p) from if_pos hc108)
                       refine ev_fgt 6 (L' := [_, _, _, _, _, _, _, _]) rfl ?_
                       refine ev_iincN (L' := [_, _, _, _, _, _, _, _]) 1 dX6_unlikeLengthsWith_135 rfl rfl ?_
                       refine ev_goto 68 dX6_unlikeLengthsWith_138 rfl ?_
                       refine ev_L (L' := [.ref 0, .int (nI d), .int (nI (ulK (ulT (aT A) d t) (cutD (aT A) d t) (p + 1)).1), .int (nI (ulK (ulT (aT A) d t) (cutD (aT A) d t) (p + 1)).2.2), .int (nI t), .int (nI (p + 1)), jk, jk]) (by rw [e]) rfl ?_
                       exact ih _ (by omega) (p + 1) _ _ rfl (by omega) i1 i2 i3 i4 (by rw [e]; exact i5))
                    | (have e := hss.trans (show ul1 (ulK (ulT (aT A) d t) (cutD (aT A) d t) p) (kR (cutD (aT A) d t) p) (kQ (cutD (aT A) d t) p) = _ from if_neg (by rw [hc108]; decide))
                       refine ev_fgt 6 (L' := [_, _, _, _, _, _, _, _]) rfl ?_
                       refine ev_iincN (L' := [_, _, _, _, _, _, _, _]) 1 dX6_unlikeLengthsWith_135 rfl rfl ?_
                       refine ev_goto 68 dX6_unlikeLengthsWith_138 rfl ?_
                       refine ev_L (L' := [.ref 0, .int (nI d), .int (nI (ulK (ulT (aT A) d t) (cutD (aT A) d t) (p + 1)).1), .int (nI (ulK (ulT (aT A) d t) (cutD (aT A) d t) (p + 1)).2.2), .int (nI t), .int (nI (p + 1)), jk, jk]) (by rw [e]) rfl ?_
                       have ow : Out h6 (mset h6 269 (aL 160 (vp_updL g (ulK (ulT (aT A) d t) (cutD (aT A) d t) p).1 (kR (cutD (aT A) d t) p)))) 269 1 := Out.set (by omega) (by omega)
                       refine ih _ (by omega) (p + 1) _ _ rfl (by omega) (i1.tr (ow.up (by omega) (by omega))) (i2.go ow (by omega)) (i3.go ow (by omega)) (mset_s _ _ _) (fun q hq => ?_)
                       rw [e] at hq ⊢
                       show vp_updL g (ulK (ulT (aT A) d t) (cutD (aT A) d t) p).1 _ q = vp_updL (ulK (ulT (aT A) d t) (cutD (aT A) d t) p).2.1 (ulK (ulT (aT A) d t) (cutD (aT A) d t) p).1 _ q
                       by_cases z : q = (ulK (ulT (aT A) d t) (cutD (aT A) d t) p).1
                       · rw [z, upL_s, upL_s]
                       · rw [upL_n z, upL_n z]; exact i5 q (by have : q < (ulK (ulT (aT A) d t) (cutD (aT A) d t) p).1 + 1 := hq; omega))
                    | omega
        exact LP68 _ 0 _ _ rfl (Nat.zero_le _) q1 q2 q3 q4 q5
  exact LP31 _ 0 _ f1 rfl (by omega) o23 hs3 ⟨K1, w23⟩ w43 (fun q hq => absurd hq (Nat.not_lt_zero q))
