theorem WkN.go {h h1 : mH} {a n : Nat} (x : WkN h) (o : Out h h1 a n) (hd : 270 ≤ a ∨ a + n ≤ 229) : WkN h1 := by
  obtain ⟨⟨T, x4⟩, ⟨K, x5⟩, ⟨v, x6⟩, f, x7⟩ := x
  exact ⟨⟨T, x4.go o (by omega)⟩, ⟨K, x5.go o (by omega)⟩, ⟨v, x6.go o (by omega)⟩, f, by rw [o _ (by omega)]; exact x7⟩
/-- what a text's loss wants -/
def LosOK (T : mSt) (t : Nat) : Prop := SoD (tS T) ∧ SoB (tS T) ∧ (∀ k, k < 60 → sR (tS T) k ≠ 0 → ctN (fun p => kR (tC T t) p == sR (tS T) k) (kN (tC T t)) ≤ sO (tS T) k) ∧ ∀ p, p < kN (tC T t) → kR (tC T t) p ≠ 0
def clrT (T : mSt) (t : Nat) : mSt := (fun q => if q = t then rawK 0 (fun _ => 0) else tC T q, los1 T t, tV T)
def swpT (T : mSt) : mSt := (tC T, swN (tS T) (rawK 0 (fun _ => 0)) 60 (sW (tS T) + ctN (rmS (tS T) (rawK 0 (fun _ => 0))) 60), tV T)
def setT (T : mSt) (k v : Nat) : mSt := (tC T, tS T, upN (tV T) k v)
def hisA (A : mAs) : Nat × (Nat → mSt) := (pshN (aN A), pshT (aN A) (aH A) (aT A))
theorem SetN.up {h : mH} {c k x : Nat} {v : Nat → Nat} (hs : SetN h c v) (hk : k < 5) (h1 : lowF k ≤ x) (h2 : x ≤ higF k) {w : Nat → Nat} (hw : ∀ j, j < 5 → w j = v j) (hc : h c = some (aO 3 [.ref (c + 1)])) : SetN (mset h (c + 1) (aI 5 (nf (upN w k x)))) c (upN v k x) := by
  obtain ⟨-, hv0, hv1, hv2, hv3, hv4⟩ := hs
  refine ⟨⟨(mset_n (by omega)).trans hc, _, mset_s _ _ _, fun j hj => ?_⟩, ?_⟩
  · by_cases e : j = k
    · rw [e, upN_s, upN_s]
    · rw [upN_n e, upN_n e]; exact hw j hj
  · obtain rfl | rfl | rfl | rfl | rfl : k = 0 ∨ k = 1 ∨ k = 2 ∨ k = 3 ∨ k = 4 := by omega
    all_goals (simp [lowF] at h1; simp [higF] at h2; simp [upN]; omega)
set_option maxHeartbeats 4000000 in
set_option maxRecDepth 100000 in
theorem c_requireCompleteBuffer {X : mX} {h : mH} {A : mAs} (hA : ClsN h A) (hw : whol (aD A) (aB A) = true) : CnP X m_X6_requireCompleteBuffer [.ref 0] h none := by
  obtain ⟨a0, hT, hH, hBf, hW⟩ := id hA
  obtain ⟨t0, ⟨f, t1, t2⟩, hcs, hsto, hset⟩ := id hT
  obtain ⟨m0, hm6, -⟩ := id hH
  obtain ⟨⟨b0, bf, b1, hbf⟩, hb60, hbd⟩ := id hBf
  refine cn_of_ev (L0 := [_]) (by decide +kernel) rfl rfl (Nat.le_of_ble_eq_true rfl) rfl ?_
  refine ev_aload_n dX6_requireCompleteBuffer_0 rfl rfl ?_
  first | refine ev_getfield dX6_requireCompleteBuffer_1 lf_6_26 (a0) rfl ?_ | refine ev_getfield dX6_requireCompleteBuffer_1 lf_6_26 (b0) rfl ?_
  first | refine ev_callVP0 dX6_requireCompleteBuffer_4 cal_X0_isComplete lk_6_264 ⟨(Nat.le_of_ble_eq_true rfl), (Nat.le_of_ble_eq_true rfl)⟩ rfl (a0) (Nat.le_of_ble_eq_true rfl) (c_isComplete hBf) ?_ | refine ev_callVP0 dX6_requireCompleteBuffer_4 cal_X0_isComplete lk_6_264 ⟨(Nat.le_of_ble_eq_true rfl), (Nat.le_of_ble_eq_true rfl)⟩ rfl (b0) (Nat.le_of_ble_eq_true rfl) (c_isComplete hBf) ?_
  refine ev_if_neB 21 dX6_requireCompleteBuffer_7 rfl (fun hc7 => ?_) (fun hc7 => ?_)
  · refine ev_return dX6_requireCompleteBuffer_21 rfl (Or.inl rfl) (Nat.zero_le _) (Nat.zero_le _) ?_
    exact ⟨rfl, rfl⟩
  · refine ev_pc (pc' := 10) rfl ?_
    exact absurd hw (by rw [hc7]; decide)
set_option maxHeartbeats 4000000 in
set_option maxRecDepth 100000 in
theorem x_requireCompleteBuffer {X : mX} {h : mH} {A : mAs} (hA : ClsN h A) (hw : whol (aD A) (aB A) = false) : CnX X m_X6_requireCompleteBuffer [.ref 0] h 1 (fun h1 => h1 = h) := by
  obtain ⟨a0, hT, hH, hBf, hW⟩ := id hA
  obtain ⟨t0, ⟨f, t1, t2⟩, hcs, hsto, hset⟩ := id hT
  obtain ⟨m0, hm6, -⟩ := id hH
  obtain ⟨⟨b0, bf, b1, hbf⟩, hb60, hbd⟩ := id hBf
  refine cn_of_ev (L0 := [_]) (by decide +kernel) rfl rfl (Nat.le_of_ble_eq_true rfl) rfl ?_
  refine ev_aload_n dX6_requireCompleteBuffer_0 rfl rfl ?_
  first | refine ev_getfield dX6_requireCompleteBuffer_1 lf_6_26 (a0) rfl ?_ | refine ev_getfield dX6_requireCompleteBuffer_1 lf_6_26 (b0) rfl ?_
  first | refine ev_callVP0 dX6_requireCompleteBuffer_4 cal_X0_isComplete lk_6_264 ⟨(Nat.le_of_ble_eq_true rfl), (Nat.le_of_ble_eq_true rfl)⟩ rfl (a0) (Nat.le_of_ble_eq_true rfl) (c_isComplete hBf) ?_ | refine ev_callVP0 dX6_requireCompleteBuffer_4 cal_X0_isComplete lk_6_264 ⟨(Nat.le_of_ble_eq_true rfl), (Nat.le_of_ble_eq_true rfl)⟩ rfl (b0) (Nat.le_of_ble_eq_true rfl) (c_isComplete hBf) ?_
  refine ev_if_neB 21 dX6_requireCompleteBuffer_7 rfl (fun hc7 => ?_) (fun hc7 => ?_)
  · refine ev_pc (pc' := 21) rfl ?_
    exact absurd hw (by rw [hc7]; decide)
  · refine ev_throwSW (M' := m_X6_requireCompleteBuffer) (f1 := none) (mc1 := 0) (ms1 := 0) (Q1 := fun _ _ => True) 1 "the buffer is not a complete text" (by decide) rfl (by decide) rfl (by decide) (Nat.le_of_ble_eq_true rfl) dX6_requireCompleteBuffer_10 dX6_requireCompleteBuffer_13 dX6_requireCompleteBuffer_14 dX6_requireCompleteBuffer_17 dX6_requireCompleteBuffer_20 (Nat.le_refl _) (Nat.le_refl _) ?_
    exact ⟨rfl, rfl⟩
set_option maxHeartbeats 4000000 in
set_option maxRecDepth 100000 in
theorem x_append {X : mX} {h : mH} (t : Int32) (ht : inX t 33 127 = false) : CnX X m_X6_append [.ref 0, .int t] h 1 (fun h1 => h1 = h) := by
  refine cn_of_ev (L0 := [_, _]) (by decide +kernel) rfl rfl (Nat.le_of_ble_eq_true rfl) rfl ?_
  refine ev_iload_n dX6_append_0 rfl rfl ?_
  refine ev_bipush (nI 33) dX6_append_1 rfl ?_
  refine ev_icmp_lt 12 dX6_append_3 rfl (fun hc3 => ?_) (fun hc3 => ?_)
  · refine ev_throwS (M' := m_X6_append) (f1 := none) (mc1 := 0) (ms1 := 0) (Q1 := fun _ _ => True) 1 "code is not 33 to 126" (by decide) rfl (by decide) rfl (by decide) (Nat.le_of_ble_eq_true rfl) dX6_append_12 dX6_append_15 dX6_append_16 dX6_append_18 dX6_append_21 (Nat.le_refl _) (Nat.le_refl _) ?_
    exact ⟨rfl, rfl⟩
  · refine ev_iload_n dX6_append_6 rfl rfl ?_
    refine ev_bipush (nI 126) dX6_append_7 rfl ?_
    refine ev_icmp_le 22 dX6_append_9 rfl (fun hc9 => ?_) (fun hc9 => ?_)
    · refine ev_pc (pc' := 22) rfl ?_
      exact absurd (inX_val (a := 33) (b := 126) hc3 hc9 (by decide) (by decide)) (by rw [ht]; decide)
    · refine ev_throwS (M' := m_X6_append) (f1 := none) (mc1 := 0) (ms1 := 0) (Q1 := fun _ _ => True) 1 "code is not 33 to 126" (by decide) rfl (by decide) rfl (by decide) (Nat.le_of_ble_eq_true rfl) dX6_append_12 dX6_append_15 dX6_append_16 dX6_append_18 dX6_append_21 (Nat.le_refl _) (Nat.le_refl _) ?_
      exact ⟨rfl, rfl⟩
set_option maxHeartbeats 4000000 in
set_option maxRecDepth 100000 in
theorem x_append2 {X : mX} {h : mH} {A : mAs} (hA : ClsN h A) (k : Nat) (h1 : 33 ≤ k) (h2 : k < 127) (hb : 60 ≤ aB A) : CnX X m_X6_append [.ref 0, .int (nI k)] h 2 (fun h1 => h1 = h) := by
  obtain ⟨a0, hT, hH, hBf, hW⟩ := id hA
  obtain ⟨t0, ⟨f, t1, t2⟩, hcs, hsto, hset⟩ := id hT
  obtain ⟨m0, hm6, -⟩ := id hH
  obtain ⟨⟨b0, bf, b1, hbf⟩, hb60, hbd⟩ := id hBf
  refine cn_of_ev (L0 := [_, _]) (by decide +kernel) rfl rfl (Nat.le_of_ble_eq_true rfl) rfl ?_
  refine ev_iload_n dX6_append_0 rfl rfl ?_
  refine ev_bipush (nI 33) dX6_append_1 rfl ?_
  refine ev_icmp_ltN 12 dX6_append_3 rfl (by omega) (by omega) (fun hc3 => ?_) (fun hc3 => ?_)
  · refine ev_pc (pc' := 12) rfl ?_
    omega
  · refine ev_iload_n dX6_append_6 rfl rfl ?_
    refine ev_bipush (nI 126) dX6_append_7 rfl ?_
    refine ev_icmp_leN 22 dX6_append_9 rfl (by omega) (by omega) (fun hc9 => ?_) (fun hc9 => ?_)
    · refine ev_aload_n dX6_append_22 rfl rfl ?_
      first | refine ev_getfield dX6_append_23 lf_6_26 (a0) rfl ?_ | refine ev_getfield dX6_append_23 lf_6_26 (b0) rfl ?_
      first | refine ev_getfield dX6_append_26 lf_6_143 (a0) rfl ?_ | refine ev_getfield dX6_append_26 lf_6_143 (b0) rfl ?_
      refine ev_bipush (nI 60) dX6_append_29 rfl ?_
      refine ev_icmp_ltN 44 dX6_append_31 rfl (by omega) (by omega) (fun hc31 => ?_) (fun hc31 => ?_)
      · refine ev_pc (pc' := 44) rfl ?_
        omega
      · refine ev_throwS (M' := m_X6_append) (f1 := none) (mc1 := 0) (ms1 := 0) (Q1 := fun _ _ => True) 2 "the buffer is full" (by decide) rfl (by decide) rfl (by decide) (Nat.le_of_ble_eq_true rfl) dX6_append_34 dX6_append_37 dX6_append_38 dX6_append_40 dX6_append_43 (Nat.le_refl _) (Nat.le_refl _) ?_
        exact ⟨rfl, rfl⟩
    · refine ev_pc (pc' := 12) rfl ?_
      omega
set_option maxHeartbeats 4000000 in
set_option maxRecDepth 100000 in
theorem c_append {X : mX} {h : mH} {A : mAs} (hA : ClsN h A) (k : Nat) (h1 : 33 ≤ k) (h2 : k < 127) (hb : aB A < 60) : CnU X m_X6_append [.ref 0, .int (nI k)] h (fun v h1 => v = some (.int (nI (aB A + 1))) ∧ ClsN h1 (aT A, (aN A, aH A), (aB A + 1, upN (aD A) (aB A) k)) ∧ Out h h1 0 270) := by
  obtain ⟨a0, hT, hH, hBf, hW⟩ := id hA
  obtain ⟨t0, ⟨f, t1, t2⟩, hcs, hsto, hset⟩ := id hT
  obtain ⟨m0, hm6, -⟩ := id hH
  obtain ⟨⟨b0, bf, b1, hbf⟩, hb60, hbd⟩ := id hBf
  refine cn_of_ev (L0 := [_, _]) (by decide +kernel) rfl rfl (Nat.le_of_ble_eq_true rfl) rfl ?_
  refine ev_iload_n dX6_append_0 rfl rfl ?_
  refine ev_bipush (nI 33) dX6_append_1 rfl ?_
  refine ev_icmp_ltN 12 dX6_append_3 rfl (by omega) (by omega) (fun hc3 => ?_) (fun hc3 => ?_)
  · refine ev_pc (pc' := 12) rfl ?_
    omega
  · refine ev_iload_n dX6_append_6 rfl rfl ?_
    refine ev_bipush (nI 126) dX6_append_7 rfl ?_
    refine ev_icmp_leN 22 dX6_append_9 rfl (by omega) (by omega) (fun hc9 => ?_) (fun hc9 => ?_)
    · refine ev_aload_n dX6_append_22 rfl rfl ?_
      first | refine ev_getfield dX6_append_23 lf_6_26 (a0) rfl ?_ | refine ev_getfield dX6_append_23 lf_6_26 (b0) rfl ?_
      first | refine ev_getfield dX6_append_26 lf_6_143 (a0) rfl ?_ | refine ev_getfield dX6_append_26 lf_6_143 (b0) rfl ?_
      refine ev_bipush (nI 60) dX6_append_29 rfl ?_
      refine ev_icmp_ltN 44 dX6_append_31 rfl (by omega) (by omega) (fun hc31 => ?_) (fun hc31 => ?_)
      · refine ev_pc (pc' := 44) rfl ?_
        refine ev_aload_n dX6_append_44 rfl rfl ?_
        first | refine ev_getfield dX6_append_45 lf_6_26 (a0) rfl ?_ | refine ev_getfield dX6_append_45 lf_6_26 (b0) rfl ?_
        refine ev_iload_n dX6_append_48 rfl rfl ?_
        first | refine ev_callVU1 dX6_append_49 cal_X0_add lk_6_146 ⟨(Nat.le_of_ble_eq_true rfl), (Nat.le_of_ble_eq_true rfl)⟩ rfl (a0) (Nat.le_of_ble_eq_true rfl) (c_Buf_add hBf hb k (by omega)) (fun v h49 hq49 => ?_) | refine ev_callVU1 dX6_append_49 cal_X0_add lk_6_146 ⟨(Nat.le_of_ble_eq_true rfl), (Nat.le_of_ble_eq_true rfl)⟩ rfl (b0) (Nat.le_of_ble_eq_true rfl) (c_Buf_add hBf hb k (by omega)) (fun v h49 hq49 => ?_)
        refine ev_pc (pc' := 52) rfl ?_
        obtain ⟨rfl, hb2, o2⟩ := hq49
        have a2 := (o2 0 (by omega)).trans a0
        obtain ⟨⟨q0, -⟩, -⟩ := id hb2
        refine ev_aload_n dX6_append_52 rfl rfl ?_
        first | refine ev_getfield dX6_append_53 lf_6_26 (a2) rfl ?_ | refine ev_getfield dX6_append_53 lf_6_26 (q0) rfl ?_
        first | refine ev_getfield dX6_append_56 lf_6_143 (a2) rfl ?_ | refine ev_getfield dX6_append_56 lf_6_143 (q0) rfl ?_
        refine ev_ireturn dX6_append_59 rfl (Or.inl rfl) (Nat.zero_le _) (Nat.zero_le _) ?_
        exact ⟨_, rfl, rfl, ⟨a2, hT.go o2 (by omega), hH.go o2 (by omega), hb2, hW.go o2 (by omega)⟩, o2.up (by omega) (by omega)⟩
      · refine ev_pc (pc' := 34) rfl ?_
        omega
    · refine ev_pc (pc' := 12) rfl ?_
      omega
set_option maxHeartbeats 4000000 in
set_option maxRecDepth 100000 in
theorem c_sweep {X : mX} {h : mH} {A : mAs} (hA : ClsN h A) (hB : SoB (tS (aT A))) : CnU X m_X6_sweep [.ref 0] h (fun v h1 => v = some (.int (nI (ctN (rmS (tS (aT A)) (rawK 0 (fun _ => 0))) 60))) ∧ ClsN h1 (swpT (aT A), hisA A, (aB A, aD A)) ∧ Out h h1 0 270) := by
  obtain ⟨a0, hT, hH, hBf, hW⟩ := id hA
  obtain ⟨t0, ⟨f, t1, t2⟩, hcs, hsto, hset⟩ := id hT
  obtain ⟨m0, hm6, -⟩ := id hH
  obtain ⟨⟨b0, bf, b1, hbf⟩, hb60, hbd⟩ := id hBf
  refine cn_of_ev (L0 := [_]) (by decide +kernel) rfl rfl (Nat.le_of_ble_eq_true rfl) rfl ?_
  refine ev_aload_n dX6_sweep_0 rfl rfl ?_
  first | refine ev_getfield dX6_sweep_1 lf_6_19 (a0) rfl ?_ | refine ev_getfield dX6_sweep_1 lf_6_19 (m0) rfl ?_
  refine ev_aload_n dX6_sweep_4 rfl rfl ?_
  first | refine ev_getfield dX6_sweep_5 lf_6_10 (a0) rfl ?_ | refine ev_getfield dX6_sweep_5 lf_6_10 (m0) rfl ?_
  first | refine ev_callVU1 dX6_sweep_8 cal_X2_push lk_6_110 ⟨(Nat.le_of_ble_eq_true rfl), (Nat.le_of_ble_eq_true rfl)⟩ rfl (a0) (Nat.le_of_ble_eq_true rfl) (c_push hH hT (by omega)) (fun v h8 hq8 => ?_) | refine ev_callVU1 dX6_sweep_8 cal_X2_push lk_6_110 ⟨(Nat.le_of_ble_eq_true rfl), (Nat.le_of_ble_eq_true rfl)⟩ rfl (m0) (Nat.le_of_ble_eq_true rfl) (c_push hH hT (by omega)) (fun v h8 hq8 => ?_)
  refine ev_pc (pc' := 11) rfl ?_
  obtain ⟨rfl, hH2, o2⟩ := hq8
  have a2 := (o2 0 (by omega)).trans a0
  have hT2 := hT.go o2 (by omega)
  have hBf2 := hBf.go o2 (by omega)
  have hW2 := hW.go o2 (by omega)
  obtain ⟨t02, ⟨f2, t12, t22⟩, hcs2, hsto2, hset2⟩ := id hT2
  obtain ⟨⟨T1, w1⟩, ⟨K1, w2⟩, ⟨v1, w3⟩, f1, w4⟩ := hW2
  obtain ⟨_, _, _, _, _, ⟨k0, -, -, -, -, -⟩, -⟩ := id w2
  refine ev_aload_n dX6_sweep_11 rfl rfl ?_
  first | refine ev_getfield dX6_sweep_12 lf_6_36 (a2) rfl ?_ | refine ev_getfield dX6_sweep_12 lf_6_36 (k0) rfl ?_
  first | refine ev_callVU0 dX6_sweep_15 cal_X1_clear lk_6_58 ⟨(Nat.le_of_ble_eq_true rfl), (Nat.le_of_ble_eq_true rfl)⟩ rfl (a2) (Nat.le_of_ble_eq_true rfl) (c_Cut_clear w2) (fun v h15 hq15 => ?_) | refine ev_callVU0 dX6_sweep_15 cal_X1_clear lk_6_58 ⟨(Nat.le_of_ble_eq_true rfl), (Nat.le_of_ble_eq_true rfl)⟩ rfl (k0) (Nat.le_of_ble_eq_true rfl) (c_Cut_clear w2) (fun v h15 hq15 => ?_)
  refine ev_pc (pc' := 18) rfl ?_
  obtain ⟨rfl, hc3, o3⟩ := hq15
  have a3 := (o3 0 (by omega)).trans a2
  have hT3 := hT2.go o3 (by omega)
  obtain ⟨t03, ⟨f3, t13, t23⟩, hcs3, hsto3, hset3⟩ := id hT3
  obtain ⟨_, _, _, ⟨s0, -, -, -⟩, -⟩ := id hsto3
  refine ev_aload_n dX6_sweep_18 rfl rfl ?_
  first | refine ev_getfield dX6_sweep_19 lf_6_10 (a3) rfl ?_ | refine ev_getfield dX6_sweep_19 lf_6_10 (t03) rfl ?_ | refine ev_getfield dX6_sweep_19 lf_6_10 (s0) rfl ?_
  first | refine ev_getfield dX6_sweep_22 lf_6_114 (a3) rfl ?_ | refine ev_getfield dX6_sweep_22 lf_6_114 (t03) rfl ?_ | refine ev_getfield dX6_sweep_22 lf_6_114 (s0) rfl ?_
  refine ev_aload_n dX6_sweep_25 rfl rfl ?_
  first | refine ev_getfield dX6_sweep_26 lf_6_36 (a3) rfl ?_ | refine ev_getfield dX6_sweep_26 lf_6_36 (t03) rfl ?_ | refine ev_getfield dX6_sweep_26 lf_6_36 (s0) rfl ?_
  first | refine ev_callVU1 dX6_sweep_29 cal_X5_removeUnownedBut lk_6_123 ⟨(Nat.le_of_ble_eq_true rfl), (Nat.le_of_ble_eq_true rfl)⟩ rfl (a3) (Nat.le_of_ble_eq_true rfl) (c_removeUnownedBut hsto3 hc3 (by omega) hB) (fun v h29 hq29 => ?_) | refine ev_callVU1 dX6_sweep_29 cal_X5_removeUnownedBut lk_6_123 ⟨(Nat.le_of_ble_eq_true rfl), (Nat.le_of_ble_eq_true rfl)⟩ rfl (t03) (Nat.le_of_ble_eq_true rfl) (c_removeUnownedBut hsto3 hc3 (by omega) hB) (fun v h29 hq29 => ?_) | refine ev_callVU1 dX6_sweep_29 cal_X5_removeUnownedBut lk_6_123 ⟨(Nat.le_of_ble_eq_true rfl), (Nat.le_of_ble_eq_true rfl)⟩ rfl (s0) (Nat.le_of_ble_eq_true rfl) (c_removeUnownedBut hsto3 hc3 (by omega) hB) (fun v h29 hq29 => ?_)
  refine ev_pc (pc' := 32) rfl ?_
  obtain ⟨rfl, hs4, o4⟩ := hq29
  refine ev_ireturn dX6_sweep_32 rfl (Or.inl rfl) (Nat.zero_le _) (Nat.zero_le _) ?_
  exact ⟨_, rfl, rfl, ⟨(o4 0 (by omega)).trans a3, ⟨(o4 1 (by omega)).trans t03, ⟨f3, (o4 2 (by omega)).trans t13, t23⟩, fun q hq => (hcs3 q hq).go o4 (by omega), hs4, hset3.go o4 (by omega)⟩, (hH2.go o3 (by omega)).go o4 (by omega), (hBf2.go o3 (by omega)).go o4 (by omega), ⟨T1, (w1.go o3 (by omega)).go o4 (by omega)⟩, ⟨_, hc3.go o4 (by omega)⟩, ⟨v1, (w3.go o3 (by omega)).go o4 (by omega)⟩, f1, (o4 269 (by omega)).trans ((o3 269 (by omega)).trans w4)⟩, ((o2.up (by omega) (by omega)).tr (o3.up (by omega) (by omega))).tr (o4.up (by omega) (by omega))⟩
set_option maxHeartbeats 4000000 in
set_option maxRecDepth 100000 in
theorem x_drop {X : mX} {h : mH} (t : Int32) (ht : inX t 0 4 = false) : CnX X m_X6_drop [.ref 0, .int t] h 0 (fun h1 => h1 = h) := by
  refine cn_of_ev (L0 := [_, _, _, _]) (by decide +kernel) rfl rfl (Nat.le_of_ble_eq_true rfl) rfl ?_
  refine ev_iload_n dX6_drop_0 rfl rfl ?_
  refine ev_callSX1 dX6_drop_1 cal_X6_requireText lk_6_51 ⟨(Nat.le_of_ble_eq_true rfl), (Nat.le_of_ble_eq_true rfl)⟩ rfl (Nat.le_of_ble_eq_true rfl) (x_requireText t ht) (fun h1 hq1 => ?_)
  exact ⟨rfl, hq1⟩
set_option maxHeartbeats 4000000 in
set_option maxRecDepth 100000 in
theorem c_drop {X : mX} {h : mH} {A : mAs} (hA : ClsN h A) (t : Nat) (ht : t < 4) (hl : LosOK (aT A) t) : CnU X m_X6_drop [.ref 0, .int (nI t)] h (fun v h1 => v = some (.int (nI (kL (tC (aT A) t)))) ∧ ClsN h1 (clrT (aT A) t, hisA A, (aB A, aD A)) ∧ Out h h1 0 270) := by
  obtain ⟨a0, hT, hH, hBf, hW⟩ := id hA
  obtain ⟨t0, ⟨f, t1, t2⟩, hcs, hsto, hset⟩ := id hT
  obtain ⟨m0, hm6, -⟩ := id hH
  obtain ⟨⟨b0, bf, b1, hbf⟩, hb60, hbd⟩ := id hBf
  obtain ⟨hD, hB, hO, hR⟩ := hl
  obtain ⟨_, _, _, _, _, ⟨c0, -, -, -, -, -⟩, -⟩ := id (hcs t ht)
  refine cn_of_ev (L0 := [_, _, _, _]) (by decide +kernel) rfl rfl (Nat.le_of_ble_eq_true rfl) rfl ?_
  refine ev_iload_n dX6_drop_0 rfl rfl ?_
  refine ev_callSP1 dX6_drop_1 cal_X6_requireText lk_6_51 ⟨(Nat.le_of_ble_eq_true rfl), (Nat.le_of_ble_eq_true rfl)⟩ rfl (Nat.le_of_ble_eq_true rfl) (c_requireText t ht) ?_
  refine ev_aload_n dX6_drop_4 rfl rfl ?_
  first | refine ev_getfield dX6_drop_5 lf_6_10 (a0) rfl ?_ | refine ev_getfield dX6_drop_5 lf_6_10 (t0) rfl ?_ | refine ev_getfield dX6_drop_5 lf_6_10 (m0) rfl ?_ | refine ev_getfield dX6_drop_5 lf_6_10 (c0) rfl ?_
  first | refine ev_getfield dX6_drop_8 lf_6_70 (a0) rfl ?_ | refine ev_getfield dX6_drop_8 lf_6_70 (t0) rfl ?_ | refine ev_getfield dX6_drop_8 lf_6_70 (m0) rfl ?_ | refine ev_getfield dX6_drop_8 lf_6_70 (c0) rfl ?_
  refine ev_iload_n dX6_drop_11 rfl rfl ?_
  refine ev_aaloadN dX6_drop_12 (Or.inl rfl) t1 (by omega) (by decide) (t2 t ht) ?_
  refine ev_astore_n (L' := [_, _, _, _]) dX6_drop_13 rfl (Nat.le_of_ble_eq_true rfl) rfl ?_
  refine ev_aload_n dX6_drop_14 rfl rfl ?_
  first | refine ev_getfield dX6_drop_15 lf_6_74 (a0) rfl ?_ | refine ev_getfield dX6_drop_15 lf_6_74 (t0) rfl ?_ | refine ev_getfield dX6_drop_15 lf_6_74 (m0) rfl ?_ | refine ev_getfield dX6_drop_15 lf_6_74 (c0) rfl ?_
  refine ev_istore_n (L' := [_, _, _, _]) dX6_drop_18 rfl (Nat.le_of_ble_eq_true rfl) rfl ?_
  refine ev_aload_n dX6_drop_19 rfl rfl ?_
  first | refine ev_getfield dX6_drop_20 lf_6_19 (a0) rfl ?_ | refine ev_getfield dX6_drop_20 lf_6_19 (t0) rfl ?_ | refine ev_getfield dX6_drop_20 lf_6_19 (m0) rfl ?_ | refine ev_getfield dX6_drop_20 lf_6_19 (c0) rfl ?_
  refine ev_aload_n dX6_drop_23 rfl rfl ?_
  first | refine ev_getfield dX6_drop_24 lf_6_10 (a0) rfl ?_ | refine ev_getfield dX6_drop_24 lf_6_10 (t0) rfl ?_ | refine ev_getfield dX6_drop_24 lf_6_10 (m0) rfl ?_ | refine ev_getfield dX6_drop_24 lf_6_10 (c0) rfl ?_
  first | refine ev_callVU1 dX6_drop_27 cal_X2_push lk_6_110 ⟨(Nat.le_of_ble_eq_true rfl), (Nat.le_of_ble_eq_true rfl)⟩ rfl (a0) (Nat.le_of_ble_eq_true rfl) (c_push hH hT (by omega)) (fun v h27 hq27 => ?_) | refine ev_callVU1 dX6_drop_27 cal_X2_push lk_6_110 ⟨(Nat.le_of_ble_eq_true rfl), (Nat.le_of_ble_eq_true rfl)⟩ rfl (t0) (Nat.le_of_ble_eq_true rfl) (c_push hH hT (by omega)) (fun v h27 hq27 => ?_) | refine ev_callVU1 dX6_drop_27 cal_X2_push lk_6_110 ⟨(Nat.le_of_ble_eq_true rfl), (Nat.le_of_ble_eq_true rfl)⟩ rfl (m0) (Nat.le_of_ble_eq_true rfl) (c_push hH hT (by omega)) (fun v h27 hq27 => ?_) | refine ev_callVU1 dX6_drop_27 cal_X2_push lk_6_110 ⟨(Nat.le_of_ble_eq_true rfl), (Nat.le_of_ble_eq_true rfl)⟩ rfl (c0) (Nat.le_of_ble_eq_true rfl) (c_push hH hT (by omega)) (fun v h27 hq27 => ?_)
  refine ev_pc (pc' := 30) rfl ?_
  obtain ⟨rfl, hH2, o2⟩ := hq27
  have a2 := (o2 0 (by omega)).trans a0
  have hT2 := hT.go o2 (by omega)
  have hBf2 := hBf.go o2 (by omega)
  have hW2 := hW.go o2 (by omega)
  obtain ⟨t02, ⟨f2, t12, t22⟩, hcs2, hsto2, hset2⟩ := id hT2
  obtain ⟨_, _, _, ⟨s0, -, -, -⟩, -⟩ := id hsto2
  refine ev_aload_n dX6_drop_30 rfl rfl ?_
  first | refine ev_getfield dX6_drop_31 lf_6_10 (a2) rfl ?_ | refine ev_getfield dX6_drop_31 lf_6_10 (t02) rfl ?_ | refine ev_getfield dX6_drop_31 lf_6_10 (s0) rfl ?_
  first | refine ev_getfield dX6_drop_34 lf_6_114 (a2) rfl ?_ | refine ev_getfield dX6_drop_34 lf_6_114 (t02) rfl ?_ | refine ev_getfield dX6_drop_34 lf_6_114 (s0) rfl ?_
  refine ev_aload_n dX6_drop_37 rfl rfl ?_
  first | refine ev_callVU1 dX6_drop_38 cal_X5_loseOwner lk_6_118 ⟨(Nat.le_of_ble_eq_true rfl), (Nat.le_of_ble_eq_true rfl)⟩ rfl (a2) (Nat.le_of_ble_eq_true rfl) (c_loseOwner hsto2 (hcs2 t ht) (by omega) hD hB hO hR) (fun v h38 hq38 => ?_) | refine ev_callVU1 dX6_drop_38 cal_X5_loseOwner lk_6_118 ⟨(Nat.le_of_ble_eq_true rfl), (Nat.le_of_ble_eq_true rfl)⟩ rfl (t02) (Nat.le_of_ble_eq_true rfl) (c_loseOwner hsto2 (hcs2 t ht) (by omega) hD hB hO hR) (fun v h38 hq38 => ?_) | refine ev_callVU1 dX6_drop_38 cal_X5_loseOwner lk_6_118 ⟨(Nat.le_of_ble_eq_true rfl), (Nat.le_of_ble_eq_true rfl)⟩ rfl (s0) (Nat.le_of_ble_eq_true rfl) (c_loseOwner hsto2 (hcs2 t ht) (by omega) hD hB hO hR) (fun v h38 hq38 => ?_)
  refine ev_pc (pc' := 41) rfl ?_
  obtain ⟨rfl, hs3, o3⟩ := hq38
  have hc3 := (hcs2 t ht).go o3 (by omega)
  obtain ⟨_, _, _, _, _, ⟨d0, -, -, -, -, -⟩, -⟩ := id hc3
  refine ev_aload_n dX6_drop_41 rfl rfl ?_
  refine ev_callVU0 dX6_drop_42 cal_X1_clear lk_6_58 ⟨(Nat.le_of_ble_eq_true rfl), (Nat.le_of_ble_eq_true rfl)⟩ rfl (d0) (Nat.le_of_ble_eq_true rfl) (c_Cut_clear hc3) (fun v h42 hq42 => ?_)
  refine ev_pc (pc' := 45) rfl ?_
  obtain ⟨rfl, hc4, o4⟩ := hq42
  refine ev_iload_n dX6_drop_45 rfl rfl ?_
  refine ev_ireturn dX6_drop_46 rfl (Or.inl rfl) (Nat.zero_le _) (Nat.zero_le _) ?_
  refine ⟨_, rfl, rfl, ⟨(o4 0 (by omega)).trans ((o3 0 (by omega)).trans a2), ⟨(o4 1 (by omega)).trans ((o3 1 (by omega)).trans t02), ⟨f2, (o4 2 (by omega)).trans ((o3 2 (by omega)).trans t12), t22⟩, fun q hq => ?_, hs3.go o4 (by omega), (hset2.go o3 (by omega)).go o4 (by omega)⟩, (hH2.go o3 (by omega)).go o4 (by omega), (hBf2.go o3 (by omega)).go o4 (by omega), (hW2.go o3 (by omega)).go o4 (by omega)⟩, ((o2.up (by omega) (by omega)).tr (o3.up (by omega) (by omega))).tr (o4.up (by omega) (by omega))⟩
  by_cases z : q = t
  · rw [z, show tC (clrT (aT A) t) t = rawK 0 (fun _ => 0) from if_pos rfl]; exact hc4
  · rw [show tC (clrT (aT A) t) q = tC (aT A) q from if_neg z]; exact ((hcs2 q hq).go o3 (by omega)).go o4 (by omega)
set_option maxHeartbeats 4000000 in
set_option maxRecDepth 100000 in
theorem x_set {X : mX} {h : mH} (t u : Int32) (ht : inX t 0 5 = false) : CnX X m_X6_set [.ref 0, .int t, .int u] h 0 (fun h1 => h1 = h) := by
  refine cn_of_ev (L0 := [_, _, _, _]) (by decide +kernel) rfl rfl (Nat.le_of_ble_eq_true rfl) rfl ?_
  refine ev_iload_n dX6_set_0 rfl rfl ?_
  refine ev_callSX1 dX6_set_1 cal_X6_requireSetting lk_6_127 ⟨(Nat.le_of_ble_eq_true rfl), (Nat.le_of_ble_eq_true rfl)⟩ rfl (Nat.le_of_ble_eq_true rfl) (x_requireSetting t ht) (fun h1 hq1 => ?_)
  exact ⟨rfl, hq1⟩
set_option maxHeartbeats 4000000 in
set_option maxRecDepth 100000 in
theorem x_set2 {X : mX} {h : mH} (hro : RO X) (k : Nat) (u : Int32) (hk : k < 5) (hu : inX u (lowF k) (higF k + 1) = false) : CnX X m_X6_set [.ref 0, .int (nI k), .int u] h 1 (fun h1 => h1 = h) := by
  refine cn_of_ev (L0 := [_, _, _, _]) (by decide +kernel) rfl rfl (Nat.le_of_ble_eq_true rfl) rfl ?_
  refine ev_iload_n dX6_set_0 rfl rfl ?_
  refine ev_callSP1 dX6_set_1 cal_X6_requireSetting lk_6_127 ⟨(Nat.le_of_ble_eq_true rfl), (Nat.le_of_ble_eq_true rfl)⟩ rfl (Nat.le_of_ble_eq_true rfl) (c_requireSetting k hk) ?_
  refine ev_iload_n dX6_set_4 rfl rfl ?_
  refine ev_iload_n dX6_set_5 rfl rfl ?_
  refine ev_callSX2 dX6_set_6 cal_X6_requireValue lk_6_130 ⟨(Nat.le_of_ble_eq_true rfl), (Nat.le_of_ble_eq_true rfl)⟩ rfl (Nat.le_of_ble_eq_true rfl) (x_requireValue hro k u hk hu) (fun h6 hq6 => ?_)
  exact ⟨rfl, hq6⟩
set_option maxHeartbeats 4000000 in
set_option maxRecDepth 100000 in
theorem c_set {X : mX} {h : mH} {A : mAs} (hA : ClsN h A) (hro : RO X) (k x : Nat) (hk : k < 5) (h1 : lowF k ≤ x) (h2 : x ≤ higF k) : CnU X m_X6_set [.ref 0, .int (nI k), .int (nI x)] h (fun v h1 => v = some (.int (nI (tV (aT A) k))) ∧ ClsN h1 (setT (aT A) k x, hisA A, (aB A, aD A)) ∧ Out h h1 0 270) := by
  obtain ⟨a0, hT, hH, hBf, hW⟩ := id hA
  obtain ⟨t0, ⟨f, t1, t2⟩, hcs, hsto, hset⟩ := id hT
  obtain ⟨m0, hm6, -⟩ := id hH
  obtain ⟨⟨b0, bf, b1, hbf⟩, hb60, hbd⟩ := id hBf
  obtain ⟨⟨s0, w, s1, hw⟩, -⟩ := id hset
  refine cn_of_ev (L0 := [_, _, _, _]) (by decide +kernel) rfl rfl (Nat.le_of_ble_eq_true rfl) rfl ?_
  refine ev_iload_n dX6_set_0 rfl rfl ?_
  refine ev_callSP1 dX6_set_1 cal_X6_requireSetting lk_6_127 ⟨(Nat.le_of_ble_eq_true rfl), (Nat.le_of_ble_eq_true rfl)⟩ rfl (Nat.le_of_ble_eq_true rfl) (c_requireSetting k hk) ?_
  refine ev_iload_n dX6_set_4 rfl rfl ?_
  refine ev_iload_n dX6_set_5 rfl rfl ?_
  refine ev_callSP2 dX6_set_6 cal_X6_requireValue lk_6_130 ⟨(Nat.le_of_ble_eq_true rfl), (Nat.le_of_ble_eq_true rfl)⟩ rfl (Nat.le_of_ble_eq_true rfl) (c_requireValue hro k x hk h1 h2) ?_
  refine ev_aload_n dX6_set_9 rfl rfl ?_
  first | refine ev_getfield dX6_set_10 lf_6_10 (a0) rfl ?_ | refine ev_getfield dX6_set_10 lf_6_10 (t0) rfl ?_ | refine ev_getfield dX6_set_10 lf_6_10 (m0) rfl ?_ | refine ev_getfield dX6_set_10 lf_6_10 (s0) rfl ?_ | refine ev_getfield dX6_set_10 lf_6_10 (s1) rfl ?_
  first | refine ev_getfield dX6_set_13 lf_6_134 (a0) rfl ?_ | refine ev_getfield dX6_set_13 lf_6_134 (t0) rfl ?_ | refine ev_getfield dX6_set_13 lf_6_134 (m0) rfl ?_ | refine ev_getfield dX6_set_13 lf_6_134 (s0) rfl ?_ | refine ev_getfield dX6_set_13 lf_6_134 (s1) rfl ?_
  first | refine ev_getfield dX6_set_16 lf_6_137 (a0) rfl ?_ | refine ev_getfield dX6_set_16 lf_6_137 (t0) rfl ?_ | refine ev_getfield dX6_set_16 lf_6_137 (m0) rfl ?_ | refine ev_getfield dX6_set_16 lf_6_137 (s0) rfl ?_ | refine ev_getfield dX6_set_16 lf_6_137 (s1) rfl ?_
  refine ev_iload_n dX6_set_19 rfl rfl ?_
  first | refine ev_ialoadF dX6_set_20 (a0) (by omega) (by decide) ?_ | refine ev_ialoadF dX6_set_20 (t0) (by omega) (by decide) ?_ | refine ev_ialoadF dX6_set_20 (m0) (by omega) (by decide) ?_ | refine ev_ialoadF dX6_set_20 (s0) (by omega) (by decide) ?_ | refine ev_ialoadF dX6_set_20 (s1) (by omega) (by decide) ?_
  rw [hw k hk]
  refine ev_istore_n (L' := [_, _, _, _]) dX6_set_21 rfl (Nat.le_of_ble_eq_true rfl) rfl ?_
  refine ev_aload_n dX6_set_22 rfl rfl ?_
  first | refine ev_getfield dX6_set_23 lf_6_19 (a0) rfl ?_ | refine ev_getfield dX6_set_23 lf_6_19 (t0) rfl ?_ | refine ev_getfield dX6_set_23 lf_6_19 (m0) rfl ?_ | refine ev_getfield dX6_set_23 lf_6_19 (s0) rfl ?_ | refine ev_getfield dX6_set_23 lf_6_19 (s1) rfl ?_
  refine ev_aload_n dX6_set_26 rfl rfl ?_
  first | refine ev_getfield dX6_set_27 lf_6_10 (a0) rfl ?_ | refine ev_getfield dX6_set_27 lf_6_10 (t0) rfl ?_ | refine ev_getfield dX6_set_27 lf_6_10 (m0) rfl ?_ | refine ev_getfield dX6_set_27 lf_6_10 (s0) rfl ?_ | refine ev_getfield dX6_set_27 lf_6_10 (s1) rfl ?_
  first | refine ev_callVU1 dX6_set_30 cal_X2_push lk_6_110 ⟨(Nat.le_of_ble_eq_true rfl), (Nat.le_of_ble_eq_true rfl)⟩ rfl (a0) (Nat.le_of_ble_eq_true rfl) (c_push hH hT (by omega)) (fun v h30 hq30 => ?_) | refine ev_callVU1 dX6_set_30 cal_X2_push lk_6_110 ⟨(Nat.le_of_ble_eq_true rfl), (Nat.le_of_ble_eq_true rfl)⟩ rfl (t0) (Nat.le_of_ble_eq_true rfl) (c_push hH hT (by omega)) (fun v h30 hq30 => ?_) | refine ev_callVU1 dX6_set_30 cal_X2_push lk_6_110 ⟨(Nat.le_of_ble_eq_true rfl), (Nat.le_of_ble_eq_true rfl)⟩ rfl (m0) (Nat.le_of_ble_eq_true rfl) (c_push hH hT (by omega)) (fun v h30 hq30 => ?_) | refine ev_callVU1 dX6_set_30 cal_X2_push lk_6_110 ⟨(Nat.le_of_ble_eq_true rfl), (Nat.le_of_ble_eq_true rfl)⟩ rfl (s0) (Nat.le_of_ble_eq_true rfl) (c_push hH hT (by omega)) (fun v h30 hq30 => ?_) | refine ev_callVU1 dX6_set_30 cal_X2_push lk_6_110 ⟨(Nat.le_of_ble_eq_true rfl), (Nat.le_of_ble_eq_true rfl)⟩ rfl (s1) (Nat.le_of_ble_eq_true rfl) (c_push hH hT (by omega)) (fun v h30 hq30 => ?_)
  refine ev_pc (pc' := 33) rfl ?_
  obtain ⟨rfl, hH2, o2⟩ := hq30
  have a2 := (o2 0 (by omega)).trans a0
  have hT2 := hT.go o2 (by omega)
  have hBf2 := hBf.go o2 (by omega)
  have hW2 := hW.go o2 (by omega)
  obtain ⟨t02, ⟨f2, t12, t22⟩, hcs2, hsto2, hset2⟩ := id hT2
  obtain ⟨⟨s02, w2, s12, hw2⟩, -⟩ := id hset2
  refine ev_aload_n dX6_set_33 rfl rfl ?_
  first | refine ev_getfield dX6_set_34 lf_6_10 (a2) rfl ?_ | refine ev_getfield dX6_set_34 lf_6_10 (t02) rfl ?_ | refine ev_getfield dX6_set_34 lf_6_10 (s02) rfl ?_ | refine ev_getfield dX6_set_34 lf_6_10 (s12) rfl ?_
  first | refine ev_getfield dX6_set_37 lf_6_134 (a2) rfl ?_ | refine ev_getfield dX6_set_37 lf_6_134 (t02) rfl ?_ | refine ev_getfield dX6_set_37 lf_6_134 (s02) rfl ?_ | refine ev_getfield dX6_set_37 lf_6_134 (s12) rfl ?_
  first | refine ev_getfield dX6_set_40 lf_6_137 (a2) rfl ?_ | refine ev_getfield dX6_set_40 lf_6_137 (t02) rfl ?_ | refine ev_getfield dX6_set_40 lf_6_137 (s02) rfl ?_ | refine ev_getfield dX6_set_40 lf_6_137 (s12) rfl ?_
  refine ev_iload_n dX6_set_43 rfl rfl ?_
  refine ev_iload_n dX6_set_44 rfl rfl ?_
  first | refine ev_iastoreF dX6_set_45 (a2) (by omega) (by decide) ?_ | refine ev_iastoreF dX6_set_45 (t02) (by omega) (by decide) ?_ | refine ev_iastoreF dX6_set_45 (s02) (by omega) (by decide) ?_ | refine ev_iastoreF dX6_set_45 (s12) (by omega) (by decide) ?_
  refine ev_iload_n dX6_set_46 rfl rfl ?_
  refine ev_ireturn dX6_set_47 rfl (Or.inl rfl) (Nat.zero_le _) (Nat.zero_le _) ?_
  have o3 : Out h30 (mset h30 8 (aI 5 (nf (upN w2 k x)))) 8 1 := Out.set (by omega) (by omega)
  exact ⟨_, rfl, rfl, ⟨(o3 0 (by omega)).trans a2, ⟨(o3 1 (by omega)).trans t02, ⟨f2, (o3 2 (by omega)).trans t12, t22⟩, fun q hq => (hcs2 q hq).go o3 (by omega), hsto2.go o3 (by omega), hset2.up hk h1 h2 hw2 s02⟩, hH2.go o3 (by omega), hBf2.go o3 (by omega), hW2.go o3 (by omega)⟩, (o2.up (by omega) (by omega)).tr (o3.up (by omega) (by omega))⟩
