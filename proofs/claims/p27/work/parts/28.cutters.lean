def ChOK (T : mSt) (t : Nat) (K : mCt) : Prop := LosOK T t ∧ szS (tS T) ≤ 150 ∧ (∀ p, p < kN K → kR K p ≠ 0 ∧ kQ K p = rl (kR K p)) ∧ (okS T t K = true → ∀ p, p < kN K → slU (gtN (chgS T t K) K p) (kR K p) < 60 ∨ slU (gtN (chgS T t K) K p) 0 < 60)
/-- a class whose trial holds a text that is not cut -/
def TriN (h : mH) (A : mAs) (L : Nat) (s : Nat → Nat) : Prop := ClsN h A ∧ CutN h 261 (rawK L s) ∧ ∀ j, j < L → 1 ≤ s j
def chgA (A : mAs) (t L : Nat) (s : Nat → Nat) : mAs := (chgT (aT A) t (cutK (tV (aT A)) L s), hisA A, (aB A, aD A))
set_option maxHeartbeats 4000000 in
set_option maxRecDepth 100000 in
theorem c_changeToTrial {X : mX} {h : mH} {A : mAs} {L : Nat} {s : Nat → Nat} (hr : TriN h A L s) (t : Nat) (ht : t < 4) (hk : ChOK (aT A) t (cutK (tV (aT A)) L s)) (hok : okS (aT A) t (cutK (tV (aT A)) L s) = true) : CnU X m_X6_changeToTrial [.ref 0, .int (nI t)] h (fun v h1 => v = some (.int (nI (kN (cutK (tV (aT A)) L s)))) ∧ ClsN h1 (chgA A t L s) ∧ Out h h1 0 270) := by
  obtain ⟨hA, hc, h1⟩ := id hr
  obtain ⟨a0, hT, hH, hBf, hW⟩ := id hA
  obtain ⟨t0, ⟨f, t1, t2⟩, hcs, hsto, hset⟩ := id hT
  obtain ⟨m0, hm6, -⟩ := id hH
  obtain ⟨⟨b0, bf, b1, hbf⟩, hb60, hbd⟩ := id hBf
  obtain ⟨⟨hD, hB, hO, hR⟩, hz, hKK, hF⟩ := id hk
  obtain ⟨⟨T1, w1⟩, -, ⟨v1, w3⟩, f1, w4⟩ := id hW
  obtain ⟨_, _, _, _, _, ⟨c0, -, -, -, -, -⟩, -⟩ := id hc
  refine cn_of_ev (L0 := [_, _]) (by decide +kernel) rfl rfl (Nat.le_of_ble_eq_true rfl) rfl ?_
  refine ev_aload_n dX6_changeToTrial_0 rfl rfl ?_
  first | refine ev_getfield dX6_changeToTrial_1 lf_6_36 (a0) rfl ?_ | refine ev_getfield dX6_changeToTrial_1 lf_6_36 (t0) rfl ?_ | refine ev_getfield dX6_changeToTrial_1 lf_6_36 (c0) rfl ?_
  refine ev_aload_n dX6_changeToTrial_4 rfl rfl ?_
  first | refine ev_getfield dX6_changeToTrial_5 lf_6_10 (a0) rfl ?_ | refine ev_getfield dX6_changeToTrial_5 lf_6_10 (t0) rfl ?_ | refine ev_getfield dX6_changeToTrial_5 lf_6_10 (c0) rfl ?_
  first | refine ev_getfield dX6_changeToTrial_8 lf_6_134 (a0) rfl ?_ | refine ev_getfield dX6_changeToTrial_8 lf_6_134 (t0) rfl ?_ | refine ev_getfield dX6_changeToTrial_8 lf_6_134 (c0) rfl ?_
  first | refine ev_callVU1 dX6_changeToTrial_11 cal_X1_cutBy lk_6_268 ⟨(Nat.le_of_ble_eq_true rfl), (Nat.le_of_ble_eq_true rfl)⟩ rfl (a0) (Nat.le_of_ble_eq_true rfl) (c_cutBy hc hset (by omega) h1) (fun v h11 hq11 => ?_) | refine ev_callVU1 dX6_changeToTrial_11 cal_X1_cutBy lk_6_268 ⟨(Nat.le_of_ble_eq_true rfl), (Nat.le_of_ble_eq_true rfl)⟩ rfl (t0) (Nat.le_of_ble_eq_true rfl) (c_cutBy hc hset (by omega) h1) (fun v h11 hq11 => ?_) | refine ev_callVU1 dX6_changeToTrial_11 cal_X1_cutBy lk_6_268 ⟨(Nat.le_of_ble_eq_true rfl), (Nat.le_of_ble_eq_true rfl)⟩ rfl (c0) (Nat.le_of_ble_eq_true rfl) (c_cutBy hc hset (by omega) h1) (fun v h11 hq11 => ?_)
  refine ev_pc (pc' := 14) rfl ?_
  obtain ⟨rfl, hc2, o2⟩ := hq11
  have a2 := (o2 0 (by omega)).trans a0
  have hT2 := hT.go o2 (by omega)
  have w12 := w1.go o2 (by omega)
  obtain ⟨n0, -⟩ := id w12
  refine ev_aload_n dX6_changeToTrial_14 rfl rfl ?_
  first | refine ev_getfield dX6_changeToTrial_15 lf_6_30 (a2) rfl ?_ | refine ev_getfield dX6_changeToTrial_15 lf_6_30 (n0) rfl ?_
  refine ev_aload_n dX6_changeToTrial_18 rfl rfl ?_
  first | refine ev_getfield dX6_changeToTrial_19 lf_6_10 (a2) rfl ?_ | refine ev_getfield dX6_changeToTrial_19 lf_6_10 (n0) rfl ?_
  refine ev_iload_n dX6_changeToTrial_22 rfl rfl ?_
  refine ev_aload_n dX6_changeToTrial_23 rfl rfl ?_
  first | refine ev_getfield dX6_changeToTrial_24 lf_6_36 (a2) rfl ?_ | refine ev_getfield dX6_changeToTrial_24 lf_6_36 (n0) rfl ?_
  first | refine ev_callVU3 dX6_changeToTrial_27 cal_X4_becomeChanged lk_6_278 ⟨(Nat.le_of_ble_eq_true rfl), (Nat.le_of_ble_eq_true rfl)⟩ rfl (a2) (Nat.le_of_ble_eq_true rfl) (c_becomeChanged hT2 w12 hc2 (by omega) (by omega) ht hD hB hO hR hz hKK hF) (fun v h27 hq27 => ?_) | refine ev_callVU3 dX6_changeToTrial_27 cal_X4_becomeChanged lk_6_278 ⟨(Nat.le_of_ble_eq_true rfl), (Nat.le_of_ble_eq_true rfl)⟩ rfl (n0) (Nat.le_of_ble_eq_true rfl) (c_becomeChanged hT2 w12 hc2 (by omega) (by omega) ht hD hB hO hR hz hKK hF) (fun v h27 hq27 => ?_)
  refine ev_pc (pc' := 30) rfl ?_
  obtain ⟨rfl, hy, ⟨T3, hT3⟩, o3⟩ := hq27
  have a3 := (o3 0 (by omega)).trans a2
  have hT23 := hT2.go o3 (by omega)
  have hc3 := hc2.go o3 (by omega)
  have hH3 := (hH.go o2 (by omega)).go o3 (by omega)
  have hB3 := (hBf.go o2 (by omega)).go o3 (by omega)
  obtain ⟨m3, hm3, -⟩ := id hH3
  refine ev_if_neB 44 dX6_changeToTrial_30 rfl (fun hc30 => ?_) (fun hc30 => ?_)
  · refine ev_pc (pc' := 44) rfl ?_
    refine ev_aload_n dX6_changeToTrial_44 rfl rfl ?_
    first | refine ev_getfield dX6_changeToTrial_45 lf_6_19 (a3) rfl ?_ | refine ev_getfield dX6_changeToTrial_45 lf_6_19 (m3) rfl ?_
    refine ev_aload_n dX6_changeToTrial_48 rfl rfl ?_
    first | refine ev_getfield dX6_changeToTrial_49 lf_6_10 (a3) rfl ?_ | refine ev_getfield dX6_changeToTrial_49 lf_6_10 (m3) rfl ?_
    first | refine ev_callVU1 dX6_changeToTrial_52 cal_X2_push lk_6_110 ⟨(Nat.le_of_ble_eq_true rfl), (Nat.le_of_ble_eq_true rfl)⟩ rfl (a3) (Nat.le_of_ble_eq_true rfl) (c_push hH3 hT23 (by omega)) (fun v h52 hq52 => ?_) | refine ev_callVU1 dX6_changeToTrial_52 cal_X2_push lk_6_110 ⟨(Nat.le_of_ble_eq_true rfl), (Nat.le_of_ble_eq_true rfl)⟩ rfl (m3) (Nat.le_of_ble_eq_true rfl) (c_push hH3 hT23 (by omega)) (fun v h52 hq52 => ?_)
    refine ev_pc (pc' := 55) rfl ?_
    obtain ⟨rfl, hH4, o4⟩ := hq52
    have a4 := (o4 0 (by omega)).trans a3
    have hT4 := hT23.go o4 (by omega)
    have hN4 := (hy hok).go o4 (by omega)
    have hc4 := hc3.go o4 (by omega)
    obtain ⟨t04, -⟩ := id hT4
    refine ev_aload_n dX6_changeToTrial_55 rfl rfl ?_
    first | refine ev_getfield dX6_changeToTrial_56 lf_6_10 (a4) rfl ?_ | refine ev_getfield dX6_changeToTrial_56 lf_6_10 (t04) rfl ?_
    refine ev_aload_n dX6_changeToTrial_59 rfl rfl ?_
    first | refine ev_getfield dX6_changeToTrial_60 lf_6_30 (a4) rfl ?_ | refine ev_getfield dX6_changeToTrial_60 lf_6_30 (t04) rfl ?_
    first | refine ev_callVU1 dX6_changeToTrial_63 cal_X4_become lk_6_339 ⟨(Nat.le_of_ble_eq_true rfl), (Nat.le_of_ble_eq_true rfl)⟩ rfl (a4) (Nat.le_of_ble_eq_true rfl) (c_St_become hN4 hT4 (by omega)) (fun v h63 hq63 => ?_) | refine ev_callVU1 dX6_changeToTrial_63 cal_X4_become lk_6_339 ⟨(Nat.le_of_ble_eq_true rfl), (Nat.le_of_ble_eq_true rfl)⟩ rfl (t04) (Nat.le_of_ble_eq_true rfl) (c_St_become hN4 hT4 (by omega)) (fun v h63 hq63 => ?_)
    refine ev_pc (pc' := 66) rfl ?_
    obtain ⟨rfl, hT5, o5⟩ := hq63
    have a5 := (o5 0 (by omega)).trans a4
    have hc5 := hc4.go o5 (by omega)
    obtain ⟨_, _, _, _, _, ⟨c05, -, -, -, -, -⟩, -⟩ := id hc5
    refine ev_aload_n dX6_changeToTrial_66 rfl rfl ?_
    first | refine ev_getfield dX6_changeToTrial_67 lf_6_36 (a5) rfl ?_ | refine ev_getfield dX6_changeToTrial_67 lf_6_36 (c05) rfl ?_
    first | refine ev_getfield dX6_changeToTrial_70 lf_6_178 (a5) rfl ?_ | refine ev_getfield dX6_changeToTrial_70 lf_6_178 (c05) rfl ?_
    refine ev_ireturn dX6_changeToTrial_73 rfl (Or.inl rfl) (Nat.zero_le _) (Nat.zero_le _) ?_
    refine ⟨_, rfl, rfl, ⟨a5, hT5, hH4.go o5 (by omega), (hB3.go o4 (by omega)).go o5 (by omega), ⟨_, hN4.go o5 (by omega)⟩, ⟨_, hc5⟩, ⟨v1, (((w3.go o2 (by omega)).go o3 (by omega)).go o4 (by omega)).go o5 (by omega)⟩, f1, (o5 269 (by omega)).trans ((o4 269 (by omega)).trans ((o3 269 (by omega)).trans ((o2 269 (by omega)).trans w4)))⟩, (((o2.up (by omega) (by omega)).tr (o3.up (by omega) (by omega))).tr (o4.up (by omega) (by omega))).tr (o5.up (by omega) (by omega))⟩
  · refine ev_pc (pc' := 33) rfl ?_
    exact absurd hok (by rw [hc30]; decide)
set_option maxHeartbeats 4000000 in
set_option maxRecDepth 100000 in
theorem x_changeToTrial {X : mX} {h : mH} {A : mAs} {L : Nat} {s : Nat → Nat} (hr : TriN h A L s) (t : Nat) (ht : t < 4) (hk : ChOK (aT A) t (cutK (tV (aT A)) L s)) (hok : okS (aT A) t (cutK (tV (aT A)) L s) = false) : CnX X m_X6_changeToTrial [.ref 0, .int (nI t)] h 2 (fun h1 => ClsN h1 A ∧ Out h h1 0 270) := by
  obtain ⟨hA, hc, h1⟩ := id hr
  obtain ⟨a0, hT, hH, hBf, hW⟩ := id hA
  obtain ⟨t0, ⟨f, t1, t2⟩, hcs, hsto, hset⟩ := id hT
  obtain ⟨m0, hm6, -⟩ := id hH
  obtain ⟨⟨b0, bf, b1, hbf⟩, hb60, hbd⟩ := id hBf
  obtain ⟨⟨hD, hB, hO, hR⟩, hz, hKK, hF⟩ := id hk
  obtain ⟨⟨T1, w1⟩, -, ⟨v1, w3⟩, f1, w4⟩ := id hW
  obtain ⟨_, _, _, _, _, ⟨c0, -, -, -, -, -⟩, -⟩ := id hc
  refine cn_of_ev (L0 := [_, _]) (by decide +kernel) rfl rfl (Nat.le_of_ble_eq_true rfl) rfl ?_
  refine ev_aload_n dX6_changeToTrial_0 rfl rfl ?_
  first | refine ev_getfield dX6_changeToTrial_1 lf_6_36 (a0) rfl ?_ | refine ev_getfield dX6_changeToTrial_1 lf_6_36 (t0) rfl ?_ | refine ev_getfield dX6_changeToTrial_1 lf_6_36 (c0) rfl ?_
  refine ev_aload_n dX6_changeToTrial_4 rfl rfl ?_
  first | refine ev_getfield dX6_changeToTrial_5 lf_6_10 (a0) rfl ?_ | refine ev_getfield dX6_changeToTrial_5 lf_6_10 (t0) rfl ?_ | refine ev_getfield dX6_changeToTrial_5 lf_6_10 (c0) rfl ?_
  first | refine ev_getfield dX6_changeToTrial_8 lf_6_134 (a0) rfl ?_ | refine ev_getfield dX6_changeToTrial_8 lf_6_134 (t0) rfl ?_ | refine ev_getfield dX6_changeToTrial_8 lf_6_134 (c0) rfl ?_
  first | refine ev_callVU1 dX6_changeToTrial_11 cal_X1_cutBy lk_6_268 ⟨(Nat.le_of_ble_eq_true rfl), (Nat.le_of_ble_eq_true rfl)⟩ rfl (a0) (Nat.le_of_ble_eq_true rfl) (c_cutBy hc hset (by omega) h1) (fun v h11 hq11 => ?_) | refine ev_callVU1 dX6_changeToTrial_11 cal_X1_cutBy lk_6_268 ⟨(Nat.le_of_ble_eq_true rfl), (Nat.le_of_ble_eq_true rfl)⟩ rfl (t0) (Nat.le_of_ble_eq_true rfl) (c_cutBy hc hset (by omega) h1) (fun v h11 hq11 => ?_) | refine ev_callVU1 dX6_changeToTrial_11 cal_X1_cutBy lk_6_268 ⟨(Nat.le_of_ble_eq_true rfl), (Nat.le_of_ble_eq_true rfl)⟩ rfl (c0) (Nat.le_of_ble_eq_true rfl) (c_cutBy hc hset (by omega) h1) (fun v h11 hq11 => ?_)
  refine ev_pc (pc' := 14) rfl ?_
  obtain ⟨rfl, hc2, o2⟩ := hq11
  have a2 := (o2 0 (by omega)).trans a0
  have hT2 := hT.go o2 (by omega)
  have w12 := w1.go o2 (by omega)
  obtain ⟨n0, -⟩ := id w12
  refine ev_aload_n dX6_changeToTrial_14 rfl rfl ?_
  first | refine ev_getfield dX6_changeToTrial_15 lf_6_30 (a2) rfl ?_ | refine ev_getfield dX6_changeToTrial_15 lf_6_30 (n0) rfl ?_
  refine ev_aload_n dX6_changeToTrial_18 rfl rfl ?_
  first | refine ev_getfield dX6_changeToTrial_19 lf_6_10 (a2) rfl ?_ | refine ev_getfield dX6_changeToTrial_19 lf_6_10 (n0) rfl ?_
  refine ev_iload_n dX6_changeToTrial_22 rfl rfl ?_
  refine ev_aload_n dX6_changeToTrial_23 rfl rfl ?_
  first | refine ev_getfield dX6_changeToTrial_24 lf_6_36 (a2) rfl ?_ | refine ev_getfield dX6_changeToTrial_24 lf_6_36 (n0) rfl ?_
  first | refine ev_callVU3 dX6_changeToTrial_27 cal_X4_becomeChanged lk_6_278 ⟨(Nat.le_of_ble_eq_true rfl), (Nat.le_of_ble_eq_true rfl)⟩ rfl (a2) (Nat.le_of_ble_eq_true rfl) (c_becomeChanged hT2 w12 hc2 (by omega) (by omega) ht hD hB hO hR hz hKK hF) (fun v h27 hq27 => ?_) | refine ev_callVU3 dX6_changeToTrial_27 cal_X4_becomeChanged lk_6_278 ⟨(Nat.le_of_ble_eq_true rfl), (Nat.le_of_ble_eq_true rfl)⟩ rfl (n0) (Nat.le_of_ble_eq_true rfl) (c_becomeChanged hT2 w12 hc2 (by omega) (by omega) ht hD hB hO hR hz hKK hF) (fun v h27 hq27 => ?_)
  refine ev_pc (pc' := 30) rfl ?_
  obtain ⟨rfl, hy, ⟨T3, hT3⟩, o3⟩ := hq27
  have a3 := (o3 0 (by omega)).trans a2
  have hT23 := hT2.go o3 (by omega)
  have hc3 := hc2.go o3 (by omega)
  have hH3 := (hH.go o2 (by omega)).go o3 (by omega)
  have hB3 := (hBf.go o2 (by omega)).go o3 (by omega)
  obtain ⟨m3, hm3, -⟩ := id hH3
  refine ev_if_neB 44 dX6_changeToTrial_30 rfl (fun hc30 => ?_) (fun hc30 => ?_)
  · refine ev_pc (pc' := 44) rfl ?_
    exact absurd hok (by rw [hc30]; decide)
  · refine ev_throwSW (M' := m_X6_changeToTrial) (f1 := none) (mc1 := 0) (ms1 := 0) (Q1 := fun _ _ => True) 2 "the store has not enough slots or room" (by decide) rfl (by decide) rfl (by decide) (Nat.le_of_ble_eq_true rfl) dX6_changeToTrial_33 dX6_changeToTrial_36 dX6_changeToTrial_37 dX6_changeToTrial_40 dX6_changeToTrial_43 (Nat.le_refl _) (Nat.le_refl _) ?_
    exact ⟨rfl, ⟨a3, hT23, hH3, hB3, ⟨T3, hT3⟩, ⟨_, hc3⟩, ⟨v1, (w3.go o2 (by omega)).go o3 (by omega)⟩, f1, (o3 269 (by omega)).trans ((o2 269 (by omega)).trans w4)⟩, (o2.up (by omega) (by omega)).tr (o3.up (by omega) (by omega))⟩
theorem Tri.clear {h h1 : mH} {A : mAs} {n : Nat} {s : Nat → Nat} (hA : ClsN h A) (o : Out h h1 261 6) (hc : CutN h1 261 (rawK n s)) : ClsN h1 A := by
  obtain ⟨a0, hT, hH, hBf, ⟨T1, w1⟩, -, ⟨v1, w3⟩, f1, w4⟩ := id hA
  exact ⟨(o 0 (by omega)).trans a0, hT.go o (by omega), hH.go o (by omega), hBf.go o (by omega), ⟨T1, w1.go o (by omega)⟩, ⟨_, hc⟩, ⟨v1, w3.go o (by omega)⟩, f1, (o 269 (by omega)).trans w4⟩
set_option maxHeartbeats 4000000 in
set_option maxRecDepth 100000 in
theorem x_put {X : mX} {h : mH} (t : Int32) (ht : inX t 0 4 = false) : CnX X m_X6_put [.ref 0, .int t] h 0 (fun h1 => h1 = h) := by
  refine cn_of_ev (L0 := [_, _, _]) (by decide +kernel) rfl rfl (Nat.le_of_ble_eq_true rfl) rfl ?_
  refine ev_iload_n dX6_put_0 rfl rfl ?_
  refine ev_callSX1 dX6_put_1 cal_X6_requireText lk_6_51 ⟨(Nat.le_of_ble_eq_true rfl), (Nat.le_of_ble_eq_true rfl)⟩ rfl (Nat.le_of_ble_eq_true rfl) (x_requireText t ht) (fun h1 hq1 => ?_)
  exact ⟨rfl, hq1⟩
set_option maxHeartbeats 4000000 in
set_option maxRecDepth 100000 in
theorem x_put2 {X : mX} {h : mH} {A : mAs} (hA : ClsN h A) (t : Nat) (ht : t < 4) (hw : whol (aD A) (aB A) = false) : CnX X m_X6_put [.ref 0, .int (nI t)] h 1 (fun h1 => h1 = h) := by
  obtain ⟨a0, hT, hH, hBf, hW⟩ := id hA
  obtain ⟨t0, ⟨f, t1, t2⟩, hcs, hsto, hset⟩ := id hT
  obtain ⟨m0, hm6, -⟩ := id hH
  obtain ⟨⟨b0, bf, b1, hbf⟩, hb60, hbd⟩ := id hBf
  refine cn_of_ev (L0 := [_, _, _]) (by decide +kernel) rfl rfl (Nat.le_of_ble_eq_true rfl) rfl ?_
  refine ev_iload_n dX6_put_0 rfl rfl ?_
  refine ev_callSP1 dX6_put_1 cal_X6_requireText lk_6_51 ⟨(Nat.le_of_ble_eq_true rfl), (Nat.le_of_ble_eq_true rfl)⟩ rfl (Nat.le_of_ble_eq_true rfl) (c_requireText t ht) ?_
  refine ev_aload_n dX6_put_4 rfl rfl ?_
  refine ev_callVX0 dX6_put_5 cal_X6_requireCompleteBuffer lk_6_55 ⟨(Nat.le_of_ble_eq_true rfl), (Nat.le_of_ble_eq_true rfl)⟩ rfl (a0) (Nat.le_of_ble_eq_true rfl) (x_requireCompleteBuffer hA hw) (fun h5 hq5 => ?_)
  exact ⟨rfl, hq5⟩
set_option maxHeartbeats 4000000 in
set_option maxRecDepth 100000 in
theorem c_put {X : mX} {h : mH} {A : mAs} (hA : ClsN h A) (hw : whol (aD A) (aB A) = true) (h40 : smN (addN (aD A)) (aB A) ≤ 40) (h1 : ∀ j, j < smN (addN (aD A)) (aB A) → 1 ≤ tlN (aD A) (aB A) j) (t : Nat) (ht : t < 4) (hk : ChOK (aT A) t (cutK (tV (aT A)) (smN (addN (aD A)) (aB A)) (tlN (aD A) (aB A)))) (hok : okS (aT A) t (cutK (tV (aT A)) (smN (addN (aD A)) (aB A)) (tlN (aD A) (aB A))) = true) : CnU X m_X6_put [.ref 0, .int (nI t)] h (fun v h1 => v = some (.int (nI (kN (cutK (tV (aT A)) (smN (addN (aD A)) (aB A)) (tlN (aD A) (aB A)))))) ∧ ClsN h1 ((chgA A t (smN (addN (aD A)) (aB A)) (tlN (aD A) (aB A))).1, (chgA A t (smN (addN (aD A)) (aB A)) (tlN (aD A) (aB A))).2.1, (0, aD A)) ∧ Out h h1 0 270) := by
  obtain ⟨a0, hT, hH, hBf, hW⟩ := id hA
  obtain ⟨t0, ⟨f, t1, t2⟩, hcs, hsto, hset⟩ := id hT
  obtain ⟨m0, hm6, -⟩ := id hH
  obtain ⟨⟨b0, bf, b1, hbf⟩, hb60, hbd⟩ := id hBf
  obtain ⟨-, ⟨K1, wc⟩, -, -⟩ := id hW
  obtain ⟨_, _, _, _, _, ⟨c0, -, -, -, -, -⟩, -⟩ := id wc
  refine cn_of_ev (L0 := [_, _, _]) (by decide +kernel) rfl rfl (Nat.le_of_ble_eq_true rfl) rfl ?_
  refine ev_iload_n dX6_put_0 rfl rfl ?_
  refine ev_callSP1 dX6_put_1 cal_X6_requireText lk_6_51 ⟨(Nat.le_of_ble_eq_true rfl), (Nat.le_of_ble_eq_true rfl)⟩ rfl (Nat.le_of_ble_eq_true rfl) (c_requireText t ht) ?_
  refine ev_aload_n dX6_put_4 rfl rfl ?_
  first | refine ev_callVP0 dX6_put_5 cal_X6_requireCompleteBuffer lk_6_55 ⟨(Nat.le_of_ble_eq_true rfl), (Nat.le_of_ble_eq_true rfl)⟩ rfl (a0) (Nat.le_of_ble_eq_true rfl) (c_requireCompleteBuffer hA hw) ?_ | refine ev_callVP0 dX6_put_5 cal_X6_requireCompleteBuffer lk_6_55 ⟨(Nat.le_of_ble_eq_true rfl), (Nat.le_of_ble_eq_true rfl)⟩ rfl (c0) (Nat.le_of_ble_eq_true rfl) (c_requireCompleteBuffer hA hw) ?_
  refine ev_aload_n dX6_put_8 rfl rfl ?_
  first | refine ev_getfield dX6_put_9 lf_6_36 (a0) rfl ?_ | refine ev_getfield dX6_put_9 lf_6_36 (c0) rfl ?_
  first | refine ev_callVU0 dX6_put_12 cal_X1_clear lk_6_58 ⟨(Nat.le_of_ble_eq_true rfl), (Nat.le_of_ble_eq_true rfl)⟩ rfl (a0) (Nat.le_of_ble_eq_true rfl) (c_Cut_clear wc) (fun v h12 hq12 => ?_) | refine ev_callVU0 dX6_put_12 cal_X1_clear lk_6_58 ⟨(Nat.le_of_ble_eq_true rfl), (Nat.le_of_ble_eq_true rfl)⟩ rfl (c0) (Nat.le_of_ble_eq_true rfl) (c_Cut_clear wc) (fun v h12 hq12 => ?_)
  refine ev_pc (pc' := 15) rfl ?_
  obtain ⟨rfl, hc2, o2⟩ := hq12
  have a2 := (o2 0 (by omega)).trans a0
  have hB2 := hBf.go o2 (by omega)
  obtain ⟨⟨b02, -⟩, -⟩ := id hB2
  refine ev_aload_n dX6_put_15 rfl rfl ?_
  first | refine ev_getfield dX6_put_16 lf_6_26 (a2) rfl ?_ | refine ev_getfield dX6_put_16 lf_6_26 (b02) rfl ?_
  refine ev_aload_n dX6_put_19 rfl rfl ?_
  first | refine ev_getfield dX6_put_20 lf_6_36 (a2) rfl ?_ | refine ev_getfield dX6_put_20 lf_6_36 (b02) rfl ?_
  first | refine ev_callVU1 dX6_put_23 cal_X0_readInto lk_6_61 ⟨(Nat.le_of_ble_eq_true rfl), (Nat.le_of_ble_eq_true rfl)⟩ rfl (a2) (Nat.le_of_ble_eq_true rfl) (c_readInto hB2 hc2 (by omega) (by rw [Nat.zero_add]; exact h40)) (fun v h23 hq23 => ?_) | refine ev_callVU1 dX6_put_23 cal_X0_readInto lk_6_61 ⟨(Nat.le_of_ble_eq_true rfl), (Nat.le_of_ble_eq_true rfl)⟩ rfl (b02) (Nat.le_of_ble_eq_true rfl) (c_readInto hB2 hc2 (by omega) (by rw [Nat.zero_add]; exact h40)) (fun v h23 hq23 => ?_)
  refine ev_pc (pc' := 26) rfl ?_
  obtain ⟨rfl, hc3, o3⟩ := hq23
  have ho := o2.tr o3
  have hc4 : CutN h23 261 (rawK (smN (addN (aD A)) (aB A)) (tlN (aD A) (aB A))) := by
    rw [Nat.zero_add] at hc3
    exact hc3.ext (fun j hj => by rw [catF_ge (Nat.zero_le _), Nat.sub_zero])
  have hA3 : ClsN h23 A := Tri.clear hA ho hc4
  have aa := hA3.1
  have hr : TriN h23 A (smN (addN (aD A)) (aB A)) (tlN (aD A) (aB A)) := ⟨hA3, hc4, h1⟩
  refine ev_aload_n dX6_put_26 rfl rfl ?_
  refine ev_iload_n dX6_put_27 rfl rfl ?_
  refine ev_callVU1 dX6_put_28 cal_X6_changeToTrial lk_6_65 ⟨(Nat.le_of_ble_eq_true rfl), (Nat.le_of_ble_eq_true rfl)⟩ rfl (aa) (Nat.le_of_ble_eq_true rfl) (c_changeToTrial hr t ht hk hok) (fun v h28 hq28 => ?_)
  refine ev_pc (pc' := 31) rfl ?_
  obtain ⟨rfl, hA2, oo⟩ := hq28
  have aa2 := hA2.1
  obtain ⟨e0, e1, e2, e3, e4⟩ := id hA2
  obtain ⟨⟨eb, -⟩, -⟩ := id e3
  refine ev_istore_n (L' := [_, _, _]) dX6_put_31 rfl (Nat.le_of_ble_eq_true rfl) rfl ?_
  refine ev_aload_n dX6_put_32 rfl rfl ?_
  first | refine ev_getfield dX6_put_33 lf_6_26 (aa2) rfl ?_ | refine ev_getfield dX6_put_33 lf_6_26 (eb) rfl ?_
  first | refine ev_callVU0 dX6_put_36 cal_X0_clear lk_6_69 ⟨(Nat.le_of_ble_eq_true rfl), (Nat.le_of_ble_eq_true rfl)⟩ rfl (aa2) (Nat.le_of_ble_eq_true rfl) (c_Buf_clear e3) (fun v h36 hq36 => ?_) | refine ev_callVU0 dX6_put_36 cal_X0_clear lk_6_69 ⟨(Nat.le_of_ble_eq_true rfl), (Nat.le_of_ble_eq_true rfl)⟩ rfl (eb) (Nat.le_of_ble_eq_true rfl) (c_Buf_clear e3) (fun v h36 hq36 => ?_)
  refine ev_pc (pc' := 39) rfl ?_
  obtain ⟨rfl, hb6, o6⟩ := hq36
  refine ev_iload_n dX6_put_39 rfl rfl ?_
  refine ev_ireturn dX6_put_40 rfl (Or.inl rfl) (Nat.zero_le _) (Nat.zero_le _) ?_
  exact ⟨_, rfl, rfl, ⟨(o6 0 (by omega)).trans aa2, e1.go o6 (by omega), e2.go o6 (by omega), hb6, e4.go o6 (by omega)⟩, ((ho.up (by omega) (by omega)).tr oo).tr (o6.up (by omega) (by omega))⟩
set_option maxHeartbeats 4000000 in
set_option maxRecDepth 100000 in
theorem x_put9 {X : mX} {h : mH} {A : mAs} (hA : ClsN h A) (hw : whol (aD A) (aB A) = true) (h40 : smN (addN (aD A)) (aB A) ≤ 40) (h1 : ∀ j, j < smN (addN (aD A)) (aB A) → 1 ≤ tlN (aD A) (aB A) j) (t : Nat) (ht : t < 4) (hk : ChOK (aT A) t (cutK (tV (aT A)) (smN (addN (aD A)) (aB A)) (tlN (aD A) (aB A)))) (hok : okS (aT A) t (cutK (tV (aT A)) (smN (addN (aD A)) (aB A)) (tlN (aD A) (aB A))) = false) : CnX X m_X6_put [.ref 0, .int (nI t)] h 2 (fun h1 => ClsN h1 A ∧ Out h h1 0 270) := by
  obtain ⟨a0, hT, hH, hBf, hW⟩ := id hA
  obtain ⟨t0, ⟨f, t1, t2⟩, hcs, hsto, hset⟩ := id hT
  obtain ⟨m0, hm6, -⟩ := id hH
  obtain ⟨⟨b0, bf, b1, hbf⟩, hb60, hbd⟩ := id hBf
  obtain ⟨-, ⟨K1, wc⟩, -, -⟩ := id hW
  obtain ⟨_, _, _, _, _, ⟨c0, -, -, -, -, -⟩, -⟩ := id wc
  refine cn_of_ev (L0 := [_, _, _]) (by decide +kernel) rfl rfl (Nat.le_of_ble_eq_true rfl) rfl ?_
  refine ev_iload_n dX6_put_0 rfl rfl ?_
  refine ev_callSP1 dX6_put_1 cal_X6_requireText lk_6_51 ⟨(Nat.le_of_ble_eq_true rfl), (Nat.le_of_ble_eq_true rfl)⟩ rfl (Nat.le_of_ble_eq_true rfl) (c_requireText t ht) ?_
  refine ev_aload_n dX6_put_4 rfl rfl ?_
  first | refine ev_callVP0 dX6_put_5 cal_X6_requireCompleteBuffer lk_6_55 ⟨(Nat.le_of_ble_eq_true rfl), (Nat.le_of_ble_eq_true rfl)⟩ rfl (a0) (Nat.le_of_ble_eq_true rfl) (c_requireCompleteBuffer hA hw) ?_ | refine ev_callVP0 dX6_put_5 cal_X6_requireCompleteBuffer lk_6_55 ⟨(Nat.le_of_ble_eq_true rfl), (Nat.le_of_ble_eq_true rfl)⟩ rfl (c0) (Nat.le_of_ble_eq_true rfl) (c_requireCompleteBuffer hA hw) ?_
  refine ev_aload_n dX6_put_8 rfl rfl ?_
  first | refine ev_getfield dX6_put_9 lf_6_36 (a0) rfl ?_ | refine ev_getfield dX6_put_9 lf_6_36 (c0) rfl ?_
  first | refine ev_callVU0 dX6_put_12 cal_X1_clear lk_6_58 ⟨(Nat.le_of_ble_eq_true rfl), (Nat.le_of_ble_eq_true rfl)⟩ rfl (a0) (Nat.le_of_ble_eq_true rfl) (c_Cut_clear wc) (fun v h12 hq12 => ?_) | refine ev_callVU0 dX6_put_12 cal_X1_clear lk_6_58 ⟨(Nat.le_of_ble_eq_true rfl), (Nat.le_of_ble_eq_true rfl)⟩ rfl (c0) (Nat.le_of_ble_eq_true rfl) (c_Cut_clear wc) (fun v h12 hq12 => ?_)
  refine ev_pc (pc' := 15) rfl ?_
  obtain ⟨rfl, hc2, o2⟩ := hq12
  have a2 := (o2 0 (by omega)).trans a0
  have hB2 := hBf.go o2 (by omega)
  obtain ⟨⟨b02, -⟩, -⟩ := id hB2
  refine ev_aload_n dX6_put_15 rfl rfl ?_
  first | refine ev_getfield dX6_put_16 lf_6_26 (a2) rfl ?_ | refine ev_getfield dX6_put_16 lf_6_26 (b02) rfl ?_
  refine ev_aload_n dX6_put_19 rfl rfl ?_
  first | refine ev_getfield dX6_put_20 lf_6_36 (a2) rfl ?_ | refine ev_getfield dX6_put_20 lf_6_36 (b02) rfl ?_
  first | refine ev_callVU1 dX6_put_23 cal_X0_readInto lk_6_61 ⟨(Nat.le_of_ble_eq_true rfl), (Nat.le_of_ble_eq_true rfl)⟩ rfl (a2) (Nat.le_of_ble_eq_true rfl) (c_readInto hB2 hc2 (by omega) (by rw [Nat.zero_add]; exact h40)) (fun v h23 hq23 => ?_) | refine ev_callVU1 dX6_put_23 cal_X0_readInto lk_6_61 ⟨(Nat.le_of_ble_eq_true rfl), (Nat.le_of_ble_eq_true rfl)⟩ rfl (b02) (Nat.le_of_ble_eq_true rfl) (c_readInto hB2 hc2 (by omega) (by rw [Nat.zero_add]; exact h40)) (fun v h23 hq23 => ?_)
  refine ev_pc (pc' := 26) rfl ?_
  obtain ⟨rfl, hc3, o3⟩ := hq23
  have ho := o2.tr o3
  have hc4 : CutN h23 261 (rawK (smN (addN (aD A)) (aB A)) (tlN (aD A) (aB A))) := by
    rw [Nat.zero_add] at hc3
    exact hc3.ext (fun j hj => by rw [catF_ge (Nat.zero_le _), Nat.sub_zero])
  have hA3 : ClsN h23 A := Tri.clear hA ho hc4
  have aa := hA3.1
  have hr : TriN h23 A (smN (addN (aD A)) (aB A)) (tlN (aD A) (aB A)) := ⟨hA3, hc4, h1⟩
  refine ev_aload_n dX6_put_26 rfl rfl ?_
  refine ev_iload_n dX6_put_27 rfl rfl ?_
  refine ev_callVX1 dX6_put_28 cal_X6_changeToTrial lk_6_65 ⟨(Nat.le_of_ble_eq_true rfl), (Nat.le_of_ble_eq_true rfl)⟩ rfl (aa) (Nat.le_of_ble_eq_true rfl) (x_changeToTrial hr t ht hk hok) (fun h28 hq28 => ?_)
  exact ⟨rfl, hq28.1, (ho.up (by omega) (by omega)).tr hq28.2⟩
set_option maxHeartbeats 4000000 in
set_option maxRecDepth 100000 in
theorem x_copy {X : mX} {h : mH} (t u : Int32) (ht : inX t 0 4 = false) : CnX X m_X6_copy [.ref 0, .int t, .int u] h 0 (fun h1 => h1 = h) := by
  refine cn_of_ev (L0 := [_, _, _]) (by decide +kernel) rfl rfl (Nat.le_of_ble_eq_true rfl) rfl ?_
  refine ev_iload_n dX6_copy_0 rfl rfl ?_
  refine ev_callSX1 dX6_copy_1 cal_X6_requireText lk_6_51 ⟨(Nat.le_of_ble_eq_true rfl), (Nat.le_of_ble_eq_true rfl)⟩ rfl (Nat.le_of_ble_eq_true rfl) (x_requireText t ht) (fun h1 hq1 => ?_)
  exact ⟨rfl, hq1⟩
set_option maxHeartbeats 4000000 in
set_option maxRecDepth 100000 in
theorem x_copy2 {X : mX} {h : mH} (t : Nat) (u : Int32) (ht : t < 4) (hu : inX u 0 4 = false) : CnX X m_X6_copy [.ref 0, .int (nI t), .int u] h 0 (fun h1 => h1 = h) := by
  refine cn_of_ev (L0 := [_, _, _]) (by decide +kernel) rfl rfl (Nat.le_of_ble_eq_true rfl) rfl ?_
  refine ev_iload_n dX6_copy_0 rfl rfl ?_
  refine ev_callSP1 dX6_copy_1 cal_X6_requireText lk_6_51 ⟨(Nat.le_of_ble_eq_true rfl), (Nat.le_of_ble_eq_true rfl)⟩ rfl (Nat.le_of_ble_eq_true rfl) (c_requireText t ht) ?_
  refine ev_iload_n dX6_copy_4 rfl rfl ?_
  refine ev_callSX1 dX6_copy_5 cal_X6_requireText lk_6_51 ⟨(Nat.le_of_ble_eq_true rfl), (Nat.le_of_ble_eq_true rfl)⟩ rfl (Nat.le_of_ble_eq_true rfl) (x_requireText u hu) (fun h5 hq5 => ?_)
  exact ⟨rfl, hq5⟩
set_option maxHeartbeats 4000000 in
set_option maxRecDepth 100000 in
theorem c_copy {X : mX} {h : mH} {A : mAs} (hA : ClsN h A) (u : Nat) (hu : u < 4) (h1 : ∀ j, j < kL (tC (aT A) u) → 1 ≤ kS (tC (aT A) u) j) (t : Nat) (ht : t < 4) (hk : ChOK (aT A) t (cutK (tV (aT A)) (kL (tC (aT A) u)) (kS (tC (aT A) u)))) (hok : okS (aT A) t (cutK (tV (aT A)) (kL (tC (aT A) u)) (kS (tC (aT A) u))) = true) : CnU X m_X6_copy [.ref 0, .int (nI t), .int (nI u)] h (fun v h1 => v = some (.int (nI (kN (cutK (tV (aT A)) (kL (tC (aT A) u)) (kS (tC (aT A) u)))))) ∧ ClsN h1 (chgA A t (kL (tC (aT A) u)) (kS (tC (aT A) u))) ∧ Out h h1 0 270) := by
  obtain ⟨a0, hT, hH, hBf, hW⟩ := id hA
  obtain ⟨t0, ⟨f, t1, t2⟩, hcs, hsto, hset⟩ := id hT
  obtain ⟨m0, hm6, -⟩ := id hH
  obtain ⟨⟨b0, bf, b1, hbf⟩, hb60, hbd⟩ := id hBf
  obtain ⟨-, ⟨K1, wc⟩, -, -⟩ := id hW
  obtain ⟨_, _, _, _, _, ⟨c0, -, -, -, -, -⟩, -⟩ := id wc
  refine cn_of_ev (L0 := [_, _, _]) (by decide +kernel) rfl rfl (Nat.le_of_ble_eq_true rfl) rfl ?_
  refine ev_iload_n dX6_copy_0 rfl rfl ?_
  refine ev_callSP1 dX6_copy_1 cal_X6_requireText lk_6_51 ⟨(Nat.le_of_ble_eq_true rfl), (Nat.le_of_ble_eq_true rfl)⟩ rfl (Nat.le_of_ble_eq_true rfl) (c_requireText t ht) ?_
  refine ev_iload_n dX6_copy_4 rfl rfl ?_
  refine ev_callSP1 dX6_copy_5 cal_X6_requireText lk_6_51 ⟨(Nat.le_of_ble_eq_true rfl), (Nat.le_of_ble_eq_true rfl)⟩ rfl (Nat.le_of_ble_eq_true rfl) (c_requireText u hu) ?_
  refine ev_aload_n dX6_copy_8 rfl rfl ?_
  first | refine ev_getfield dX6_copy_9 lf_6_36 (a0) rfl ?_ | refine ev_getfield dX6_copy_9 lf_6_36 (t0) rfl ?_ | refine ev_getfield dX6_copy_9 lf_6_36 (c0) rfl ?_
  refine ev_aload_n dX6_copy_12 rfl rfl ?_
  first | refine ev_getfield dX6_copy_13 lf_6_10 (a0) rfl ?_ | refine ev_getfield dX6_copy_13 lf_6_10 (t0) rfl ?_ | refine ev_getfield dX6_copy_13 lf_6_10 (c0) rfl ?_
  first | refine ev_getfield dX6_copy_16 lf_6_70 (a0) rfl ?_ | refine ev_getfield dX6_copy_16 lf_6_70 (t0) rfl ?_ | refine ev_getfield dX6_copy_16 lf_6_70 (c0) rfl ?_
  refine ev_iload_n dX6_copy_19 rfl rfl ?_
  refine ev_aaloadN dX6_copy_20 (Or.inl rfl) t1 (by omega) (by decide) (t2 u hu) ?_
  first | refine ev_callVU1 dX6_copy_21 cal_X1_becomeSignsOf lk_6_107 ⟨(Nat.le_of_ble_eq_true rfl), (Nat.le_of_ble_eq_true rfl)⟩ rfl (a0) (Nat.le_of_ble_eq_true rfl) (c_becomeSignsOf wc (hcs u hu) (by omega)) (fun v h21 hq21 => ?_) | refine ev_callVU1 dX6_copy_21 cal_X1_becomeSignsOf lk_6_107 ⟨(Nat.le_of_ble_eq_true rfl), (Nat.le_of_ble_eq_true rfl)⟩ rfl (t0) (Nat.le_of_ble_eq_true rfl) (c_becomeSignsOf wc (hcs u hu) (by omega)) (fun v h21 hq21 => ?_) | refine ev_callVU1 dX6_copy_21 cal_X1_becomeSignsOf lk_6_107 ⟨(Nat.le_of_ble_eq_true rfl), (Nat.le_of_ble_eq_true rfl)⟩ rfl (c0) (Nat.le_of_ble_eq_true rfl) (c_becomeSignsOf wc (hcs u hu) (by omega)) (fun v h21 hq21 => ?_)
  refine ev_pc (pc' := 24) rfl ?_
  obtain ⟨rfl, hc2, ho⟩ := hq21
  have hA3 : ClsN h21 A := Tri.clear hA ho hc2
  have aa := hA3.1
  have hr : TriN h21 A (kL (tC (aT A) u)) (kS (tC (aT A) u)) := ⟨hA3, hc2, h1⟩
  refine ev_aload_n dX6_copy_24 rfl rfl ?_
  refine ev_iload_n dX6_copy_25 rfl rfl ?_
  refine ev_callVU1 dX6_copy_26 cal_X6_changeToTrial lk_6_65 ⟨(Nat.le_of_ble_eq_true rfl), (Nat.le_of_ble_eq_true rfl)⟩ rfl (aa) (Nat.le_of_ble_eq_true rfl) (c_changeToTrial hr t ht hk hok) (fun v h26 hq26 => ?_)
  refine ev_pc (pc' := 29) rfl ?_
  obtain ⟨rfl, hA2, oo⟩ := hq26
  refine ev_ireturn dX6_copy_29 rfl (Or.inl rfl) (Nat.zero_le _) (Nat.zero_le _) ?_
  exact ⟨_, rfl, rfl, hA2, (ho.up (by omega) (by omega)).tr oo⟩
set_option maxHeartbeats 4000000 in
set_option maxRecDepth 100000 in
theorem x_copy9 {X : mX} {h : mH} {A : mAs} (hA : ClsN h A) (u : Nat) (hu : u < 4) (h1 : ∀ j, j < kL (tC (aT A) u) → 1 ≤ kS (tC (aT A) u) j) (t : Nat) (ht : t < 4) (hk : ChOK (aT A) t (cutK (tV (aT A)) (kL (tC (aT A) u)) (kS (tC (aT A) u)))) (hok : okS (aT A) t (cutK (tV (aT A)) (kL (tC (aT A) u)) (kS (tC (aT A) u))) = false) : CnX X m_X6_copy [.ref 0, .int (nI t), .int (nI u)] h 2 (fun h1 => ClsN h1 A ∧ Out h h1 0 270) := by
  obtain ⟨a0, hT, hH, hBf, hW⟩ := id hA
  obtain ⟨t0, ⟨f, t1, t2⟩, hcs, hsto, hset⟩ := id hT
  obtain ⟨m0, hm6, -⟩ := id hH
  obtain ⟨⟨b0, bf, b1, hbf⟩, hb60, hbd⟩ := id hBf
  obtain ⟨-, ⟨K1, wc⟩, -, -⟩ := id hW
  obtain ⟨_, _, _, _, _, ⟨c0, -, -, -, -, -⟩, -⟩ := id wc
  refine cn_of_ev (L0 := [_, _, _]) (by decide +kernel) rfl rfl (Nat.le_of_ble_eq_true rfl) rfl ?_
  refine ev_iload_n dX6_copy_0 rfl rfl ?_
  refine ev_callSP1 dX6_copy_1 cal_X6_requireText lk_6_51 ⟨(Nat.le_of_ble_eq_true rfl), (Nat.le_of_ble_eq_true rfl)⟩ rfl (Nat.le_of_ble_eq_true rfl) (c_requireText t ht) ?_
  refine ev_iload_n dX6_copy_4 rfl rfl ?_
  refine ev_callSP1 dX6_copy_5 cal_X6_requireText lk_6_51 ⟨(Nat.le_of_ble_eq_true rfl), (Nat.le_of_ble_eq_true rfl)⟩ rfl (Nat.le_of_ble_eq_true rfl) (c_requireText u hu) ?_
  refine ev_aload_n dX6_copy_8 rfl rfl ?_
  first | refine ev_getfield dX6_copy_9 lf_6_36 (a0) rfl ?_ | refine ev_getfield dX6_copy_9 lf_6_36 (t0) rfl ?_ | refine ev_getfield dX6_copy_9 lf_6_36 (c0) rfl ?_
  refine ev_aload_n dX6_copy_12 rfl rfl ?_
  first | refine ev_getfield dX6_copy_13 lf_6_10 (a0) rfl ?_ | refine ev_getfield dX6_copy_13 lf_6_10 (t0) rfl ?_ | refine ev_getfield dX6_copy_13 lf_6_10 (c0) rfl ?_
  first | refine ev_getfield dX6_copy_16 lf_6_70 (a0) rfl ?_ | refine ev_getfield dX6_copy_16 lf_6_70 (t0) rfl ?_ | refine ev_getfield dX6_copy_16 lf_6_70 (c0) rfl ?_
  refine ev_iload_n dX6_copy_19 rfl rfl ?_
  refine ev_aaloadN dX6_copy_20 (Or.inl rfl) t1 (by omega) (by decide) (t2 u hu) ?_
  first | refine ev_callVU1 dX6_copy_21 cal_X1_becomeSignsOf lk_6_107 ⟨(Nat.le_of_ble_eq_true rfl), (Nat.le_of_ble_eq_true rfl)⟩ rfl (a0) (Nat.le_of_ble_eq_true rfl) (c_becomeSignsOf wc (hcs u hu) (by omega)) (fun v h21 hq21 => ?_) | refine ev_callVU1 dX6_copy_21 cal_X1_becomeSignsOf lk_6_107 ⟨(Nat.le_of_ble_eq_true rfl), (Nat.le_of_ble_eq_true rfl)⟩ rfl (t0) (Nat.le_of_ble_eq_true rfl) (c_becomeSignsOf wc (hcs u hu) (by omega)) (fun v h21 hq21 => ?_) | refine ev_callVU1 dX6_copy_21 cal_X1_becomeSignsOf lk_6_107 ⟨(Nat.le_of_ble_eq_true rfl), (Nat.le_of_ble_eq_true rfl)⟩ rfl (c0) (Nat.le_of_ble_eq_true rfl) (c_becomeSignsOf wc (hcs u hu) (by omega)) (fun v h21 hq21 => ?_)
  refine ev_pc (pc' := 24) rfl ?_
  obtain ⟨rfl, hc2, ho⟩ := hq21
  have hA3 : ClsN h21 A := Tri.clear hA ho hc2
  have aa := hA3.1
  have hr : TriN h21 A (kL (tC (aT A) u)) (kS (tC (aT A) u)) := ⟨hA3, hc2, h1⟩
  refine ev_aload_n dX6_copy_24 rfl rfl ?_
  refine ev_iload_n dX6_copy_25 rfl rfl ?_
  refine ev_callVX1 dX6_copy_26 cal_X6_changeToTrial lk_6_65 ⟨(Nat.le_of_ble_eq_true rfl), (Nat.le_of_ble_eq_true rfl)⟩ rfl (aa) (Nat.le_of_ble_eq_true rfl) (x_changeToTrial hr t ht hk hok) (fun h26 hq26 => ?_)
  exact ⟨rfl, hq26.1, (ho.up (by omega) (by omega)).tr hq26.2⟩
