set_option maxHeartbeats 4000000 in
set_option maxRecDepth 100000 in
theorem x_insert {X : mX} {h : mH} (t u : Int32) (ht : inX t 0 4 = false) : CnX X m_X6_insert [.ref 0, .int t, .int u] h 0 (fun h1 => h1 = h) := by
  refine cn_of_ev (L0 := [_, _, _, _, _]) (by decide +kernel) rfl rfl (Nat.le_of_ble_eq_true rfl) rfl ?_
  refine ev_iload_n dX6_insert_0 rfl rfl ?_
  refine ev_callSX1 dX6_insert_1 cal_X6_requireText lk_6_51 ⟨(Nat.le_of_ble_eq_true rfl), (Nat.le_of_ble_eq_true rfl)⟩ rfl (Nat.le_of_ble_eq_true rfl) (x_requireText t ht) (fun h1 hq1 => ?_)
  exact ⟨rfl, hq1⟩
set_option maxHeartbeats 4000000 in
set_option maxRecDepth 100000 in
theorem x_insert2 {X : mX} {h : mH} {A : mAs} (hA : ClsN h A) (t : Nat) (u : Int32) (ht : t < 4) (hu : inX u 0 (kL (tC (aT A) t) + 1) = false) : CnX X m_X6_insert [.ref 0, .int (nI t), .int u] h 0 (fun h1 => h1 = h) := by
  obtain ⟨a0, hT, hH, hBf, hW⟩ := id hA
  obtain ⟨t0, ⟨f, t1, t2⟩, hcs, hsto, hset⟩ := id hT
  obtain ⟨m0, hm6, -⟩ := id hH
  obtain ⟨⟨b0, bf, b1, hbf⟩, hb60, hbd⟩ := id hBf
  obtain ⟨sg, st, le, fo, rk, ⟨c0, c1, c2, c3, c4, c5⟩, hL, hN, hS, hP⟩ := id (hcs t ht)
  refine cn_of_ev (L0 := [_, _, _, _, _]) (by decide +kernel) rfl rfl (Nat.le_of_ble_eq_true rfl) rfl ?_
  refine ev_iload_n dX6_insert_0 rfl rfl ?_
  refine ev_callSP1 dX6_insert_1 cal_X6_requireText lk_6_51 ⟨(Nat.le_of_ble_eq_true rfl), (Nat.le_of_ble_eq_true rfl)⟩ rfl (Nat.le_of_ble_eq_true rfl) (c_requireText t ht) ?_
  refine ev_aload_n dX6_insert_4 rfl rfl ?_
  first | refine ev_getfield dX6_insert_5 lf_6_10 (a0) rfl ?_ | refine ev_getfield dX6_insert_5 lf_6_10 (t0) rfl ?_ | refine ev_getfield dX6_insert_5 lf_6_10 (c0) rfl ?_
  first | refine ev_getfield dX6_insert_8 lf_6_70 (a0) rfl ?_ | refine ev_getfield dX6_insert_8 lf_6_70 (t0) rfl ?_ | refine ev_getfield dX6_insert_8 lf_6_70 (c0) rfl ?_
  refine ev_iload_n dX6_insert_11 rfl rfl ?_
  refine ev_aaloadN dX6_insert_12 (Or.inl rfl) t1 (by omega) (by decide) (t2 t ht) ?_
  refine ev_astore_n (L' := [_, _, _, _, _]) dX6_insert_13 rfl (Nat.le_of_ble_eq_true rfl) rfl ?_
  refine ev_iload_n dX6_insert_14 rfl rfl ?_
  refine ev_if_lt 26 dX6_insert_15 rfl (fun hc15 => ?_) (fun hc15 => ?_)
  · refine ev_throwS (M' := m_X6_insert) (f1 := none) (mc1 := 0) (ms1 := 0) (Q1 := fun _ _ => True) 0 "no such place" (by decide) rfl (by decide) rfl (by decide) (Nat.le_of_ble_eq_true rfl) dX6_insert_26 dX6_insert_29 dX6_insert_30 dX6_insert_32 dX6_insert_35 (Nat.le_refl _) (Nat.le_refl _) ?_
    exact ⟨rfl, rfl⟩
  · refine ev_iload_n dX6_insert_18 rfl rfl ?_
    refine ev_aload_n dX6_insert_19 rfl rfl ?_
    first | refine ev_getfield dX6_insert_20 lf_6_74 (a0) rfl ?_ | refine ev_getfield dX6_insert_20 lf_6_74 (t0) rfl ?_ | refine ev_getfield dX6_insert_20 lf_6_74 (c0) rfl ?_
    refine ev_icmp_le 36 dX6_insert_23 rfl (fun hc23 => ?_) (fun hc23 => ?_)
    · refine ev_pc (pc' := 36) rfl ?_
      exact absurd (inX_le0 hc15 hc23 (by omega)) (by rw [hu]; decide)
    · refine ev_throwS (M' := m_X6_insert) (f1 := none) (mc1 := 0) (ms1 := 0) (Q1 := fun _ _ => True) 0 "no such place" (by decide) rfl (by decide) rfl (by decide) (Nat.le_of_ble_eq_true rfl) dX6_insert_26 dX6_insert_29 dX6_insert_30 dX6_insert_32 dX6_insert_35 (Nat.le_refl _) (Nat.le_refl _) ?_
      exact ⟨rfl, rfl⟩
set_option maxHeartbeats 4000000 in
set_option maxRecDepth 100000 in
theorem x_insert3 {X : mX} {h : mH} {A : mAs} (hA : ClsN h A) (t p : Nat) (ht : t < 4) (hp : p ≤ kL (tC (aT A) t)) (hw : whol (aD A) (aB A) = false) : CnX X m_X6_insert [.ref 0, .int (nI t), .int (nI p)] h 1 (fun h1 => h1 = h) := by
  obtain ⟨a0, hT, hH, hBf, hW⟩ := id hA
  obtain ⟨t0, ⟨f, t1, t2⟩, hcs, hsto, hset⟩ := id hT
  obtain ⟨m0, hm6, -⟩ := id hH
  obtain ⟨⟨b0, bf, b1, hbf⟩, hb60, hbd⟩ := id hBf
  obtain ⟨sg, st, le, fo, rk, ⟨c0, c1, c2, c3, c4, c5⟩, hL, hN, hS, hP⟩ := id (hcs t ht)
  refine cn_of_ev (L0 := [_, _, _, _, _]) (by decide +kernel) rfl rfl (Nat.le_of_ble_eq_true rfl) rfl ?_
  refine ev_iload_n dX6_insert_0 rfl rfl ?_
  refine ev_callSP1 dX6_insert_1 cal_X6_requireText lk_6_51 ⟨(Nat.le_of_ble_eq_true rfl), (Nat.le_of_ble_eq_true rfl)⟩ rfl (Nat.le_of_ble_eq_true rfl) (c_requireText t ht) ?_
  refine ev_aload_n dX6_insert_4 rfl rfl ?_
  first | refine ev_getfield dX6_insert_5 lf_6_10 (a0) rfl ?_ | refine ev_getfield dX6_insert_5 lf_6_10 (t0) rfl ?_ | refine ev_getfield dX6_insert_5 lf_6_10 (c0) rfl ?_
  first | refine ev_getfield dX6_insert_8 lf_6_70 (a0) rfl ?_ | refine ev_getfield dX6_insert_8 lf_6_70 (t0) rfl ?_ | refine ev_getfield dX6_insert_8 lf_6_70 (c0) rfl ?_
  refine ev_iload_n dX6_insert_11 rfl rfl ?_
  refine ev_aaloadN dX6_insert_12 (Or.inl rfl) t1 (by omega) (by decide) (t2 t ht) ?_
  refine ev_astore_n (L' := [_, _, _, _, _]) dX6_insert_13 rfl (Nat.le_of_ble_eq_true rfl) rfl ?_
  refine ev_iload_n dX6_insert_14 rfl rfl ?_
  refine ev_if_ltN 26 dX6_insert_15 rfl (by omega) (fun hc15 => ?_) (fun hc15 => ?_)
  · refine ev_pc (pc' := 26) rfl ?_
    first | exact hc15.elim | omega
  · refine ev_iload_n dX6_insert_18 rfl rfl ?_
    refine ev_aload_n dX6_insert_19 rfl rfl ?_
    first | refine ev_getfield dX6_insert_20 lf_6_74 (a0) rfl ?_ | refine ev_getfield dX6_insert_20 lf_6_74 (t0) rfl ?_ | refine ev_getfield dX6_insert_20 lf_6_74 (c0) rfl ?_
    refine ev_icmp_leN 36 dX6_insert_23 rfl (by omega) (by omega) (fun hc23 => ?_) (fun hc23 => ?_)
    · refine ev_aload_n dX6_insert_36 rfl rfl ?_
      first | refine ev_callVX0 dX6_insert_37 cal_X6_requireCompleteBuffer lk_6_55 ⟨(Nat.le_of_ble_eq_true rfl), (Nat.le_of_ble_eq_true rfl)⟩ rfl (a0) (Nat.le_of_ble_eq_true rfl) (x_requireCompleteBuffer hA hw) (fun h37 hq37 => ?_) | refine ev_callVX0 dX6_insert_37 cal_X6_requireCompleteBuffer lk_6_55 ⟨(Nat.le_of_ble_eq_true rfl), (Nat.le_of_ble_eq_true rfl)⟩ rfl (t0) (Nat.le_of_ble_eq_true rfl) (x_requireCompleteBuffer hA hw) (fun h37 hq37 => ?_) | refine ev_callVX0 dX6_insert_37 cal_X6_requireCompleteBuffer lk_6_55 ⟨(Nat.le_of_ble_eq_true rfl), (Nat.le_of_ble_eq_true rfl)⟩ rfl (c0) (Nat.le_of_ble_eq_true rfl) (x_requireCompleteBuffer hA hw) (fun h37 hq37 => ?_)
      exact ⟨rfl, hq37⟩
    · refine ev_pc (pc' := 26) rfl ?_
      first | exact hc15.elim | omega
set_option maxHeartbeats 4000000 in
set_option maxRecDepth 100000 in
theorem x_insert4 {X : mX} {h : mH} {A : mAs} (hA : ClsN h A) (t p : Nat) (ht : t < 4) (hp : p ≤ kL (tC (aT A) t)) (hw : whol (aD A) (aB A) = true) (hs : 40 < kL (tC (aT A) t) + (smN (addN (aD A)) (aB A))) : CnX X m_X6_insert [.ref 0, .int (nI t), .int (nI p)] h 2 (fun h1 => h1 = h) := by
  obtain ⟨a0, hT, hH, hBf, hW⟩ := id hA
  obtain ⟨t0, ⟨f, t1, t2⟩, hcs, hsto, hset⟩ := id hT
  obtain ⟨m0, hm6, -⟩ := id hH
  obtain ⟨⟨b0, bf, b1, hbf⟩, hb60, hbd⟩ := id hBf
  obtain ⟨sg, st, le, fo, rk, ⟨c0, c1, c2, c3, c4, c5⟩, hL, hN, hS, hP⟩ := id (hcs t ht)
  have hb8 : (smN (addN (aD A)) (aB A)) ≤ aB A * 8 := smN_le (fun k _ => addN_le _ k)
  have hb9 : (smN (addN (aD A)) (aB A)) ≤ 480 := by omega
  refine cn_of_ev (L0 := [_, _, _, _, _]) (by decide +kernel) rfl rfl (Nat.le_of_ble_eq_true rfl) rfl ?_
  refine ev_iload_n dX6_insert_0 rfl rfl ?_
  refine ev_callSP1 dX6_insert_1 cal_X6_requireText lk_6_51 ⟨(Nat.le_of_ble_eq_true rfl), (Nat.le_of_ble_eq_true rfl)⟩ rfl (Nat.le_of_ble_eq_true rfl) (c_requireText t ht) ?_
  refine ev_aload_n dX6_insert_4 rfl rfl ?_
  first | refine ev_getfield dX6_insert_5 lf_6_10 (a0) rfl ?_ | refine ev_getfield dX6_insert_5 lf_6_10 (t0) rfl ?_ | refine ev_getfield dX6_insert_5 lf_6_10 (c0) rfl ?_ | refine ev_getfield dX6_insert_5 lf_6_10 (b0) rfl ?_
  first | refine ev_getfield dX6_insert_8 lf_6_70 (a0) rfl ?_ | refine ev_getfield dX6_insert_8 lf_6_70 (t0) rfl ?_ | refine ev_getfield dX6_insert_8 lf_6_70 (c0) rfl ?_ | refine ev_getfield dX6_insert_8 lf_6_70 (b0) rfl ?_
  refine ev_iload_n dX6_insert_11 rfl rfl ?_
  refine ev_aaloadN dX6_insert_12 (Or.inl rfl) t1 (by omega) (by decide) (t2 t ht) ?_
  refine ev_astore_n (L' := [_, _, _, _, _]) dX6_insert_13 rfl (Nat.le_of_ble_eq_true rfl) rfl ?_
  refine ev_iload_n dX6_insert_14 rfl rfl ?_
  refine ev_if_ltN 26 dX6_insert_15 rfl (by omega) (fun hc15 => ?_) (fun hc15 => ?_)
  · refine ev_pc (pc' := 26) rfl ?_
    first | exact hc15.elim | omega
  · refine ev_iload_n dX6_insert_18 rfl rfl ?_
    refine ev_aload_n dX6_insert_19 rfl rfl ?_
    first | refine ev_getfield dX6_insert_20 lf_6_74 (a0) rfl ?_ | refine ev_getfield dX6_insert_20 lf_6_74 (t0) rfl ?_ | refine ev_getfield dX6_insert_20 lf_6_74 (c0) rfl ?_ | refine ev_getfield dX6_insert_20 lf_6_74 (b0) rfl ?_
    refine ev_icmp_leN 36 dX6_insert_23 rfl (by omega) (by omega) (fun hc23 => ?_) (fun hc23 => ?_)
    · refine ev_aload_n dX6_insert_36 rfl rfl ?_
      first | refine ev_callVP0 dX6_insert_37 cal_X6_requireCompleteBuffer lk_6_55 ⟨(Nat.le_of_ble_eq_true rfl), (Nat.le_of_ble_eq_true rfl)⟩ rfl (a0) (Nat.le_of_ble_eq_true rfl) (c_requireCompleteBuffer hA hw) ?_ | refine ev_callVP0 dX6_insert_37 cal_X6_requireCompleteBuffer lk_6_55 ⟨(Nat.le_of_ble_eq_true rfl), (Nat.le_of_ble_eq_true rfl)⟩ rfl (t0) (Nat.le_of_ble_eq_true rfl) (c_requireCompleteBuffer hA hw) ?_ | refine ev_callVP0 dX6_insert_37 cal_X6_requireCompleteBuffer lk_6_55 ⟨(Nat.le_of_ble_eq_true rfl), (Nat.le_of_ble_eq_true rfl)⟩ rfl (c0) (Nat.le_of_ble_eq_true rfl) (c_requireCompleteBuffer hA hw) ?_ | refine ev_callVP0 dX6_insert_37 cal_X6_requireCompleteBuffer lk_6_55 ⟨(Nat.le_of_ble_eq_true rfl), (Nat.le_of_ble_eq_true rfl)⟩ rfl (b0) (Nat.le_of_ble_eq_true rfl) (c_requireCompleteBuffer hA hw) ?_
      refine ev_aload_n dX6_insert_40 rfl rfl ?_
      first | refine ev_getfield dX6_insert_41 lf_6_74 (a0) rfl ?_ | refine ev_getfield dX6_insert_41 lf_6_74 (t0) rfl ?_ | refine ev_getfield dX6_insert_41 lf_6_74 (c0) rfl ?_ | refine ev_getfield dX6_insert_41 lf_6_74 (b0) rfl ?_
      refine ev_aload_n dX6_insert_44 rfl rfl ?_
      first | refine ev_getfield dX6_insert_45 lf_6_26 (a0) rfl ?_ | refine ev_getfield dX6_insert_45 lf_6_26 (t0) rfl ?_ | refine ev_getfield dX6_insert_45 lf_6_26 (c0) rfl ?_ | refine ev_getfield dX6_insert_45 lf_6_26 (b0) rfl ?_
      first | refine ev_callVP0 dX6_insert_48 cal_X0_signs lk_6_85 ⟨(Nat.le_of_ble_eq_true rfl), (Nat.le_of_ble_eq_true rfl)⟩ rfl (a0) (Nat.le_of_ble_eq_true rfl) (c_Buf_signs hBf) ?_ | refine ev_callVP0 dX6_insert_48 cal_X0_signs lk_6_85 ⟨(Nat.le_of_ble_eq_true rfl), (Nat.le_of_ble_eq_true rfl)⟩ rfl (t0) (Nat.le_of_ble_eq_true rfl) (c_Buf_signs hBf) ?_ | refine ev_callVP0 dX6_insert_48 cal_X0_signs lk_6_85 ⟨(Nat.le_of_ble_eq_true rfl), (Nat.le_of_ble_eq_true rfl)⟩ rfl (c0) (Nat.le_of_ble_eq_true rfl) (c_Buf_signs hBf) ?_ | refine ev_callVP0 dX6_insert_48 cal_X0_signs lk_6_85 ⟨(Nat.le_of_ble_eq_true rfl), (Nat.le_of_ble_eq_true rfl)⟩ rfl (b0) (Nat.le_of_ble_eq_true rfl) (c_Buf_signs hBf) ?_
      refine ev_iaddN dX6_insert_51 ?_
      refine ev_bipush (nI 40) dX6_insert_52 rfl ?_
      refine ev_icmp_leN 67 dX6_insert_54 rfl (by omega) (by omega) (fun hc54 => ?_) (fun hc54 => ?_)
      · refine ev_pc (pc' := 67) rfl ?_
        omega
      · refine ev_throwS (M' := m_X6_insert) (f1 := none) (mc1 := 0) (ms1 := 0) (Q1 := fun _ _ => True) 2 "the text would have more than 40 signs" (by decide) rfl (by decide) rfl (by decide) (Nat.le_of_ble_eq_true rfl) dX6_insert_57 dX6_insert_60 dX6_insert_61 dX6_insert_63 dX6_insert_66 (Nat.le_refl _) (Nat.le_refl _) ?_
        exact ⟨rfl, rfl⟩
    · refine ev_pc (pc' := 26) rfl ?_
      first | exact hc15.elim | omega
set_option maxHeartbeats 4000000 in
set_option maxRecDepth 100000 in
theorem c_insert {X : mX} {h : mH} {A : mAs} (hA : ClsN h A) (t : Nat) (ht : t < 4) (p : Nat) (hp : p ≤ kL (tC (aT A) t)) (hw : whol (aD A) (aB A) = true) (h40 : kL (tC (aT A) t) + (smN (addN (aD A)) (aB A)) ≤ 40) (h1 : ∀ j, j < (kL (tC (aT A) t) + (smN (addN (aD A)) (aB A))) → 1 ≤ (insF (kS (tC (aT A) t)) (tlN (aD A) (aB A)) p (smN (addN (aD A)) (aB A))) j) (hk : ChOK (aT A) t (cutK (tV (aT A)) (kL (tC (aT A) t) + (smN (addN (aD A)) (aB A))) (insF (kS (tC (aT A) t)) (tlN (aD A) (aB A)) p (smN (addN (aD A)) (aB A))))) (hok : okS (aT A) t (cutK (tV (aT A)) (kL (tC (aT A) t) + (smN (addN (aD A)) (aB A))) (insF (kS (tC (aT A) t)) (tlN (aD A) (aB A)) p (smN (addN (aD A)) (aB A)))) = true) : CnU X m_X6_insert [.ref 0, .int (nI t), .int (nI p)] h (fun v h1 => v = some (.int (nI (kN (cutK (tV (aT A)) (kL (tC (aT A) t) + (smN (addN (aD A)) (aB A))) (insF (kS (tC (aT A) t)) (tlN (aD A) (aB A)) p (smN (addN (aD A)) (aB A))))))) ∧ ClsN h1 ((chgA A t (kL (tC (aT A) t) + (smN (addN (aD A)) (aB A))) (insF (kS (tC (aT A) t)) (tlN (aD A) (aB A)) p (smN (addN (aD A)) (aB A)))).1, (chgA A t (kL (tC (aT A) t) + (smN (addN (aD A)) (aB A))) (insF (kS (tC (aT A) t)) (tlN (aD A) (aB A)) p (smN (addN (aD A)) (aB A)))).2.1, (0, aD A)) ∧ Out h h1 0 270) := by
  obtain ⟨a0, hT, hH, hBf, hW⟩ := id hA
  obtain ⟨t0, ⟨f, t1, t2⟩, hcs, hsto, hset⟩ := id hT
  obtain ⟨m0, hm6, -⟩ := id hH
  obtain ⟨⟨b0, bf, b1, hbf⟩, hb60, hbd⟩ := id hBf
  obtain ⟨-, ⟨K1, wc⟩, -, -⟩ := id hW
  obtain ⟨_, _, _, _, _, ⟨c0, -, -, -, -, -⟩, -⟩ := id wc
  have hcK := hcs t ht
  obtain ⟨_, _, _, _, _, ⟨k0, -, -, -, -, -⟩, hL40, -⟩ := id hcK
  have hLL : kL (tC (aT A) t) ≤ 40 := hL40
  refine cn_of_ev (L0 := [_, _, _, _, _]) (by decide +kernel) rfl rfl (Nat.le_of_ble_eq_true rfl) rfl ?_
  refine ev_iload_n dX6_insert_0 rfl rfl ?_
  refine ev_callSP1 dX6_insert_1 cal_X6_requireText lk_6_51 ⟨(Nat.le_of_ble_eq_true rfl), (Nat.le_of_ble_eq_true rfl)⟩ rfl (Nat.le_of_ble_eq_true rfl) (c_requireText t ht) ?_
  refine ev_aload_n dX6_insert_4 rfl rfl ?_
  first | refine ev_getfield dX6_insert_5 lf_6_10 (a0) rfl ?_ | refine ev_getfield dX6_insert_5 lf_6_10 (t0) rfl ?_ | refine ev_getfield dX6_insert_5 lf_6_10 (k0) rfl ?_ | refine ev_getfield dX6_insert_5 lf_6_10 (b0) rfl ?_
  first | refine ev_getfield dX6_insert_8 lf_6_70 (a0) rfl ?_ | refine ev_getfield dX6_insert_8 lf_6_70 (t0) rfl ?_ | refine ev_getfield dX6_insert_8 lf_6_70 (k0) rfl ?_ | refine ev_getfield dX6_insert_8 lf_6_70 (b0) rfl ?_
  refine ev_iload_n dX6_insert_11 rfl rfl ?_
  refine ev_aaloadN dX6_insert_12 (Or.inl rfl) t1 (by omega) (by decide) (t2 t ht) ?_
  refine ev_astore_n (L' := [_, _, _, _, _]) dX6_insert_13 rfl (Nat.le_of_ble_eq_true rfl) rfl ?_
  refine ev_iload_n dX6_insert_14 rfl rfl ?_
  refine ev_if_ltN 26 dX6_insert_15 rfl (by omega) (fun hc15 => ?_) (fun hc15 => ?_)
  · refine ev_pc (pc' := 26) rfl ?_
    first | exact hc15.elim | omega
  · refine ev_iload_n dX6_insert_18 rfl rfl ?_
    refine ev_aload_n dX6_insert_19 rfl rfl ?_
    first | refine ev_getfield dX6_insert_20 lf_6_74 (a0) rfl ?_ | refine ev_getfield dX6_insert_20 lf_6_74 (t0) rfl ?_ | refine ev_getfield dX6_insert_20 lf_6_74 (k0) rfl ?_ | refine ev_getfield dX6_insert_20 lf_6_74 (b0) rfl ?_
    refine ev_icmp_leN 36 dX6_insert_23 rfl (by omega) (by omega) (fun hc23 => ?_) (fun hc23 => ?_)
    · refine ev_aload_n dX6_insert_36 rfl rfl ?_
      first | refine ev_callVP0 dX6_insert_37 cal_X6_requireCompleteBuffer lk_6_55 ⟨(Nat.le_of_ble_eq_true rfl), (Nat.le_of_ble_eq_true rfl)⟩ rfl (a0) (Nat.le_of_ble_eq_true rfl) (c_requireCompleteBuffer hA hw) ?_ | refine ev_callVP0 dX6_insert_37 cal_X6_requireCompleteBuffer lk_6_55 ⟨(Nat.le_of_ble_eq_true rfl), (Nat.le_of_ble_eq_true rfl)⟩ rfl (t0) (Nat.le_of_ble_eq_true rfl) (c_requireCompleteBuffer hA hw) ?_ | refine ev_callVP0 dX6_insert_37 cal_X6_requireCompleteBuffer lk_6_55 ⟨(Nat.le_of_ble_eq_true rfl), (Nat.le_of_ble_eq_true rfl)⟩ rfl (k0) (Nat.le_of_ble_eq_true rfl) (c_requireCompleteBuffer hA hw) ?_ | refine ev_callVP0 dX6_insert_37 cal_X6_requireCompleteBuffer lk_6_55 ⟨(Nat.le_of_ble_eq_true rfl), (Nat.le_of_ble_eq_true rfl)⟩ rfl (b0) (Nat.le_of_ble_eq_true rfl) (c_requireCompleteBuffer hA hw) ?_
      refine ev_aload_n dX6_insert_40 rfl rfl ?_
      first | refine ev_getfield dX6_insert_41 lf_6_74 (a0) rfl ?_ | refine ev_getfield dX6_insert_41 lf_6_74 (t0) rfl ?_ | refine ev_getfield dX6_insert_41 lf_6_74 (k0) rfl ?_ | refine ev_getfield dX6_insert_41 lf_6_74 (b0) rfl ?_
      refine ev_aload_n dX6_insert_44 rfl rfl ?_
      first | refine ev_getfield dX6_insert_45 lf_6_26 (a0) rfl ?_ | refine ev_getfield dX6_insert_45 lf_6_26 (t0) rfl ?_ | refine ev_getfield dX6_insert_45 lf_6_26 (k0) rfl ?_ | refine ev_getfield dX6_insert_45 lf_6_26 (b0) rfl ?_
      first | refine ev_callVP0 dX6_insert_48 cal_X0_signs lk_6_85 ⟨(Nat.le_of_ble_eq_true rfl), (Nat.le_of_ble_eq_true rfl)⟩ rfl (a0) (Nat.le_of_ble_eq_true rfl) (c_Buf_signs hBf) ?_ | refine ev_callVP0 dX6_insert_48 cal_X0_signs lk_6_85 ⟨(Nat.le_of_ble_eq_true rfl), (Nat.le_of_ble_eq_true rfl)⟩ rfl (t0) (Nat.le_of_ble_eq_true rfl) (c_Buf_signs hBf) ?_ | refine ev_callVP0 dX6_insert_48 cal_X0_signs lk_6_85 ⟨(Nat.le_of_ble_eq_true rfl), (Nat.le_of_ble_eq_true rfl)⟩ rfl (k0) (Nat.le_of_ble_eq_true rfl) (c_Buf_signs hBf) ?_ | refine ev_callVP0 dX6_insert_48 cal_X0_signs lk_6_85 ⟨(Nat.le_of_ble_eq_true rfl), (Nat.le_of_ble_eq_true rfl)⟩ rfl (b0) (Nat.le_of_ble_eq_true rfl) (c_Buf_signs hBf) ?_
      refine ev_iaddN dX6_insert_51 ?_
      refine ev_bipush (nI 40) dX6_insert_52 rfl ?_
      refine ev_icmp_leN 67 dX6_insert_54 rfl (by omega) (by omega) (fun hc54 => ?_) (fun hc54 => ?_)
      · refine ev_pc (pc' := 67) rfl ?_
        refine ev_aload_n dX6_insert_67 rfl rfl ?_
        first | refine ev_getfield dX6_insert_68 lf_6_36 (a0) rfl ?_ | refine ev_getfield dX6_insert_68 lf_6_36 (c0) rfl ?_
        first | refine ev_callVU0 dX6_insert_71 cal_X1_clear lk_6_58 ⟨(Nat.le_of_ble_eq_true rfl), (Nat.le_of_ble_eq_true rfl)⟩ rfl (a0) (Nat.le_of_ble_eq_true rfl) (c_Cut_clear wc) (fun v h71 hq71 => ?_) | refine ev_callVU0 dX6_insert_71 cal_X1_clear lk_6_58 ⟨(Nat.le_of_ble_eq_true rfl), (Nat.le_of_ble_eq_true rfl)⟩ rfl (c0) (Nat.le_of_ble_eq_true rfl) (c_Cut_clear wc) (fun v h71 hq71 => ?_)
        refine ev_pc (pc' := 74) rfl ?_
        obtain ⟨rfl, hc2, o2⟩ := hq71
        have a2 := (o2 0 (by omega)).trans a0
        have hK2 := hcK.go o2 (by omega)
        have hB2 := hBf.go o2 (by omega)
        obtain ⟨_, _, _, _, _, ⟨c2, -, -, -, -, -⟩, -⟩ := id hc2
        refine ev_aload_n dX6_insert_74 rfl rfl ?_
        first | refine ev_getfield dX6_insert_75 lf_6_36 (a2) rfl ?_ | refine ev_getfield dX6_insert_75 lf_6_36 (c2) rfl ?_
        refine ev_aload_n dX6_insert_78 rfl rfl ?_
        refine ev_iconst (nI 0) dX6_insert_79 rfl ?_
        refine ev_iload_n dX6_insert_80 rfl rfl ?_
        first | refine ev_callVU3 dX6_insert_81 cal_X1_addSigns lk_6_94 ⟨(Nat.le_of_ble_eq_true rfl), (Nat.le_of_ble_eq_true rfl)⟩ rfl (a2) (Nat.le_of_ble_eq_true rfl) (c_addSigns hc2 hK2 (by omega) 0 p (Nat.zero_le _) (by omega) (by omega)) (fun v h81 hq81 => ?_) | refine ev_callVU3 dX6_insert_81 cal_X1_addSigns lk_6_94 ⟨(Nat.le_of_ble_eq_true rfl), (Nat.le_of_ble_eq_true rfl)⟩ rfl (c2) (Nat.le_of_ble_eq_true rfl) (c_addSigns hc2 hK2 (by omega) 0 p (Nat.zero_le _) (by omega) (by omega)) (fun v h81 hq81 => ?_)
        refine ev_pc (pc' := 84) rfl ?_
        obtain ⟨rfl, hc3, o3⟩ := hq81
        have a3 := (o3 0 (by omega)).trans a2
        have hK3 := hK2.go o3 (by omega)
        have hB3 := hB2.go o3 (by omega)
        obtain ⟨_, _, _, _, _, ⟨c3, -, -, -, -, -⟩, -⟩ := id hc3
        obtain ⟨⟨b03, -⟩, -⟩ := id hB3
        refine ev_aload_n dX6_insert_84 rfl rfl ?_
        first | refine ev_getfield dX6_insert_85 lf_6_26 (a3) rfl ?_ | refine ev_getfield dX6_insert_85 lf_6_26 (c3) rfl ?_ | refine ev_getfield dX6_insert_85 lf_6_26 (b03) rfl ?_
        refine ev_aload_n dX6_insert_88 rfl rfl ?_
        first | refine ev_getfield dX6_insert_89 lf_6_36 (a3) rfl ?_ | refine ev_getfield dX6_insert_89 lf_6_36 (c3) rfl ?_ | refine ev_getfield dX6_insert_89 lf_6_36 (b03) rfl ?_
        first | refine ev_callVU1 dX6_insert_92 cal_X0_readInto lk_6_61 ⟨(Nat.le_of_ble_eq_true rfl), (Nat.le_of_ble_eq_true rfl)⟩ rfl (a3) (Nat.le_of_ble_eq_true rfl) (c_readInto hB3 hc3 (by omega) (by omega)) (fun v h92 hq92 => ?_) | refine ev_callVU1 dX6_insert_92 cal_X0_readInto lk_6_61 ⟨(Nat.le_of_ble_eq_true rfl), (Nat.le_of_ble_eq_true rfl)⟩ rfl (c3) (Nat.le_of_ble_eq_true rfl) (c_readInto hB3 hc3 (by omega) (by omega)) (fun v h92 hq92 => ?_) | refine ev_callVU1 dX6_insert_92 cal_X0_readInto lk_6_61 ⟨(Nat.le_of_ble_eq_true rfl), (Nat.le_of_ble_eq_true rfl)⟩ rfl (b03) (Nat.le_of_ble_eq_true rfl) (c_readInto hB3 hc3 (by omega) (by omega)) (fun v h92 hq92 => ?_)
        refine ev_pc (pc' := 95) rfl ?_
        obtain ⟨rfl, hc31, o31⟩ := hq92
        have a31 := (o31 0 (by omega)).trans a3
        have hK31 := hK3.go o31 (by omega)
        obtain ⟨_, _, _, _, _, ⟨c31, -, -, -, -, -⟩, -⟩ := id hc31
        obtain ⟨_, _, _, _, _, ⟨k31, -, -, -, -, -⟩, -⟩ := id hK31
        refine ev_aload_n dX6_insert_95 rfl rfl ?_
        first | refine ev_getfield dX6_insert_96 lf_6_36 (a31) rfl ?_ | refine ev_getfield dX6_insert_96 lf_6_36 (c31) rfl ?_ | refine ev_getfield dX6_insert_96 lf_6_36 (k31) rfl ?_
        refine ev_aload_n dX6_insert_99 rfl rfl ?_
        refine ev_iload_n dX6_insert_100 rfl rfl ?_
        refine ev_aload_n dX6_insert_101 rfl rfl ?_
        first | refine ev_getfield dX6_insert_102 lf_6_74 (a31) rfl ?_ | refine ev_getfield dX6_insert_102 lf_6_74 (c31) rfl ?_ | refine ev_getfield dX6_insert_102 lf_6_74 (k31) rfl ?_
        first | refine ev_callVU3 dX6_insert_105 cal_X1_addSigns lk_6_94 ⟨(Nat.le_of_ble_eq_true rfl), (Nat.le_of_ble_eq_true rfl)⟩ rfl (a31) (Nat.le_of_ble_eq_true rfl) (c_addSigns hc31 hK31 (by omega) p (kL (tC (aT A) t)) (by omega) (Nat.le_refl _) (by omega)) (fun v h105 hq105 => ?_) | refine ev_callVU3 dX6_insert_105 cal_X1_addSigns lk_6_94 ⟨(Nat.le_of_ble_eq_true rfl), (Nat.le_of_ble_eq_true rfl)⟩ rfl (c31) (Nat.le_of_ble_eq_true rfl) (c_addSigns hc31 hK31 (by omega) p (kL (tC (aT A) t)) (by omega) (Nat.le_refl _) (by omega)) (fun v h105 hq105 => ?_) | refine ev_callVU3 dX6_insert_105 cal_X1_addSigns lk_6_94 ⟨(Nat.le_of_ble_eq_true rfl), (Nat.le_of_ble_eq_true rfl)⟩ rfl (k31) (Nat.le_of_ble_eq_true rfl) (c_addSigns hc31 hK31 (by omega) p (kL (tC (aT A) t)) (by omega) (Nat.le_refl _) (by omega)) (fun v h105 hq105 => ?_)
        refine ev_pc (pc' := 108) rfl ?_
        obtain ⟨rfl, hc4, o4⟩ := hq105
        have ho := ((o2.tr o3).tr o31).tr o4
        have hc5 : CutN h105 261 (rawK (kL (tC (aT A) t) + (smN (addN (aD A)) (aB A))) (insF (kS (tC (aT A) t)) (tlN (aD A) (aB A)) p (smN (addN (aD A)) (aB A)))) := by
          have e : 0 + (p - 0) + (smN (addN (aD A)) (aB A)) + (kL (tC (aT A) t) - p) = (kL (tC (aT A) t) + (smN (addN (aD A)) (aB A))) := by omega
          rw [e] at hc4
          refine hc4.ext (fun j hj => ?_)
          unfold insF
          by_cases z : j < p
          · rw [if_pos z, catF_lt (by omega), catF_lt (by omega), catF_ge (by omega), Nat.zero_add, Nat.sub_zero]
          · rw [if_neg z]
            by_cases z2 : j < p + (smN (addN (aD A)) (aB A))
            · rw [if_pos z2, catF_lt (by omega), catF_ge (by omega)]
              congr 1
              omega
            · rw [if_neg z2, catF_ge (by omega)]
              congr 1
              omega
        have hA3 : ClsN h105 A := Tri.clear hA ho hc5
        have aa := hA3.1
        have hr : TriN h105 A (kL (tC (aT A) t) + (smN (addN (aD A)) (aB A))) (insF (kS (tC (aT A) t)) (tlN (aD A) (aB A)) p (smN (addN (aD A)) (aB A))) := ⟨hA3, hc5, h1⟩
        refine ev_aload_n dX6_insert_108 rfl rfl ?_
        refine ev_iload_n dX6_insert_109 rfl rfl ?_
        refine ev_callVU1 dX6_insert_110 cal_X6_changeToTrial lk_6_65 ⟨(Nat.le_of_ble_eq_true rfl), (Nat.le_of_ble_eq_true rfl)⟩ rfl (aa) (Nat.le_of_ble_eq_true rfl) (c_changeToTrial hr t ht hk hok) (fun v h110 hq110 => ?_)
        refine ev_pc (pc' := 113) rfl ?_
        obtain ⟨rfl, hA2, oo⟩ := hq110
        have aa2 := hA2.1
        obtain ⟨e0, e1, e2, e3, e4⟩ := id hA2
        obtain ⟨⟨eb, -⟩, -⟩ := id e3
        refine ev_istore (L' := [_, _, _, _, _]) dX6_insert_113 (Nat.le_of_ble_eq_true rfl) rfl ?_
        refine ev_aload_n dX6_insert_115 rfl rfl ?_
        first | refine ev_getfield dX6_insert_116 lf_6_26 (aa2) rfl ?_ | refine ev_getfield dX6_insert_116 lf_6_26 (eb) rfl ?_
        first | refine ev_callVU0 dX6_insert_119 cal_X0_clear lk_6_69 ⟨(Nat.le_of_ble_eq_true rfl), (Nat.le_of_ble_eq_true rfl)⟩ rfl (aa2) (Nat.le_of_ble_eq_true rfl) (c_Buf_clear e3) (fun v h119 hq119 => ?_) | refine ev_callVU0 dX6_insert_119 cal_X0_clear lk_6_69 ⟨(Nat.le_of_ble_eq_true rfl), (Nat.le_of_ble_eq_true rfl)⟩ rfl (eb) (Nat.le_of_ble_eq_true rfl) (c_Buf_clear e3) (fun v h119 hq119 => ?_)
        refine ev_pc (pc' := 122) rfl ?_
        obtain ⟨rfl, hb6, o6⟩ := hq119
        refine ev_iload dX6_insert_122 rfl ?_
        refine ev_ireturn dX6_insert_124 rfl (Or.inl rfl) (Nat.zero_le _) (Nat.zero_le _) ?_
        exact ⟨_, rfl, rfl, ⟨(o6 0 (by omega)).trans aa2, e1.go o6 (by omega), e2.go o6 (by omega), hb6, e4.go o6 (by omega)⟩, ((ho.up (by omega) (by omega)).tr oo).tr (o6.up (by omega) (by omega))⟩
      · refine ev_pc (pc' := 57) rfl ?_
        omega
    · refine ev_pc (pc' := 26) rfl ?_
      first | exact hc15.elim | omega
set_option maxHeartbeats 4000000 in
set_option maxRecDepth 100000 in
theorem x_insert9 {X : mX} {h : mH} {A : mAs} (hA : ClsN h A) (t : Nat) (ht : t < 4) (p : Nat) (hp : p ≤ kL (tC (aT A) t)) (hw : whol (aD A) (aB A) = true) (h40 : kL (tC (aT A) t) + (smN (addN (aD A)) (aB A)) ≤ 40) (h1 : ∀ j, j < (kL (tC (aT A) t) + (smN (addN (aD A)) (aB A))) → 1 ≤ (insF (kS (tC (aT A) t)) (tlN (aD A) (aB A)) p (smN (addN (aD A)) (aB A))) j) (hk : ChOK (aT A) t (cutK (tV (aT A)) (kL (tC (aT A) t) + (smN (addN (aD A)) (aB A))) (insF (kS (tC (aT A) t)) (tlN (aD A) (aB A)) p (smN (addN (aD A)) (aB A))))) (hok : okS (aT A) t (cutK (tV (aT A)) (kL (tC (aT A) t) + (smN (addN (aD A)) (aB A))) (insF (kS (tC (aT A) t)) (tlN (aD A) (aB A)) p (smN (addN (aD A)) (aB A)))) = false) : CnX X m_X6_insert [.ref 0, .int (nI t), .int (nI p)] h 2 (fun h1 => ClsN h1 A ∧ Out h h1 0 270) := by
  obtain ⟨a0, hT, hH, hBf, hW⟩ := id hA
  obtain ⟨t0, ⟨f, t1, t2⟩, hcs, hsto, hset⟩ := id hT
  obtain ⟨m0, hm6, -⟩ := id hH
  obtain ⟨⟨b0, bf, b1, hbf⟩, hb60, hbd⟩ := id hBf
  obtain ⟨-, ⟨K1, wc⟩, -, -⟩ := id hW
  obtain ⟨_, _, _, _, _, ⟨c0, -, -, -, -, -⟩, -⟩ := id wc
  have hcK := hcs t ht
  obtain ⟨_, _, _, _, _, ⟨k0, -, -, -, -, -⟩, hL40, -⟩ := id hcK
  have hLL : kL (tC (aT A) t) ≤ 40 := hL40
  refine cn_of_ev (L0 := [_, _, _, _, _]) (by decide +kernel) rfl rfl (Nat.le_of_ble_eq_true rfl) rfl ?_
  refine ev_iload_n dX6_insert_0 rfl rfl ?_
  refine ev_callSP1 dX6_insert_1 cal_X6_requireText lk_6_51 ⟨(Nat.le_of_ble_eq_true rfl), (Nat.le_of_ble_eq_true rfl)⟩ rfl (Nat.le_of_ble_eq_true rfl) (c_requireText t ht) ?_
  refine ev_aload_n dX6_insert_4 rfl rfl ?_
  first | refine ev_getfield dX6_insert_5 lf_6_10 (a0) rfl ?_ | refine ev_getfield dX6_insert_5 lf_6_10 (t0) rfl ?_ | refine ev_getfield dX6_insert_5 lf_6_10 (k0) rfl ?_ | refine ev_getfield dX6_insert_5 lf_6_10 (b0) rfl ?_
  first | refine ev_getfield dX6_insert_8 lf_6_70 (a0) rfl ?_ | refine ev_getfield dX6_insert_8 lf_6_70 (t0) rfl ?_ | refine ev_getfield dX6_insert_8 lf_6_70 (k0) rfl ?_ | refine ev_getfield dX6_insert_8 lf_6_70 (b0) rfl ?_
  refine ev_iload_n dX6_insert_11 rfl rfl ?_
  refine ev_aaloadN dX6_insert_12 (Or.inl rfl) t1 (by omega) (by decide) (t2 t ht) ?_
  refine ev_astore_n (L' := [_, _, _, _, _]) dX6_insert_13 rfl (Nat.le_of_ble_eq_true rfl) rfl ?_
  refine ev_iload_n dX6_insert_14 rfl rfl ?_
  refine ev_if_ltN 26 dX6_insert_15 rfl (by omega) (fun hc15 => ?_) (fun hc15 => ?_)
  · refine ev_pc (pc' := 26) rfl ?_
    first | exact hc15.elim | omega
  · refine ev_iload_n dX6_insert_18 rfl rfl ?_
    refine ev_aload_n dX6_insert_19 rfl rfl ?_
    first | refine ev_getfield dX6_insert_20 lf_6_74 (a0) rfl ?_ | refine ev_getfield dX6_insert_20 lf_6_74 (t0) rfl ?_ | refine ev_getfield dX6_insert_20 lf_6_74 (k0) rfl ?_ | refine ev_getfield dX6_insert_20 lf_6_74 (b0) rfl ?_
    refine ev_icmp_leN 36 dX6_insert_23 rfl (by omega) (by omega) (fun hc23 => ?_) (fun hc23 => ?_)
    · refine ev_aload_n dX6_insert_36 rfl rfl ?_
      first | refine ev_callVP0 dX6_insert_37 cal_X6_requireCompleteBuffer lk_6_55 ⟨(Nat.le_of_ble_eq_true rfl), (Nat.le_of_ble_eq_true rfl)⟩ rfl (a0) (Nat.le_of_ble_eq_true rfl) (c_requireCompleteBuffer hA hw) ?_ | refine ev_callVP0 dX6_insert_37 cal_X6_requireCompleteBuffer lk_6_55 ⟨(Nat.le_of_ble_eq_true rfl), (Nat.le_of_ble_eq_true rfl)⟩ rfl (t0) (Nat.le_of_ble_eq_true rfl) (c_requireCompleteBuffer hA hw) ?_ | refine ev_callVP0 dX6_insert_37 cal_X6_requireCompleteBuffer lk_6_55 ⟨(Nat.le_of_ble_eq_true rfl), (Nat.le_of_ble_eq_true rfl)⟩ rfl (k0) (Nat.le_of_ble_eq_true rfl) (c_requireCompleteBuffer hA hw) ?_ | refine ev_callVP0 dX6_insert_37 cal_X6_requireCompleteBuffer lk_6_55 ⟨(Nat.le_of_ble_eq_true rfl), (Nat.le_of_ble_eq_true rfl)⟩ rfl (b0) (Nat.le_of_ble_eq_true rfl) (c_requireCompleteBuffer hA hw) ?_
      refine ev_aload_n dX6_insert_40 rfl rfl ?_
      first | refine ev_getfield dX6_insert_41 lf_6_74 (a0) rfl ?_ | refine ev_getfield dX6_insert_41 lf_6_74 (t0) rfl ?_ | refine ev_getfield dX6_insert_41 lf_6_74 (k0) rfl ?_ | refine ev_getfield dX6_insert_41 lf_6_74 (b0) rfl ?_
      refine ev_aload_n dX6_insert_44 rfl rfl ?_
      first | refine ev_getfield dX6_insert_45 lf_6_26 (a0) rfl ?_ | refine ev_getfield dX6_insert_45 lf_6_26 (t0) rfl ?_ | refine ev_getfield dX6_insert_45 lf_6_26 (k0) rfl ?_ | refine ev_getfield dX6_insert_45 lf_6_26 (b0) rfl ?_
      first | refine ev_callVP0 dX6_insert_48 cal_X0_signs lk_6_85 ⟨(Nat.le_of_ble_eq_true rfl), (Nat.le_of_ble_eq_true rfl)⟩ rfl (a0) (Nat.le_of_ble_eq_true rfl) (c_Buf_signs hBf) ?_ | refine ev_callVP0 dX6_insert_48 cal_X0_signs lk_6_85 ⟨(Nat.le_of_ble_eq_true rfl), (Nat.le_of_ble_eq_true rfl)⟩ rfl (t0) (Nat.le_of_ble_eq_true rfl) (c_Buf_signs hBf) ?_ | refine ev_callVP0 dX6_insert_48 cal_X0_signs lk_6_85 ⟨(Nat.le_of_ble_eq_true rfl), (Nat.le_of_ble_eq_true rfl)⟩ rfl (k0) (Nat.le_of_ble_eq_true rfl) (c_Buf_signs hBf) ?_ | refine ev_callVP0 dX6_insert_48 cal_X0_signs lk_6_85 ⟨(Nat.le_of_ble_eq_true rfl), (Nat.le_of_ble_eq_true rfl)⟩ rfl (b0) (Nat.le_of_ble_eq_true rfl) (c_Buf_signs hBf) ?_
      refine ev_iaddN dX6_insert_51 ?_
      refine ev_bipush (nI 40) dX6_insert_52 rfl ?_
      refine ev_icmp_leN 67 dX6_insert_54 rfl (by omega) (by omega) (fun hc54 => ?_) (fun hc54 => ?_)
      · refine ev_pc (pc' := 67) rfl ?_
        refine ev_aload_n dX6_insert_67 rfl rfl ?_
        first | refine ev_getfield dX6_insert_68 lf_6_36 (a0) rfl ?_ | refine ev_getfield dX6_insert_68 lf_6_36 (c0) rfl ?_
        first | refine ev_callVU0 dX6_insert_71 cal_X1_clear lk_6_58 ⟨(Nat.le_of_ble_eq_true rfl), (Nat.le_of_ble_eq_true rfl)⟩ rfl (a0) (Nat.le_of_ble_eq_true rfl) (c_Cut_clear wc) (fun v h71 hq71 => ?_) | refine ev_callVU0 dX6_insert_71 cal_X1_clear lk_6_58 ⟨(Nat.le_of_ble_eq_true rfl), (Nat.le_of_ble_eq_true rfl)⟩ rfl (c0) (Nat.le_of_ble_eq_true rfl) (c_Cut_clear wc) (fun v h71 hq71 => ?_)
        refine ev_pc (pc' := 74) rfl ?_
        obtain ⟨rfl, hc2, o2⟩ := hq71
        have a2 := (o2 0 (by omega)).trans a0
        have hK2 := hcK.go o2 (by omega)
        have hB2 := hBf.go o2 (by omega)
        obtain ⟨_, _, _, _, _, ⟨c2, -, -, -, -, -⟩, -⟩ := id hc2
        refine ev_aload_n dX6_insert_74 rfl rfl ?_
        first | refine ev_getfield dX6_insert_75 lf_6_36 (a2) rfl ?_ | refine ev_getfield dX6_insert_75 lf_6_36 (c2) rfl ?_
        refine ev_aload_n dX6_insert_78 rfl rfl ?_
        refine ev_iconst (nI 0) dX6_insert_79 rfl ?_
        refine ev_iload_n dX6_insert_80 rfl rfl ?_
        first | refine ev_callVU3 dX6_insert_81 cal_X1_addSigns lk_6_94 ⟨(Nat.le_of_ble_eq_true rfl), (Nat.le_of_ble_eq_true rfl)⟩ rfl (a2) (Nat.le_of_ble_eq_true rfl) (c_addSigns hc2 hK2 (by omega) 0 p (Nat.zero_le _) (by omega) (by omega)) (fun v h81 hq81 => ?_) | refine ev_callVU3 dX6_insert_81 cal_X1_addSigns lk_6_94 ⟨(Nat.le_of_ble_eq_true rfl), (Nat.le_of_ble_eq_true rfl)⟩ rfl (c2) (Nat.le_of_ble_eq_true rfl) (c_addSigns hc2 hK2 (by omega) 0 p (Nat.zero_le _) (by omega) (by omega)) (fun v h81 hq81 => ?_)
        refine ev_pc (pc' := 84) rfl ?_
        obtain ⟨rfl, hc3, o3⟩ := hq81
        have a3 := (o3 0 (by omega)).trans a2
        have hK3 := hK2.go o3 (by omega)
        have hB3 := hB2.go o3 (by omega)
        obtain ⟨_, _, _, _, _, ⟨c3, -, -, -, -, -⟩, -⟩ := id hc3
        obtain ⟨⟨b03, -⟩, -⟩ := id hB3
        refine ev_aload_n dX6_insert_84 rfl rfl ?_
        first | refine ev_getfield dX6_insert_85 lf_6_26 (a3) rfl ?_ | refine ev_getfield dX6_insert_85 lf_6_26 (c3) rfl ?_ | refine ev_getfield dX6_insert_85 lf_6_26 (b03) rfl ?_
        refine ev_aload_n dX6_insert_88 rfl rfl ?_
        first | refine ev_getfield dX6_insert_89 lf_6_36 (a3) rfl ?_ | refine ev_getfield dX6_insert_89 lf_6_36 (c3) rfl ?_ | refine ev_getfield dX6_insert_89 lf_6_36 (b03) rfl ?_
        first | refine ev_callVU1 dX6_insert_92 cal_X0_readInto lk_6_61 ⟨(Nat.le_of_ble_eq_true rfl), (Nat.le_of_ble_eq_true rfl)⟩ rfl (a3) (Nat.le_of_ble_eq_true rfl) (c_readInto hB3 hc3 (by omega) (by omega)) (fun v h92 hq92 => ?_) | refine ev_callVU1 dX6_insert_92 cal_X0_readInto lk_6_61 ⟨(Nat.le_of_ble_eq_true rfl), (Nat.le_of_ble_eq_true rfl)⟩ rfl (c3) (Nat.le_of_ble_eq_true rfl) (c_readInto hB3 hc3 (by omega) (by omega)) (fun v h92 hq92 => ?_) | refine ev_callVU1 dX6_insert_92 cal_X0_readInto lk_6_61 ⟨(Nat.le_of_ble_eq_true rfl), (Nat.le_of_ble_eq_true rfl)⟩ rfl (b03) (Nat.le_of_ble_eq_true rfl) (c_readInto hB3 hc3 (by omega) (by omega)) (fun v h92 hq92 => ?_)
        refine ev_pc (pc' := 95) rfl ?_
        obtain ⟨rfl, hc31, o31⟩ := hq92
        have a31 := (o31 0 (by omega)).trans a3
        have hK31 := hK3.go o31 (by omega)
        obtain ⟨_, _, _, _, _, ⟨c31, -, -, -, -, -⟩, -⟩ := id hc31
        obtain ⟨_, _, _, _, _, ⟨k31, -, -, -, -, -⟩, -⟩ := id hK31
        refine ev_aload_n dX6_insert_95 rfl rfl ?_
        first | refine ev_getfield dX6_insert_96 lf_6_36 (a31) rfl ?_ | refine ev_getfield dX6_insert_96 lf_6_36 (c31) rfl ?_ | refine ev_getfield dX6_insert_96 lf_6_36 (k31) rfl ?_
        refine ev_aload_n dX6_insert_99 rfl rfl ?_
        refine ev_iload_n dX6_insert_100 rfl rfl ?_
        refine ev_aload_n dX6_insert_101 rfl rfl ?_
        first | refine ev_getfield dX6_insert_102 lf_6_74 (a31) rfl ?_ | refine ev_getfield dX6_insert_102 lf_6_74 (c31) rfl ?_ | refine ev_getfield dX6_insert_102 lf_6_74 (k31) rfl ?_
        first | refine ev_callVU3 dX6_insert_105 cal_X1_addSigns lk_6_94 ⟨(Nat.le_of_ble_eq_true rfl), (Nat.le_of_ble_eq_true rfl)⟩ rfl (a31) (Nat.le_of_ble_eq_true rfl) (c_addSigns hc31 hK31 (by omega) p (kL (tC (aT A) t)) (by omega) (Nat.le_refl _) (by omega)) (fun v h105 hq105 => ?_) | refine ev_callVU3 dX6_insert_105 cal_X1_addSigns lk_6_94 ⟨(Nat.le_of_ble_eq_true rfl), (Nat.le_of_ble_eq_true rfl)⟩ rfl (c31) (Nat.le_of_ble_eq_true rfl) (c_addSigns hc31 hK31 (by omega) p (kL (tC (aT A) t)) (by omega) (Nat.le_refl _) (by omega)) (fun v h105 hq105 => ?_) | refine ev_callVU3 dX6_insert_105 cal_X1_addSigns lk_6_94 ⟨(Nat.le_of_ble_eq_true rfl), (Nat.le_of_ble_eq_true rfl)⟩ rfl (k31) (Nat.le_of_ble_eq_true rfl) (c_addSigns hc31 hK31 (by omega) p (kL (tC (aT A) t)) (by omega) (Nat.le_refl _) (by omega)) (fun v h105 hq105 => ?_)
        refine ev_pc (pc' := 108) rfl ?_
        obtain ⟨rfl, hc4, o4⟩ := hq105
        have ho := ((o2.tr o3).tr o31).tr o4
        have hc5 : CutN h105 261 (rawK (kL (tC (aT A) t) + (smN (addN (aD A)) (aB A))) (insF (kS (tC (aT A) t)) (tlN (aD A) (aB A)) p (smN (addN (aD A)) (aB A)))) := by
          have e : 0 + (p - 0) + (smN (addN (aD A)) (aB A)) + (kL (tC (aT A) t) - p) = (kL (tC (aT A) t) + (smN (addN (aD A)) (aB A))) := by omega
          rw [e] at hc4
          refine hc4.ext (fun j hj => ?_)
          unfold insF
          by_cases z : j < p
          · rw [if_pos z, catF_lt (by omega), catF_lt (by omega), catF_ge (by omega), Nat.zero_add, Nat.sub_zero]
          · rw [if_neg z]
            by_cases z2 : j < p + (smN (addN (aD A)) (aB A))
            · rw [if_pos z2, catF_lt (by omega), catF_ge (by omega)]
              congr 1
              omega
            · rw [if_neg z2, catF_ge (by omega)]
              congr 1
              omega
        have hA3 : ClsN h105 A := Tri.clear hA ho hc5
        have aa := hA3.1
        have hr : TriN h105 A (kL (tC (aT A) t) + (smN (addN (aD A)) (aB A))) (insF (kS (tC (aT A) t)) (tlN (aD A) (aB A)) p (smN (addN (aD A)) (aB A))) := ⟨hA3, hc5, h1⟩
        refine ev_aload_n dX6_insert_108 rfl rfl ?_
        refine ev_iload_n dX6_insert_109 rfl rfl ?_
        refine ev_callVX1 dX6_insert_110 cal_X6_changeToTrial lk_6_65 ⟨(Nat.le_of_ble_eq_true rfl), (Nat.le_of_ble_eq_true rfl)⟩ rfl (aa) (Nat.le_of_ble_eq_true rfl) (x_changeToTrial hr t ht hk hok) (fun h110 hq110 => ?_)
        exact ⟨rfl, hq110.1, (ho.up (by omega) (by omega)).tr hq110.2⟩
      · refine ev_pc (pc' := 57) rfl ?_
        omega
    · refine ev_pc (pc' := 26) rfl ?_
      first | exact hc15.elim | omega
set_option maxHeartbeats 4000000 in
set_option maxRecDepth 100000 in
theorem x_ifSet {X : mX} {h : mH} (t u w : Int32) (ht : inX t 0 4 = false) : CnX X m_X6_ifSet [.ref 0, .int t, .int u, .int w] h 0 (fun h1 => h1 = h) := by
  refine cn_of_ev (L0 := [_, _, _, _]) (by decide +kernel) rfl rfl (Nat.le_of_ble_eq_true rfl) rfl ?_
  refine ev_iload_n dX6_ifSet_0 rfl rfl ?_
  refine ev_callSX1 dX6_ifSet_1 cal_X6_requireText lk_6_51 ⟨(Nat.le_of_ble_eq_true rfl), (Nat.le_of_ble_eq_true rfl)⟩ rfl (Nat.le_of_ble_eq_true rfl) (x_requireText t ht) (fun h1 hq1 => ?_)
  exact ⟨rfl, hq1⟩
set_option maxHeartbeats 4000000 in
set_option maxRecDepth 100000 in
theorem x_ifSet2 {X : mX} {h : mH} (t : Nat) (u w : Int32) (ht : t < 4) (hu : inX u 0 5 = false) : CnX X m_X6_ifSet [.ref 0, .int (nI t), .int u, .int w] h 0 (fun h1 => h1 = h) := by
  refine cn_of_ev (L0 := [_, _, _, _]) (by decide +kernel) rfl rfl (Nat.le_of_ble_eq_true rfl) rfl ?_
  refine ev_iload_n dX6_ifSet_0 rfl rfl ?_
  refine ev_callSP1 dX6_ifSet_1 cal_X6_requireText lk_6_51 ⟨(Nat.le_of_ble_eq_true rfl), (Nat.le_of_ble_eq_true rfl)⟩ rfl (Nat.le_of_ble_eq_true rfl) (c_requireText t ht) ?_
  refine ev_iload_n dX6_ifSet_4 rfl rfl ?_
  refine ev_callSX1 dX6_ifSet_5 cal_X6_requireSetting lk_6_127 ⟨(Nat.le_of_ble_eq_true rfl), (Nat.le_of_ble_eq_true rfl)⟩ rfl (Nat.le_of_ble_eq_true rfl) (x_requireSetting u hu) (fun h5 hq5 => ?_)
  exact ⟨rfl, hq5⟩
set_option maxHeartbeats 4000000 in
set_option maxRecDepth 100000 in
theorem x_ifSet3 {X : mX} {h : mH} (hro : RO X) (t k : Nat) (w : Int32) (ht : t < 4) (hk : k < 5) (hw : inX w (lowF k) (higF k + 1) = false) : CnX X m_X6_ifSet [.ref 0, .int (nI t), .int (nI k), .int w] h 1 (fun h1 => h1 = h) := by
  refine cn_of_ev (L0 := [_, _, _, _]) (by decide +kernel) rfl rfl (Nat.le_of_ble_eq_true rfl) rfl ?_
  refine ev_iload_n dX6_ifSet_0 rfl rfl ?_
  refine ev_callSP1 dX6_ifSet_1 cal_X6_requireText lk_6_51 ⟨(Nat.le_of_ble_eq_true rfl), (Nat.le_of_ble_eq_true rfl)⟩ rfl (Nat.le_of_ble_eq_true rfl) (c_requireText t ht) ?_
  refine ev_iload_n dX6_ifSet_4 rfl rfl ?_
  refine ev_callSP1 dX6_ifSet_5 cal_X6_requireSetting lk_6_127 ⟨(Nat.le_of_ble_eq_true rfl), (Nat.le_of_ble_eq_true rfl)⟩ rfl (Nat.le_of_ble_eq_true rfl) (c_requireSetting k hk) ?_
  refine ev_iload_n dX6_ifSet_8 rfl rfl ?_
  refine ev_iload_n dX6_ifSet_9 rfl rfl ?_
  refine ev_callSX2 dX6_ifSet_10 cal_X6_requireValue lk_6_130 ⟨(Nat.le_of_ble_eq_true rfl), (Nat.le_of_ble_eq_true rfl)⟩ rfl (Nat.le_of_ble_eq_true rfl) (x_requireValue hro k w hk hw) (fun h10 hq10 => ?_)
  exact ⟨rfl, hq10⟩
set_option maxHeartbeats 4000000 in
set_option maxRecDepth 100000 in
theorem c_ifSet {X : mX} {h : mH} {A : mAs} (hA : ClsN h A) (hro : RO X) (t k x : Nat) (ht : t < 4) (hk : k < 5) (hx1 : lowF k ≤ x) (hx2 : x ≤ higF k) (h1 : ∀ j, j < kL (tC (aT A) t) → 1 ≤ kS (tC (aT A) t) j) : CnU X m_X6_ifSet [.ref 0, .int (nI t), .int (nI k), .int (nI x)] h (fun v h1 => v = some (.int (nI (kN (cutK (upN (tV (aT A)) k x) (kL (tC (aT A) t)) (kS (tC (aT A) t)))))) ∧ ClsN h1 A ∧ Out h h1 0 270) := by
  obtain ⟨a0, hT, hH, hBf, hW⟩ := id hA
  obtain ⟨t0, ⟨f, t1, t2⟩, hcs, hsto, hset⟩ := id hT
  obtain ⟨m0, hm6, -⟩ := id hH
  obtain ⟨⟨b0, bf, b1, hbf⟩, hb60, hbd⟩ := id hBf
  obtain ⟨⟨T1, w1⟩, ⟨K1, w2⟩, ⟨v1, w3⟩, f1, w4⟩ := id hW
  obtain ⟨⟨s0, -⟩, -⟩ := id w3
  refine cn_of_ev (L0 := [_, _, _, _]) (by decide +kernel) rfl rfl (Nat.le_of_ble_eq_true rfl) rfl ?_
  refine ev_iload_n dX6_ifSet_0 rfl rfl ?_
  refine ev_callSP1 dX6_ifSet_1 cal_X6_requireText lk_6_51 ⟨(Nat.le_of_ble_eq_true rfl), (Nat.le_of_ble_eq_true rfl)⟩ rfl (Nat.le_of_ble_eq_true rfl) (c_requireText t ht) ?_
  refine ev_iload_n dX6_ifSet_4 rfl rfl ?_
  refine ev_callSP1 dX6_ifSet_5 cal_X6_requireSetting lk_6_127 ⟨(Nat.le_of_ble_eq_true rfl), (Nat.le_of_ble_eq_true rfl)⟩ rfl (Nat.le_of_ble_eq_true rfl) (c_requireSetting k hk) ?_
  refine ev_iload_n dX6_ifSet_8 rfl rfl ?_
  refine ev_iload_n dX6_ifSet_9 rfl rfl ?_
  refine ev_callSP2 dX6_ifSet_10 cal_X6_requireValue lk_6_130 ⟨(Nat.le_of_ble_eq_true rfl), (Nat.le_of_ble_eq_true rfl)⟩ rfl (Nat.le_of_ble_eq_true rfl) (c_requireValue hro k x hk hx1 hx2) ?_
  refine ev_aload_n dX6_ifSet_13 rfl rfl ?_
  first | refine ev_getfield dX6_ifSet_14 lf_6_43 (a0) rfl ?_ | refine ev_getfield dX6_ifSet_14 lf_6_43 (t0) rfl ?_ | refine ev_getfield dX6_ifSet_14 lf_6_43 (s0) rfl ?_
  refine ev_aload_n dX6_ifSet_17 rfl rfl ?_
  first | refine ev_getfield dX6_ifSet_18 lf_6_10 (a0) rfl ?_ | refine ev_getfield dX6_ifSet_18 lf_6_10 (t0) rfl ?_ | refine ev_getfield dX6_ifSet_18 lf_6_10 (s0) rfl ?_
  first | refine ev_getfield dX6_ifSet_21 lf_6_134 (a0) rfl ?_ | refine ev_getfield dX6_ifSet_21 lf_6_134 (t0) rfl ?_ | refine ev_getfield dX6_ifSet_21 lf_6_134 (s0) rfl ?_
  first | refine ev_callVU1 dX6_ifSet_24 cal_X3_become lk_6_282 ⟨(Nat.le_of_ble_eq_true rfl), (Nat.le_of_ble_eq_true rfl)⟩ rfl (a0) (Nat.le_of_ble_eq_true rfl) (c_Set_become hset w3 (by omega)) (fun v h24 hq24 => ?_) | refine ev_callVU1 dX6_ifSet_24 cal_X3_become lk_6_282 ⟨(Nat.le_of_ble_eq_true rfl), (Nat.le_of_ble_eq_true rfl)⟩ rfl (t0) (Nat.le_of_ble_eq_true rfl) (c_Set_become hset w3 (by omega)) (fun v h24 hq24 => ?_) | refine ev_callVU1 dX6_ifSet_24 cal_X3_become lk_6_282 ⟨(Nat.le_of_ble_eq_true rfl), (Nat.le_of_ble_eq_true rfl)⟩ rfl (s0) (Nat.le_of_ble_eq_true rfl) (c_Set_become hset w3 (by omega)) (fun v h24 hq24 => ?_)
  refine ev_pc (pc' := 27) rfl ?_
  obtain ⟨rfl, hs2, o2⟩ := hq24
  have a2 := (o2 0 (by omega)).trans a0
  obtain ⟨⟨s02, w, s12, hw2⟩, -⟩ := id hs2
  refine ev_aload_n dX6_ifSet_27 rfl rfl ?_
  first | refine ev_getfield dX6_ifSet_28 lf_6_43 (a2) rfl ?_ | refine ev_getfield dX6_ifSet_28 lf_6_43 (s02) rfl ?_ | refine ev_getfield dX6_ifSet_28 lf_6_43 (s12) rfl ?_
  first | refine ev_getfield dX6_ifSet_31 lf_6_137 (a2) rfl ?_ | refine ev_getfield dX6_ifSet_31 lf_6_137 (s02) rfl ?_ | refine ev_getfield dX6_ifSet_31 lf_6_137 (s12) rfl ?_
  refine ev_iload_n dX6_ifSet_34 rfl rfl ?_
  refine ev_iload_n dX6_ifSet_35 rfl rfl ?_
  first | refine ev_iastoreF dX6_ifSet_36 (a2) (by omega) (by decide) ?_ | refine ev_iastoreF dX6_ifSet_36 (s02) (by omega) (by decide) ?_ | refine ev_iastoreF dX6_ifSet_36 (s12) (by omega) (by decide) ?_
  refine ev_pc (pc' := 37) rfl ?_
  have hs3 := hs2.up hk hx1 hx2 hw2 s02
  have o3 : Out h24 (mset h24 (267 + 1) (aI 5 (nf (upN w k x)))) 267 2 := Out.set (by omega) (by omega)
  generalize mset h24 (267 + 1) (aI 5 (nf (upN w k x))) = h37 at *
  have o23 := o2.tr o3
  have a3 := (o23 0 (by omega)).trans a0
  have hT3 := hT.go o23 (by omega)
  have w23 := w2.go o23 (by omega)
  obtain ⟨t03, ⟨f3, t13, t23⟩, hcs3, hsto3, hset3⟩ := id hT3
  obtain ⟨_, _, _, _, _, ⟨c0, -, -, -, -, -⟩, -⟩ := id w23
  refine ev_aload_n dX6_ifSet_37 rfl rfl ?_
  first | refine ev_getfield dX6_ifSet_38 lf_6_36 (a3) rfl ?_ | refine ev_getfield dX6_ifSet_38 lf_6_36 (t03) rfl ?_ | refine ev_getfield dX6_ifSet_38 lf_6_36 (c0) rfl ?_
  refine ev_aload_n dX6_ifSet_41 rfl rfl ?_
  first | refine ev_getfield dX6_ifSet_42 lf_6_10 (a3) rfl ?_ | refine ev_getfield dX6_ifSet_42 lf_6_10 (t03) rfl ?_ | refine ev_getfield dX6_ifSet_42 lf_6_10 (c0) rfl ?_
  first | refine ev_getfield dX6_ifSet_45 lf_6_70 (a3) rfl ?_ | refine ev_getfield dX6_ifSet_45 lf_6_70 (t03) rfl ?_ | refine ev_getfield dX6_ifSet_45 lf_6_70 (c0) rfl ?_
  refine ev_iload_n dX6_ifSet_48 rfl rfl ?_
  refine ev_aaloadN dX6_ifSet_49 (Or.inl rfl) t13 (by omega) (by decide) (t23 t ht) ?_
  first | refine ev_callVU1 dX6_ifSet_50 cal_X1_becomeSignsOf lk_6_107 ⟨(Nat.le_of_ble_eq_true rfl), (Nat.le_of_ble_eq_true rfl)⟩ rfl (a3) (Nat.le_of_ble_eq_true rfl) (c_becomeSignsOf w23 (hcs3 t ht) (by omega)) (fun v h50 hq50 => ?_) | refine ev_callVU1 dX6_ifSet_50 cal_X1_becomeSignsOf lk_6_107 ⟨(Nat.le_of_ble_eq_true rfl), (Nat.le_of_ble_eq_true rfl)⟩ rfl (t03) (Nat.le_of_ble_eq_true rfl) (c_becomeSignsOf w23 (hcs3 t ht) (by omega)) (fun v h50 hq50 => ?_) | refine ev_callVU1 dX6_ifSet_50 cal_X1_becomeSignsOf lk_6_107 ⟨(Nat.le_of_ble_eq_true rfl), (Nat.le_of_ble_eq_true rfl)⟩ rfl (c0) (Nat.le_of_ble_eq_true rfl) (c_becomeSignsOf w23 (hcs3 t ht) (by omega)) (fun v h50 hq50 => ?_)
  refine ev_pc (pc' := 53) rfl ?_
  obtain ⟨rfl, hc4, o4⟩ := hq50
  have a4 := (o4 0 (by omega)).trans a3
  have hs4 := hs3.go o4 (by omega)
  obtain ⟨_, _, _, _, _, ⟨c04, -, -, -, -, -⟩, -⟩ := id hc4
  refine ev_aload_n dX6_ifSet_53 rfl rfl ?_
  first | refine ev_getfield dX6_ifSet_54 lf_6_36 (a4) rfl ?_ | refine ev_getfield dX6_ifSet_54 lf_6_36 (c04) rfl ?_
  refine ev_aload_n dX6_ifSet_57 rfl rfl ?_
  first | refine ev_getfield dX6_ifSet_58 lf_6_43 (a4) rfl ?_ | refine ev_getfield dX6_ifSet_58 lf_6_43 (c04) rfl ?_
  first | refine ev_callVU1 dX6_ifSet_61 cal_X1_cutBy lk_6_268 ⟨(Nat.le_of_ble_eq_true rfl), (Nat.le_of_ble_eq_true rfl)⟩ rfl (a4) (Nat.le_of_ble_eq_true rfl) (c_cutBy hc4 hs4 (by omega) h1) (fun v h61 hq61 => ?_) | refine ev_callVU1 dX6_ifSet_61 cal_X1_cutBy lk_6_268 ⟨(Nat.le_of_ble_eq_true rfl), (Nat.le_of_ble_eq_true rfl)⟩ rfl (c04) (Nat.le_of_ble_eq_true rfl) (c_cutBy hc4 hs4 (by omega) h1) (fun v h61 hq61 => ?_)
  refine ev_pc (pc' := 64) rfl ?_
  obtain ⟨rfl, hc5, o5⟩ := hq61
  have a5 := (o5 0 (by omega)).trans a4
  obtain ⟨_, _, _, _, _, ⟨c05, -, -, -, -, -⟩, -⟩ := id hc5
  refine ev_aload_n dX6_ifSet_64 rfl rfl ?_
  first | refine ev_getfield dX6_ifSet_65 lf_6_36 (a5) rfl ?_ | refine ev_getfield dX6_ifSet_65 lf_6_36 (c05) rfl ?_
  first | refine ev_getfield dX6_ifSet_68 lf_6_178 (a5) rfl ?_ | refine ev_getfield dX6_ifSet_68 lf_6_178 (c05) rfl ?_
  refine ev_ireturn dX6_ifSet_71 rfl (Or.inl rfl) (Nat.zero_le _) (Nat.zero_le _) ?_
  refine ⟨_, rfl, rfl, ⟨a5, (hT3.go o4 (by omega)).go o5 (by omega), ((hH.go o23 (by omega)).go o4 (by omega)).go o5 (by omega), ((hBf.go o23 (by omega)).go o4 (by omega)).go o5 (by omega), ⟨T1, ((w1.go o23 (by omega)).go o4 (by omega)).go o5 (by omega)⟩, ⟨_, hc5⟩, ⟨_, hs4.go o5 (by omega)⟩, f1, (o5 269 (by omega)).trans ((o4 269 (by omega)).trans ((o23 269 (by omega)).trans w4))⟩, ((o23.up (by omega) (by omega)).tr (o4.up (by omega) (by omega))).tr (o5.up (by omega) (by omega))⟩
set_option maxHeartbeats 4000000 in
set_option maxRecDepth 100000 in
theorem x_ifPut {X : mX} {h : mH} (t w : Int32) (ht : inX t 0 4 = false) : CnX X m_X6_ifPut [.ref 0, .int t, .int w] h 0 (fun h1 => h1 = h) := by
  refine cn_of_ev (L0 := [_, _, _]) (by decide +kernel) rfl rfl (Nat.le_of_ble_eq_true rfl) rfl ?_
  refine ev_iload_n dX6_ifPut_0 rfl rfl ?_
  refine ev_callSX1 dX6_ifPut_1 cal_X6_requireText lk_6_51 ⟨(Nat.le_of_ble_eq_true rfl), (Nat.le_of_ble_eq_true rfl)⟩ rfl (Nat.le_of_ble_eq_true rfl) (x_requireText t ht) (fun h1 hq1 => ?_)
  exact ⟨rfl, hq1⟩
set_option maxHeartbeats 4000000 in
set_option maxRecDepth 100000 in
theorem x_ifPut2 {X : mX} {h : mH} (t : Nat) (w : Int32) (ht : t < 4) (hw : inX w 0 4 = false) : CnX X m_X6_ifPut [.ref 0, .int (nI t), .int w] h 1 (fun h1 => h1 = h) := by
  refine cn_of_ev (L0 := [_, _, _]) (by decide +kernel) rfl rfl (Nat.le_of_ble_eq_true rfl) rfl ?_
  refine ev_iload_n dX6_ifPut_0 rfl rfl ?_
  refine ev_callSP1 dX6_ifPut_1 cal_X6_requireText lk_6_51 ⟨(Nat.le_of_ble_eq_true rfl), (Nat.le_of_ble_eq_true rfl)⟩ rfl (Nat.le_of_ble_eq_true rfl) (c_requireText t ht) ?_
  refine ev_iload_n dX6_ifPut_4 rfl rfl ?_
  refine ev_iconst (nI 3) dX6_ifPut_5 rfl ?_
  refine ev_callSX2 dX6_ifPut_6 cal_X6_requireWhat lk_6_160 ⟨(Nat.le_of_ble_eq_true rfl), (Nat.le_of_ble_eq_true rfl)⟩ rfl (Nat.le_of_ble_eq_true rfl) (x_requireWhat w 3 (by decide) hw) (fun h6 hq6 => ?_)
  exact ⟨rfl, hq6⟩
set_option maxHeartbeats 4000000 in
set_option maxRecDepth 100000 in
theorem c_ifPut0 {X : mX} {h : mH} {A : mAs} (hA : ClsN h A) (t w : Nat) (ht : t < 4) (hw : w < 4) (hb : whol (aD A) (aB A) = false) : CnP X m_X6_ifPut [.ref 0, .int (nI t), .int (nI w)] h (some (.int (-1))) := by
  obtain ⟨a0, hT, hH, hBf, hW⟩ := id hA
  obtain ⟨t0, ⟨f, t1, t2⟩, hcs, hsto, hset⟩ := id hT
  obtain ⟨m0, hm6, -⟩ := id hH
  obtain ⟨⟨b0, bf, b1, hbf⟩, hb60, hbd⟩ := id hBf
  refine cn_of_ev (L0 := [_, _, _]) (by decide +kernel) rfl rfl (Nat.le_of_ble_eq_true rfl) rfl ?_
  refine ev_iload_n dX6_ifPut_0 rfl rfl ?_
  refine ev_callSP1 dX6_ifPut_1 cal_X6_requireText lk_6_51 ⟨(Nat.le_of_ble_eq_true rfl), (Nat.le_of_ble_eq_true rfl)⟩ rfl (Nat.le_of_ble_eq_true rfl) (c_requireText t ht) ?_
  refine ev_iload_n dX6_ifPut_4 rfl rfl ?_
  refine ev_iconst (nI 3) dX6_ifPut_5 rfl ?_
  refine ev_callSP2 dX6_ifPut_6 cal_X6_requireWhat lk_6_160 ⟨(Nat.le_of_ble_eq_true rfl), (Nat.le_of_ble_eq_true rfl)⟩ rfl (Nat.le_of_ble_eq_true rfl) (c_requireWhat w 3 (by omega) (by decide)) ?_
  refine ev_aload_n dX6_ifPut_9 rfl rfl ?_
  first | refine ev_getfield dX6_ifPut_10 lf_6_26 (a0) rfl ?_ | refine ev_getfield dX6_ifPut_10 lf_6_26 (b0) rfl ?_
  first | refine ev_callVP0 dX6_ifPut_13 cal_X0_isComplete lk_6_264 ⟨(Nat.le_of_ble_eq_true rfl), (Nat.le_of_ble_eq_true rfl)⟩ rfl (a0) (Nat.le_of_ble_eq_true rfl) (c_isComplete hBf) ?_ | refine ev_callVP0 dX6_ifPut_13 cal_X0_isComplete lk_6_264 ⟨(Nat.le_of_ble_eq_true rfl), (Nat.le_of_ble_eq_true rfl)⟩ rfl (b0) (Nat.le_of_ble_eq_true rfl) (c_isComplete hBf) ?_
  refine ev_if_neB 21 dX6_ifPut_16 rfl (fun hc16 => ?_) (fun hc16 => ?_)
  · refine ev_pc (pc' := 21) rfl ?_
    exact absurd hb (by rw [hc16]; decide)
  · refine ev_iconst (-1) dX6_ifPut_19 rfl ?_
    refine ev_ireturn dX6_ifPut_20 rfl (Or.inl rfl) (Nat.zero_le _) (Nat.zero_le _) ?_
    exact ⟨rfl, rfl⟩
def ifpV (T : mSt) (t : Nat) (K : mCt) : Nat → Nat
  | 0 => kN K
  | 1 => ndS (tS T) K
  | 2 => ndR (tS T) K
  | _ => b2n (!(okS T t K))
set_option maxHeartbeats 4000000 in
set_option maxRecDepth 100000 in
theorem c_ifPut {X : mX} {h : mH} {A : mAs} (hA : ClsN h A) (t w : Nat) (ht : t < 4) (hw : w < 4) (hb : whol (aD A) (aB A) = true) (h40 : (smN (addN (aD A)) (aB A)) ≤ 40) (h1 : ∀ j, j < (smN (addN (aD A)) (aB A)) → 1 ≤ (tlN (aD A) (aB A)) j) (hk : ChOK (aT A) t (cutK (tV (aT A)) (smN (addN (aD A)) (aB A)) (tlN (aD A) (aB A)))) : CnU X m_X6_ifPut [.ref 0, .int (nI t), .int (nI w)] h (fun v h1 => v = some (.int (nI (ifpV (aT A) t (cutK (tV (aT A)) (smN (addN (aD A)) (aB A)) (tlN (aD A) (aB A))) w))) ∧ ClsN h1 A ∧ Out h h1 0 270) := by
  obtain ⟨a0, hT, hH, hBf, hW⟩ := id hA
  obtain ⟨t0, ⟨f, t1, t2⟩, hcs, hsto, hset⟩ := id hT
  obtain ⟨m0, hm6, -⟩ := id hH
  obtain ⟨⟨b0, bf, b1, hbf⟩, hb60, hbd⟩ := id hBf
  obtain ⟨⟨hD, hB, hO, hR⟩, hz, hKK, hF⟩ := id hk
  obtain ⟨⟨T1, w1⟩, ⟨K1, wc⟩, ⟨v1, w3⟩, f1, w4⟩ := id hW
  obtain ⟨_, _, _, _, _, ⟨c0, -, -, -, -, -⟩, -⟩ := id wc
  refine cn_of_ev (L0 := [_, _, _]) (by decide +kernel) rfl rfl (Nat.le_of_ble_eq_true rfl) rfl ?_
  refine ev_iload_n dX6_ifPut_0 rfl rfl ?_
  refine ev_callSP1 dX6_ifPut_1 cal_X6_requireText lk_6_51 ⟨(Nat.le_of_ble_eq_true rfl), (Nat.le_of_ble_eq_true rfl)⟩ rfl (Nat.le_of_ble_eq_true rfl) (c_requireText t ht) ?_
  refine ev_iload_n dX6_ifPut_4 rfl rfl ?_
  refine ev_iconst (nI 3) dX6_ifPut_5 rfl ?_
  refine ev_callSP2 dX6_ifPut_6 cal_X6_requireWhat lk_6_160 ⟨(Nat.le_of_ble_eq_true rfl), (Nat.le_of_ble_eq_true rfl)⟩ rfl (Nat.le_of_ble_eq_true rfl) (c_requireWhat w 3 (by omega) (by decide)) ?_
  refine ev_aload_n dX6_ifPut_9 rfl rfl ?_
  first | refine ev_getfield dX6_ifPut_10 lf_6_26 (a0) rfl ?_ | refine ev_getfield dX6_ifPut_10 lf_6_26 (b0) rfl ?_ | refine ev_getfield dX6_ifPut_10 lf_6_26 (c0) rfl ?_
  first | refine ev_callVP0 dX6_ifPut_13 cal_X0_isComplete lk_6_264 ⟨(Nat.le_of_ble_eq_true rfl), (Nat.le_of_ble_eq_true rfl)⟩ rfl (a0) (Nat.le_of_ble_eq_true rfl) (c_isComplete hBf) ?_ | refine ev_callVP0 dX6_ifPut_13 cal_X0_isComplete lk_6_264 ⟨(Nat.le_of_ble_eq_true rfl), (Nat.le_of_ble_eq_true rfl)⟩ rfl (b0) (Nat.le_of_ble_eq_true rfl) (c_isComplete hBf) ?_ | refine ev_callVP0 dX6_ifPut_13 cal_X0_isComplete lk_6_264 ⟨(Nat.le_of_ble_eq_true rfl), (Nat.le_of_ble_eq_true rfl)⟩ rfl (c0) (Nat.le_of_ble_eq_true rfl) (c_isComplete hBf) ?_
  refine ev_if_neB 21 dX6_ifPut_16 rfl (fun hc16 => ?_) (fun hc16 => ?_)
  · refine ev_aload_n dX6_ifPut_21 rfl rfl ?_
    first | refine ev_getfield dX6_ifPut_22 lf_6_36 (a0) rfl ?_ | refine ev_getfield dX6_ifPut_22 lf_6_36 (b0) rfl ?_ | refine ev_getfield dX6_ifPut_22 lf_6_36 (c0) rfl ?_
    first | refine ev_callVU0 dX6_ifPut_25 cal_X1_clear lk_6_58 ⟨(Nat.le_of_ble_eq_true rfl), (Nat.le_of_ble_eq_true rfl)⟩ rfl (a0) (Nat.le_of_ble_eq_true rfl) (c_Cut_clear wc) (fun v h25 hq25 => ?_) | refine ev_callVU0 dX6_ifPut_25 cal_X1_clear lk_6_58 ⟨(Nat.le_of_ble_eq_true rfl), (Nat.le_of_ble_eq_true rfl)⟩ rfl (b0) (Nat.le_of_ble_eq_true rfl) (c_Cut_clear wc) (fun v h25 hq25 => ?_) | refine ev_callVU0 dX6_ifPut_25 cal_X1_clear lk_6_58 ⟨(Nat.le_of_ble_eq_true rfl), (Nat.le_of_ble_eq_true rfl)⟩ rfl (c0) (Nat.le_of_ble_eq_true rfl) (c_Cut_clear wc) (fun v h25 hq25 => ?_)
    refine ev_pc (pc' := 28) rfl ?_
    obtain ⟨rfl, hc2, o2⟩ := hq25
    have a2 := (o2 0 (by omega)).trans a0
    have hB2 := hBf.go o2 (by omega)
    obtain ⟨⟨b02, -⟩, -⟩ := id hB2
    refine ev_aload_n dX6_ifPut_28 rfl rfl ?_
    first | refine ev_getfield dX6_ifPut_29 lf_6_26 (a2) rfl ?_ | refine ev_getfield dX6_ifPut_29 lf_6_26 (b02) rfl ?_
    refine ev_aload_n dX6_ifPut_32 rfl rfl ?_
    first | refine ev_getfield dX6_ifPut_33 lf_6_36 (a2) rfl ?_ | refine ev_getfield dX6_ifPut_33 lf_6_36 (b02) rfl ?_
    first | refine ev_callVU1 dX6_ifPut_36 cal_X0_readInto lk_6_61 ⟨(Nat.le_of_ble_eq_true rfl), (Nat.le_of_ble_eq_true rfl)⟩ rfl (a2) (Nat.le_of_ble_eq_true rfl) (c_readInto hB2 hc2 (by omega) (by rw [Nat.zero_add]; exact h40)) (fun v h36 hq36 => ?_) | refine ev_callVU1 dX6_ifPut_36 cal_X0_readInto lk_6_61 ⟨(Nat.le_of_ble_eq_true rfl), (Nat.le_of_ble_eq_true rfl)⟩ rfl (b02) (Nat.le_of_ble_eq_true rfl) (c_readInto hB2 hc2 (by omega) (by rw [Nat.zero_add]; exact h40)) (fun v h36 hq36 => ?_)
    refine ev_pc (pc' := 39) rfl ?_
    obtain ⟨rfl, hc3, o3⟩ := hq36
    have ho := o2.tr o3
    have hc4 : CutN h36 261 (rawK (smN (addN (aD A)) (aB A)) (tlN (aD A) (aB A))) := by
      rw [Nat.zero_add] at hc3
      exact hc3.ext (fun j hj => by rw [catF_ge (Nat.zero_le _), Nat.sub_zero])
    have a4 := (ho 0 (by omega)).trans a0
    have hT4 := hT.go ho (by omega)
    obtain ⟨t04, ⟨f4, t14, t24⟩, hcs4, hsto4, hset4⟩ := id hT4
    obtain ⟨_, _, _, _, _, ⟨c04, -, -, -, -, -⟩, -⟩ := id hc4
    refine ev_aload_n dX6_ifPut_39 rfl rfl ?_
    first | refine ev_getfield dX6_ifPut_40 lf_6_36 (a4) rfl ?_ | refine ev_getfield dX6_ifPut_40 lf_6_36 (t04) rfl ?_ | refine ev_getfield dX6_ifPut_40 lf_6_36 (c04) rfl ?_
    refine ev_aload_n dX6_ifPut_43 rfl rfl ?_
    first | refine ev_getfield dX6_ifPut_44 lf_6_10 (a4) rfl ?_ | refine ev_getfield dX6_ifPut_44 lf_6_10 (t04) rfl ?_ | refine ev_getfield dX6_ifPut_44 lf_6_10 (c04) rfl ?_
    first | refine ev_getfield dX6_ifPut_47 lf_6_134 (a4) rfl ?_ | refine ev_getfield dX6_ifPut_47 lf_6_134 (t04) rfl ?_ | refine ev_getfield dX6_ifPut_47 lf_6_134 (c04) rfl ?_
    first | refine ev_callVU1 dX6_ifPut_50 cal_X1_cutBy lk_6_268 ⟨(Nat.le_of_ble_eq_true rfl), (Nat.le_of_ble_eq_true rfl)⟩ rfl (a4) (Nat.le_of_ble_eq_true rfl) (c_cutBy hc4 hset4 (by omega) h1) (fun v h50 hq50 => ?_) | refine ev_callVU1 dX6_ifPut_50 cal_X1_cutBy lk_6_268 ⟨(Nat.le_of_ble_eq_true rfl), (Nat.le_of_ble_eq_true rfl)⟩ rfl (t04) (Nat.le_of_ble_eq_true rfl) (c_cutBy hc4 hset4 (by omega) h1) (fun v h50 hq50 => ?_) | refine ev_callVU1 dX6_ifPut_50 cal_X1_cutBy lk_6_268 ⟨(Nat.le_of_ble_eq_true rfl), (Nat.le_of_ble_eq_true rfl)⟩ rfl (c04) (Nat.le_of_ble_eq_true rfl) (c_cutBy hc4 hset4 (by omega) h1) (fun v h50 hq50 => ?_)
    refine ev_pc (pc' := 53) rfl ?_
    obtain ⟨rfl, hc5, o5⟩ := hq50
    have o35 := ho.tr o5
    have a5 := (o35 0 (by omega)).trans a0
    have hT5 := hT.go o35 (by omega)
    have w15 := w1.go o35 (by omega)
    obtain ⟨t05, ⟨f5, t15, t25⟩, hcs5, hsto5, hset5⟩ := id hT5
    obtain ⟨_, _, _, ⟨s05, -⟩, -⟩ := id hsto5
    obtain ⟨_, _, _, _, _, ⟨c05, -, -, -, -, -⟩, -⟩ := id hc5
    obtain ⟨n05, -⟩ := id w15
    have hA5 : ClsN h50 A := ⟨a5, hT5, hH.go o35 (by omega), hBf.go o35 (by omega), ⟨T1, w15⟩, ⟨_, hc5⟩, ⟨v1, w3.go o35 (by omega)⟩, f1, (o35 269 (by omega)).trans w4⟩
    refine ev_iload_n dX6_ifPut_53 rfl rfl ?_
    obtain rfl | rfl | rfl | rfl : w = 0 ∨ w = 1 ∨ w = 2 ∨ w = 3 := by omega
    · refine ev_tableIn 80 dX6_ifPut_54 (by decide) (by decide) rfl rfl ?_
      refine ev_aload_n dX6_ifPut_80 rfl rfl ?_
      first | refine ev_getfield dX6_ifPut_81 lf_6_36 (a5) rfl ?_ | refine ev_getfield dX6_ifPut_81 lf_6_36 (t05) rfl ?_ | refine ev_getfield dX6_ifPut_81 lf_6_36 (c05) rfl ?_ | refine ev_getfield dX6_ifPut_81 lf_6_36 (s05) rfl ?_ | refine ev_getfield dX6_ifPut_81 lf_6_36 (n05) rfl ?_
      first | refine ev_getfield dX6_ifPut_84 lf_6_178 (a5) rfl ?_ | refine ev_getfield dX6_ifPut_84 lf_6_178 (t05) rfl ?_ | refine ev_getfield dX6_ifPut_84 lf_6_178 (c05) rfl ?_ | refine ev_getfield dX6_ifPut_84 lf_6_178 (s05) rfl ?_ | refine ev_getfield dX6_ifPut_84 lf_6_178 (n05) rfl ?_
      refine ev_ireturn dX6_ifPut_87 rfl (Or.inl rfl) (Nat.zero_le _) (Nat.zero_le _) ?_
      exact ⟨_, rfl, rfl, hA5, o35.up (by omega) (by omega)⟩
    · refine ev_tableIn 88 dX6_ifPut_54 (by decide) (by decide) rfl rfl ?_
      refine ev_aload_n dX6_ifPut_88 rfl rfl ?_
      first | refine ev_getfield dX6_ifPut_89 lf_6_10 (a5) rfl ?_ | refine ev_getfield dX6_ifPut_89 lf_6_10 (t05) rfl ?_ | refine ev_getfield dX6_ifPut_89 lf_6_10 (c05) rfl ?_ | refine ev_getfield dX6_ifPut_89 lf_6_10 (s05) rfl ?_ | refine ev_getfield dX6_ifPut_89 lf_6_10 (n05) rfl ?_
      first | refine ev_getfield dX6_ifPut_92 lf_6_114 (a5) rfl ?_ | refine ev_getfield dX6_ifPut_92 lf_6_114 (t05) rfl ?_ | refine ev_getfield dX6_ifPut_92 lf_6_114 (c05) rfl ?_ | refine ev_getfield dX6_ifPut_92 lf_6_114 (s05) rfl ?_ | refine ev_getfield dX6_ifPut_92 lf_6_114 (n05) rfl ?_
      refine ev_aload_n dX6_ifPut_95 rfl rfl ?_
      first | refine ev_getfield dX6_ifPut_96 lf_6_36 (a5) rfl ?_ | refine ev_getfield dX6_ifPut_96 lf_6_36 (t05) rfl ?_ | refine ev_getfield dX6_ifPut_96 lf_6_36 (c05) rfl ?_ | refine ev_getfield dX6_ifPut_96 lf_6_36 (s05) rfl ?_ | refine ev_getfield dX6_ifPut_96 lf_6_36 (n05) rfl ?_
      first | refine ev_callVP1 dX6_ifPut_99 cal_X5_slotsNeededBy lk_6_272 ⟨(Nat.le_of_ble_eq_true rfl), (Nat.le_of_ble_eq_true rfl)⟩ rfl (a5) (Nat.le_of_ble_eq_true rfl) (c_slotsNeededBy hsto5 hc5) ?_ | refine ev_callVP1 dX6_ifPut_99 cal_X5_slotsNeededBy lk_6_272 ⟨(Nat.le_of_ble_eq_true rfl), (Nat.le_of_ble_eq_true rfl)⟩ rfl (t05) (Nat.le_of_ble_eq_true rfl) (c_slotsNeededBy hsto5 hc5) ?_ | refine ev_callVP1 dX6_ifPut_99 cal_X5_slotsNeededBy lk_6_272 ⟨(Nat.le_of_ble_eq_true rfl), (Nat.le_of_ble_eq_true rfl)⟩ rfl (c05) (Nat.le_of_ble_eq_true rfl) (c_slotsNeededBy hsto5 hc5) ?_ | refine ev_callVP1 dX6_ifPut_99 cal_X5_slotsNeededBy lk_6_272 ⟨(Nat.le_of_ble_eq_true rfl), (Nat.le_of_ble_eq_true rfl)⟩ rfl (s05) (Nat.le_of_ble_eq_true rfl) (c_slotsNeededBy hsto5 hc5) ?_ | refine ev_callVP1 dX6_ifPut_99 cal_X5_slotsNeededBy lk_6_272 ⟨(Nat.le_of_ble_eq_true rfl), (Nat.le_of_ble_eq_true rfl)⟩ rfl (n05) (Nat.le_of_ble_eq_true rfl) (c_slotsNeededBy hsto5 hc5) ?_
      refine ev_ireturn dX6_ifPut_102 rfl (Or.inl rfl) (Nat.zero_le _) (Nat.zero_le _) ?_
      exact ⟨_, rfl, rfl, hA5, o35.up (by omega) (by omega)⟩
    · refine ev_tableIn 103 dX6_ifPut_54 (by decide) (by decide) rfl rfl ?_
      refine ev_aload_n dX6_ifPut_103 rfl rfl ?_
      first | refine ev_getfield dX6_ifPut_104 lf_6_10 (a5) rfl ?_ | refine ev_getfield dX6_ifPut_104 lf_6_10 (t05) rfl ?_ | refine ev_getfield dX6_ifPut_104 lf_6_10 (c05) rfl ?_ | refine ev_getfield dX6_ifPut_104 lf_6_10 (s05) rfl ?_ | refine ev_getfield dX6_ifPut_104 lf_6_10 (n05) rfl ?_
      first | refine ev_getfield dX6_ifPut_107 lf_6_114 (a5) rfl ?_ | refine ev_getfield dX6_ifPut_107 lf_6_114 (t05) rfl ?_ | refine ev_getfield dX6_ifPut_107 lf_6_114 (c05) rfl ?_ | refine ev_getfield dX6_ifPut_107 lf_6_114 (s05) rfl ?_ | refine ev_getfield dX6_ifPut_107 lf_6_114 (n05) rfl ?_
      refine ev_aload_n dX6_ifPut_110 rfl rfl ?_
      first | refine ev_getfield dX6_ifPut_111 lf_6_36 (a5) rfl ?_ | refine ev_getfield dX6_ifPut_111 lf_6_36 (t05) rfl ?_ | refine ev_getfield dX6_ifPut_111 lf_6_36 (c05) rfl ?_ | refine ev_getfield dX6_ifPut_111 lf_6_36 (s05) rfl ?_ | refine ev_getfield dX6_ifPut_111 lf_6_36 (n05) rfl ?_
      first | refine ev_callVP1 dX6_ifPut_114 cal_X5_roomNeededBy lk_6_275 ⟨(Nat.le_of_ble_eq_true rfl), (Nat.le_of_ble_eq_true rfl)⟩ rfl (a5) (Nat.le_of_ble_eq_true rfl) (c_roomNeededBy hsto5 hc5) ?_ | refine ev_callVP1 dX6_ifPut_114 cal_X5_roomNeededBy lk_6_275 ⟨(Nat.le_of_ble_eq_true rfl), (Nat.le_of_ble_eq_true rfl)⟩ rfl (t05) (Nat.le_of_ble_eq_true rfl) (c_roomNeededBy hsto5 hc5) ?_ | refine ev_callVP1 dX6_ifPut_114 cal_X5_roomNeededBy lk_6_275 ⟨(Nat.le_of_ble_eq_true rfl), (Nat.le_of_ble_eq_true rfl)⟩ rfl (c05) (Nat.le_of_ble_eq_true rfl) (c_roomNeededBy hsto5 hc5) ?_ | refine ev_callVP1 dX6_ifPut_114 cal_X5_roomNeededBy lk_6_275 ⟨(Nat.le_of_ble_eq_true rfl), (Nat.le_of_ble_eq_true rfl)⟩ rfl (s05) (Nat.le_of_ble_eq_true rfl) (c_roomNeededBy hsto5 hc5) ?_ | refine ev_callVP1 dX6_ifPut_114 cal_X5_roomNeededBy lk_6_275 ⟨(Nat.le_of_ble_eq_true rfl), (Nat.le_of_ble_eq_true rfl)⟩ rfl (n05) (Nat.le_of_ble_eq_true rfl) (c_roomNeededBy hsto5 hc5) ?_
      refine ev_ireturn dX6_ifPut_117 rfl (Or.inl rfl) (Nat.zero_le _) (Nat.zero_le _) ?_
      exact ⟨_, rfl, rfl, hA5, o35.up (by omega) (by omega)⟩
    · refine ev_tableOut 118 dX6_ifPut_54 (Or.inr (by decide)) rfl ?_
      refine ev_aload_n dX6_ifPut_118 rfl rfl ?_
      first | refine ev_getfield dX6_ifPut_119 lf_6_30 (a5) rfl ?_ | refine ev_getfield dX6_ifPut_119 lf_6_30 (t05) rfl ?_ | refine ev_getfield dX6_ifPut_119 lf_6_30 (c05) rfl ?_ | refine ev_getfield dX6_ifPut_119 lf_6_30 (s05) rfl ?_ | refine ev_getfield dX6_ifPut_119 lf_6_30 (n05) rfl ?_
      refine ev_aload_n dX6_ifPut_122 rfl rfl ?_
      first | refine ev_getfield dX6_ifPut_123 lf_6_10 (a5) rfl ?_ | refine ev_getfield dX6_ifPut_123 lf_6_10 (t05) rfl ?_ | refine ev_getfield dX6_ifPut_123 lf_6_10 (c05) rfl ?_ | refine ev_getfield dX6_ifPut_123 lf_6_10 (s05) rfl ?_ | refine ev_getfield dX6_ifPut_123 lf_6_10 (n05) rfl ?_
      refine ev_iload_n dX6_ifPut_126 rfl rfl ?_
      refine ev_aload_n dX6_ifPut_127 rfl rfl ?_
      first | refine ev_getfield dX6_ifPut_128 lf_6_36 (a5) rfl ?_ | refine ev_getfield dX6_ifPut_128 lf_6_36 (t05) rfl ?_ | refine ev_getfield dX6_ifPut_128 lf_6_36 (c05) rfl ?_ | refine ev_getfield dX6_ifPut_128 lf_6_36 (s05) rfl ?_ | refine ev_getfield dX6_ifPut_128 lf_6_36 (n05) rfl ?_
      first | refine ev_callVU3 dX6_ifPut_131 cal_X4_becomeChanged lk_6_278 ⟨(Nat.le_of_ble_eq_true rfl), (Nat.le_of_ble_eq_true rfl)⟩ rfl (a5) (Nat.le_of_ble_eq_true rfl) (c_becomeChanged hT5 w15 hc5 (by omega) (by omega) ht hD hB hO hR hz hKK hF) (fun v h131 hq131 => ?_) | refine ev_callVU3 dX6_ifPut_131 cal_X4_becomeChanged lk_6_278 ⟨(Nat.le_of_ble_eq_true rfl), (Nat.le_of_ble_eq_true rfl)⟩ rfl (t05) (Nat.le_of_ble_eq_true rfl) (c_becomeChanged hT5 w15 hc5 (by omega) (by omega) ht hD hB hO hR hz hKK hF) (fun v h131 hq131 => ?_) | refine ev_callVU3 dX6_ifPut_131 cal_X4_becomeChanged lk_6_278 ⟨(Nat.le_of_ble_eq_true rfl), (Nat.le_of_ble_eq_true rfl)⟩ rfl (c05) (Nat.le_of_ble_eq_true rfl) (c_becomeChanged hT5 w15 hc5 (by omega) (by omega) ht hD hB hO hR hz hKK hF) (fun v h131 hq131 => ?_) | refine ev_callVU3 dX6_ifPut_131 cal_X4_becomeChanged lk_6_278 ⟨(Nat.le_of_ble_eq_true rfl), (Nat.le_of_ble_eq_true rfl)⟩ rfl (s05) (Nat.le_of_ble_eq_true rfl) (c_becomeChanged hT5 w15 hc5 (by omega) (by omega) ht hD hB hO hR hz hKK hF) (fun v h131 hq131 => ?_) | refine ev_callVU3 dX6_ifPut_131 cal_X4_becomeChanged lk_6_278 ⟨(Nat.le_of_ble_eq_true rfl), (Nat.le_of_ble_eq_true rfl)⟩ rfl (n05) (Nat.le_of_ble_eq_true rfl) (c_becomeChanged hT5 w15 hc5 (by omega) (by omega) ht hD hB hO hR hz hKK hF) (fun v h131 hq131 => ?_)
      refine ev_pc (pc' := 134) rfl ?_
      obtain ⟨rfl, -, ⟨T6, hT6⟩, o6⟩ := hq131
      have hA6 : ClsN h131 A := ⟨(o6 0 (by omega)).trans a5, hT5.go o6 (by omega), (hH.go o35 (by omega)).go o6 (by omega), (hBf.go o35 (by omega)).go o6 (by omega), ⟨T6, hT6⟩, ⟨_, hc5.go o6 (by omega)⟩, ⟨v1, (w3.go o35 (by omega)).go o6 (by omega)⟩, f1, (o6 269 (by omega)).trans ((o35 269 (by omega)).trans w4)⟩
      refine ev_if_eqB 141 dX6_ifPut_134 rfl (fun hc134 => ?_) (fun hc134 => ?_)
      · refine ev_iconst (nI 1) dX6_ifPut_141 rfl ?_
        refine ev_ireturn dX6_ifPut_142 rfl (Or.inl rfl) (Nat.zero_le _) (Nat.zero_le _) ?_
        refine ⟨_, rfl, ?_, hA6, (o35.up (by omega) (by omega)).tr (o6.up (by omega) (by omega))⟩
        show _ = some (Value.int (nI (b2n (!(okS (aT A) t (cutK (tV (aT A)) (smN (addN (aD A)) (aB A)) (tlN (aD A) (aB A))))))))
        rw [hc134]
        rfl
      · refine ev_iconst (nI 0) dX6_ifPut_137 rfl ?_
        refine ev_goto 142 dX6_ifPut_138 rfl ?_
        refine ev_ireturn dX6_ifPut_142 rfl (Or.inl rfl) (Nat.zero_le _) (Nat.zero_le _) ?_
        refine ⟨_, rfl, ?_, hA6, (o35.up (by omega) (by omega)).tr (o6.up (by omega) (by omega))⟩
        show _ = some (Value.int (nI (b2n (!(okS (aT A) t (cutK (tV (aT A)) (smN (addN (aD A)) (aB A)) (tlN (aD A) (aB A))))))))
        rw [hc134]
        rfl
  · refine ev_pc (pc' := 19) rfl ?_
    exact absurd hb (by rw [hc16]; decide)
