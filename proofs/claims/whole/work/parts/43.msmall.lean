set_option maxHeartbeats 4000000 in
set_option maxRecDepth 100000 in
theorem k_isPlace {X : mX} {h : mH} {gz : Nat → Nat} {gc : Nat → Int64} {gs : Nat} {gh : Nat → Nat} {gk : Nat → Int64} {gl : Nat} {gb : Nat → Nat} {gt : Nat} {gr : Nat → Nat} {gm : Nat} {gp : Nat → Int64} {gq : Nat → Nat} {ge : Nat → Nat} {gn : Nat} {go : Nat → Nat} {gu : Nat} {gi : Bool} {ga : Nat → Int64} {gv : Nat → Nat} {gw : Nat} {gx : Int64} (hm : MN h gz gc gs gh gk gl gb gt gr gm gp gq ge gn go gu gi ga gv gw gx) (t u : Int32) (h30 : ∀ k, k < 4 → gz (7 + k) < 2 ^ 30) : CnP X m_X7_isPlace [.ref 270, .int t, .int u] h (some (.int (bI (inX t 0 4 && inX u 0 (gz (7 + t.toInt.toNat)))))) := by
  obtain ⟨m0, m1, m2, m3, m4, m5, m6, m7, m8, m9, m10, m11, m12⟩ := id hm
  refine cn_of_ev (L0 := [_, _, _]) (by decide +kernel) rfl rfl (Nat.le_of_ble_eq_true rfl) rfl ?_
  refine ev_iload_n dX7_isPlace_0 rfl rfl ?_
  refine ev_callSP1 dX7_isPlace_1 cal_X7_isText lk_7_157 ⟨(Nat.le_of_ble_eq_true rfl), (Nat.le_of_ble_eq_true rfl)⟩ rfl (Nat.le_of_ble_eq_true rfl) (k_isText t) ?_
  refine ev_if_eqB 26 dX7_isPlace_4 rfl (fun hc4 => ?_) (fun hc4 => ?_)
  · refine ev_pc (pc' := 26) rfl ?_
    refine ev_iconst (nI 0) dX7_isPlace_26 rfl ?_
    refine ev_zreturn dX7_isPlace_27 rfl (by first | rfl | exact bI_nar _) (Or.inl rfl) (Nat.zero_le _) (Nat.zero_le _) ?_
    rw [hc4]
    exact ⟨rfl, rfl⟩
  · refine ev_pc (pc' := 7) rfl ?_
    obtain ⟨k, rfl, hk0, hk⟩ := inX_k hc4
    have et : (nI k).toInt.toNat = k := by rw [nI_toInt (by omega)]; rfl
    rw [et, hc4]
    have h3 := h30 k hk
    refine ev_iload_n dX7_isPlace_7 rfl rfl ?_
    refine ev_iconst (nI 0) dX7_isPlace_8 rfl ?_
    refine ev_aload_n dX7_isPlace_9 rfl rfl ?_
    refine ev_iload_n dX7_isPlace_10 rfl rfl ?_
    refine ev_callVP1 dX7_isPlace_11 cal_X7_signsOf lk_7_58 ⟨(Nat.le_of_ble_eq_true rfl), (Nat.le_of_ble_eq_true rfl)⟩ rfl m0 (Nat.le_of_ble_eq_true rfl) (k_signsOf hm k hk) ?_
    refine ev_iconst (nI 1) dX7_isPlace_14 rfl ?_
    refine ev_isub dX7_isPlace_15 ?_
    refine ev_callSP3 dX7_isPlace_16 cal_X7_within lk_7_54 ⟨(Nat.le_of_ble_eq_true rfl), (Nat.le_of_ble_eq_true rfl)⟩ rfl (Nat.le_of_ble_eq_true rfl) (k_within u (nI 0) (nI (gz (7 + k)) - nI 1)) ?_
    rw [wth_inX1 h3]
    refine ev_if_eqB 26 dX7_isPlace_19 rfl (fun hc19 => ?_) (fun hc19 => ?_)
    · refine ev_iconst (nI 0) dX7_isPlace_26 rfl ?_
      refine ev_zreturn dX7_isPlace_27 rfl (by first | rfl | exact bI_nar _) (Or.inl rfl) (Nat.zero_le _) (Nat.zero_le _) ?_
      rw [hc19]
      exact ⟨rfl, rfl⟩
    · refine ev_iconst (nI 1) dX7_isPlace_22 rfl ?_
      refine ev_goto 27 dX7_isPlace_23 rfl ?_
      refine ev_zreturn dX7_isPlace_27 rfl (by first | rfl | exact bI_nar _) (Or.inl rfl) (Nat.zero_le _) (Nat.zero_le _) ?_
      rw [hc19]
      exact ⟨rfl, rfl⟩
set_option maxHeartbeats 4000000 in
set_option maxRecDepth 100000 in
theorem k_clearBuffer {X : mX} {h : mH} {gz : Nat → Nat} {gc : Nat → Int64} {gs : Nat} {gh : Nat → Nat} {gk : Nat → Int64} {gl : Nat} {gb : Nat → Nat} {gt : Nat} {gr : Nat → Nat} {gm : Nat} {gp : Nat → Int64} {gq : Nat → Nat} {ge : Nat → Nat} {gn : Nat} {go : Nat → Nat} {gu : Nat} {gi : Bool} {ga : Nat → Int64} {gv : Nat → Nat} {gw : Nat} {gx : Int64} (hm : MN h gz gc gs gh gk gl gb gt gr gm gp gq ge gn go gu gi ga gv gw gx)  : CnU X m_X7_clearBuffer [.ref 270] h (fun v h1 => v = some (.int (nI gl)) ∧ MN h1 gz gc gs gh gk 0 gb 0 gr gm gp gq ge gn go gu gi ga gv gw gx ∧ Out h h1 270 13) := by
  obtain ⟨m0, m1, m2, m3, m4, m5, m6, m7, m8, m9, m10, m11, m12⟩ := id hm
  have ho : Out h h 270 13 := Out.rf
  refine cn_of_ev (L0 := [_, _]) (by decide +kernel) rfl rfl (Nat.le_of_ble_eq_true rfl) rfl ?_
  refine ev_aload_n dX7_clearBuffer_0 rfl rfl ?_
  refine ev_iconst (nI 0) dX7_clearBuffer_1 rfl ?_
  refine em_pTh dX7_clearBuffer_2 lf_7_47 hm (fun h2 hm2 o2 => ?_)
  have ho := ho.tr o2
  obtain ⟨m0, m1, m2, m3, m4, m5, m6, m7, m8, m9, m10, m11, m12⟩ := id hm2
  refine ev_aload_n dX7_clearBuffer_5 rfl rfl ?_
  refine ev_getfield dX7_clearBuffer_6 lf_7_145 m0 rfl ?_
  refine ev_istore_n (L' := [_, _]) dX7_clearBuffer_9 rfl (Nat.le_of_ble_eq_true rfl) rfl ?_
  refine ev_aload_n dX7_clearBuffer_10 rfl rfl ?_
  refine ev_iconst (nI 0) dX7_clearBuffer_11 rfl ?_
  refine em_pLn dX7_clearBuffer_12 lf_7_145 hm2 (fun h12 hm12 o12 => ?_)
  have ho := ho.tr o12
  obtain ⟨m0, m1, m2, m3, m4, m5, m6, m7, m8, m9, m10, m11, m12⟩ := id hm12
  refine ev_iload_n dX7_clearBuffer_15 rfl rfl ?_
  refine ev_ireturn dX7_clearBuffer_16 rfl (Or.inl rfl) (Nat.zero_le _) (Nat.zero_le _) ?_
  exact ⟨_, rfl, rfl, hm12, ho⟩
set_option maxHeartbeats 4000000 in
set_option maxRecDepth 100000 in
theorem k_sweepSlot {X : mX} {h : mH} {gz : Nat → Nat} {gc : Nat → Int64} {gs : Nat} {gh : Nat → Nat} {gk : Nat → Int64} {gl : Nat} {gb : Nat → Nat} {gt : Nat} {gr : Nat → Nat} {gm : Nat} {gp : Nat → Int64} {gq : Nat → Nat} {ge : Nat → Nat} {gn : Nat} {go : Nat → Nat} {gu : Nat} {gi : Bool} {ga : Nat → Int64} {gv : Nat → Nat} {gw : Nat} {gx : Int64} (hm : MN h gz gc gs gh gk gl gb gt gr gm gp gq ge gn go gu gi ga gv gw gx) (k : Nat) (hk : k < 60) : CnU X m_X7_sweepSlot [.ref 270, .int (nI k)] h (fun v h1 => v = none ∧ MN h1 (upN (upN (upN gz (491 + k) 0) (551 + k) 0) 6 (upN (upN gz (491 + k) 0) (551 + k) 0 6 + 1)) (vp_updL gc k 0) gs gh gk gl gb gt gr gm gp gq ge gn go gu gi ga gv gw gx ∧ Out h h1 270 13) := by
  obtain ⟨m0, m1, m2, m3, m4, m5, m6, m7, m8, m9, m10, m11, m12⟩ := id hm
  have ho : Out h h 270 13 := Out.rf
  refine cn_of_ev (L0 := [_, _]) (by decide +kernel) rfl rfl (Nat.le_of_ble_eq_true rfl) rfl ?_
  refine ev_aload_n dX7_sweepSlot_0 rfl rfl ?_
  refine ev_getfield dX7_sweepSlot_1 lf_7_7 m0 rfl ?_
  refine ev_sipush (nI 491) dX7_sweepSlot_4 rfl ?_
  refine ev_iload_n dX7_sweepSlot_7 rfl rfl ?_
  refine ev_iaddN dX7_sweepSlot_8 ?_
  refine ev_iconst (nI 0) dX7_sweepSlot_9 rfl ?_
  refine em_iZ dX7_sweepSlot_10 hm (by omega) (fun h10 hm10 o10 => ?_)
  have ho := ho.tr o10
  obtain ⟨m0, m1, m2, m3, m4, m5, m6, m7, m8, m9, m10, m11, m12⟩ := id hm10
  refine ev_aload_n dX7_sweepSlot_11 rfl rfl ?_
  refine ev_getfield dX7_sweepSlot_12 lf_7_7 m0 rfl ?_
  refine ev_sipush (nI 551) dX7_sweepSlot_15 rfl ?_
  refine ev_iload_n dX7_sweepSlot_18 rfl rfl ?_
  refine ev_iaddN dX7_sweepSlot_19 ?_
  refine ev_iconst (nI 0) dX7_sweepSlot_20 rfl ?_
  refine em_iZ dX7_sweepSlot_21 hm10 (by omega) (fun h21 hm21 o21 => ?_)
  have ho := ho.tr o21
  obtain ⟨m0, m1, m2, m3, m4, m5, m6, m7, m8, m9, m10, m11, m12⟩ := id hm21
  refine ev_aload_n dX7_sweepSlot_22 rfl rfl ?_
  refine ev_getfield dX7_sweepSlot_23 lf_7_13 m0 rfl ?_
  refine ev_iload_n dX7_sweepSlot_26 rfl rfl ?_
  refine ev_lconst (lN 0) dX7_sweepSlot_27 rfl ?_
  refine em_lC dX7_sweepSlot_28 hm21 (by omega) (fun h28 hm28 o28 => ?_)
  have ho := ho.tr o28
  obtain ⟨m0, m1, m2, m3, m4, m5, m6, m7, m8, m9, m10, m11, m12⟩ := id hm28
  refine ev_aload_n dX7_sweepSlot_29 rfl rfl ?_
  refine ev_getfield dX7_sweepSlot_30 lf_7_7 m0 rfl ?_
  refine ev_bipush (nI 6) dX7_sweepSlot_33 rfl ?_
  refine ev_dup2 dX7_sweepSlot_35 rfl rfl ?_
  refine ev_ialoadF dX7_sweepSlot_36 m1 (by omega) (by decide) ?_
  refine ev_iconst (nI 1) dX7_sweepSlot_37 rfl ?_
  refine ev_iaddN dX7_sweepSlot_38 ?_
  refine em_iZ dX7_sweepSlot_39 hm28 (by omega) (fun h39 hm39 o39 => ?_)
  have ho := ho.tr o39
  obtain ⟨m0, m1, m2, m3, m4, m5, m6, m7, m8, m9, m10, m11, m12⟩ := id hm39
  refine ev_return dX7_sweepSlot_40 rfl (Or.inl rfl) (Nat.zero_le _) (Nat.zero_le _) ?_
  exact ⟨_, rfl, rfl, hm39, ho⟩
set_option maxHeartbeats 4000000 in
set_option maxRecDepth 100000 in
theorem k_mostOwners {X : mX} {h : mH} {gz : Nat → Nat} {gc : Nat → Int64} {gs : Nat} {gh : Nat → Nat} {gk : Nat → Int64} {gl : Nat} {gb : Nat → Nat} {gt : Nat} {gr : Nat → Nat} {gm : Nat} {gp : Nat → Int64} {gq : Nat → Nat} {ge : Nat → Nat} {gn : Nat} {go : Nat → Nat} {gu : Nat} {gi : Bool} {ga : Nat → Int64} {gv : Nat → Nat} {gw : Nat} {gx : Int64} (hm : MN h gz gc gs gh gk gl gb gt gr gm gp gq ge gn go gu gi ga gv gw gx) (hb : ∀ k, k < 60 → gz (551 + k) ≤ 1000) : CnP X m_X7_mostOwners [.ref 270] h (some (.int (nI (mxN (fun k => gz (551 + k)) 60)))) := by
  obtain ⟨m0, m1, m2, m3, m4, m5, m6, m7, m8, m9, m10, m11, m12⟩ := id hm
  refine cn_of_ev (L0 := [_, _, _]) (by decide +kernel) rfl rfl (Nat.le_of_ble_eq_true rfl) rfl ?_
  refine ev_iconst (nI 0) dX7_mostOwners_0 rfl ?_
  refine ev_istore_n (L' := [_, _, _]) dX7_mostOwners_1 rfl (Nat.le_of_ble_eq_true rfl) rfl ?_
  refine ev_iconst (nI 0) dX7_mostOwners_2 rfl ?_
  refine ev_istore_n (L' := [_, _, _]) dX7_mostOwners_3 rfl (Nat.le_of_ble_eq_true rfl) rfl ?_
  refine ev_pc (pc' := 4) rfl ?_
  have LP4 : ∀ (mz : Nat) (k : Nat), 60 - k = mz → (k ≤ 60) → Ev X m_X7_mostOwners B0 4 [.ref 270, .int (nI (mxN (fun k => gz (551 + k)) k)), .int (nI k)] [] h (fun o h1 => o = .inl (some (.int (nI (mxN (fun k => gz (551 + k)) 60)))) ∧ h1 = h) := by
    intro mz
    induction mz using Nat.strongRecOn with
    | _ mz ih =>
      intro k hmz hk
      have hbk := hb k
      have hmx : mxN (fun k => gz (551 + k)) k ≤ 1000 := mxN_le (fun q hq => hb q (by omega))
      have e : mxN (fun k => gz (551 + k)) (k + 1) = max (mxN (fun k => gz (551 + k)) k) (gz (551 + k)) := rfl
      refine ev_iload_n dX7_mostOwners_4 rfl rfl ?_
      refine ev_bipush (nI 60) dX7_mostOwners_5 rfl ?_
      refine ev_icmp_geN 45 dX7_mostOwners_7 rfl (by omega) (by omega) (fun hc7 => ?_) (fun hc7 => ?_)
      · refine ev_iload_n dX7_mostOwners_45 rfl rfl ?_
        refine ev_ireturn dX7_mostOwners_46 rfl (Or.inl rfl) (Nat.zero_le _) (Nat.zero_le _) ?_
        rw [show 60 = k by omega]
        exact ⟨rfl, rfl⟩
      · refine ev_aload_n dX7_mostOwners_10 rfl rfl ?_
        refine ev_getfield dX7_mostOwners_11 lf_7_7 m0 rfl ?_
        refine ev_sipush (nI 551) dX7_mostOwners_14 rfl ?_
        refine ev_iload_n dX7_mostOwners_17 rfl rfl ?_
        refine ev_iaddN dX7_mostOwners_18 ?_
        refine ev_ialoadF dX7_mostOwners_19 m1 (by omega) (by decide) ?_
        refine ev_iload_n dX7_mostOwners_20 rfl rfl ?_
        refine ev_icmp_leN 37 dX7_mostOwners_21 rfl (by omega) (by omega) (fun hc21 => ?_) (fun hc21 => ?_)
        · refine ev_iload_n dX7_mostOwners_37 rfl rfl ?_
          refine ev_pc (pc' := 38) rfl ?_
          refine ev_L (st' := [.int (nI (mxN (fun k => gz (551 + k)) (k + 1)))]) rfl (by first | (rw [e, Nat.max_eq_right (by omega)]; done) | (rw [e, Nat.max_eq_right (by omega)]; rfl) | (rw [e, Nat.max_eq_left (by omega)]; done) | (rw [e, Nat.max_eq_left (by omega)]; rfl)) ?_
          refine ev_istore_n (L' := [_, _, _]) dX7_mostOwners_38 rfl (Nat.le_of_ble_eq_true rfl) rfl ?_
          refine ev_iincN (L' := [_, _, _]) 1 dX7_mostOwners_39 rfl rfl ?_
          refine ev_goto 4 dX7_mostOwners_42 rfl ?_
          refine ev_pc (pc' := 4) rfl ?_
          exact ih _ (by omega) (k + 1) rfl (by omega)
        · refine ev_aload_n dX7_mostOwners_24 rfl rfl ?_
          refine ev_getfield dX7_mostOwners_25 lf_7_7 m0 rfl ?_
          refine ev_sipush (nI 551) dX7_mostOwners_28 rfl ?_
          refine ev_iload_n dX7_mostOwners_31 rfl rfl ?_
          refine ev_iaddN dX7_mostOwners_32 ?_
          refine ev_ialoadF dX7_mostOwners_33 m1 (by omega) (by decide) ?_
          refine ev_goto 38 dX7_mostOwners_34 rfl ?_
          refine ev_pc (pc' := 38) rfl ?_
          refine ev_L (st' := [.int (nI (mxN (fun k => gz (551 + k)) (k + 1)))]) rfl (by first | (rw [e, Nat.max_eq_right (by omega)]; done) | (rw [e, Nat.max_eq_right (by omega)]; rfl) | (rw [e, Nat.max_eq_left (by omega)]; done) | (rw [e, Nat.max_eq_left (by omega)]; rfl)) ?_
          refine ev_istore_n (L' := [_, _, _]) dX7_mostOwners_38 rfl (Nat.le_of_ble_eq_true rfl) rfl ?_
          refine ev_iincN (L' := [_, _, _]) 1 dX7_mostOwners_39 rfl rfl ?_
          refine ev_goto 4 dX7_mostOwners_42 rfl ?_
          refine ev_pc (pc' := 4) rfl ?_
          exact ih _ (by omega) (k + 1) rfl (by omega)
  exact LP4 _ 0 rfl (Nat.zero_le _)
