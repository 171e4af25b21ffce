def lngM (gz : Nat → Nat) (t n : Nat) : Nat := mxN (fun j => gz (491 + gz (331 + 40 * t + j))) n
def owsM (gz : Nat → Nat) (t n : Nat) : Nat := ctN (fun j => decide (mskM gz (gz (331 + 40 * t + j)) 4 = 2 ^ t)) n
def shsM (gz : Nat → Nat) (t u n : Nat) : Nat := ctN (fun j => hasM gz u (gz (331 + 40 * t + j)) (gz (7 + u))) n
set_option maxHeartbeats 4000000 in
set_option maxRecDepth 100000 in
theorem k_longestPiece {X : mX} {h : mH} {gz : Nat → Nat} {gc : Nat → Int64} {gs : Nat} {gh : Nat → Nat} {gk : Nat → Int64} {gl : Nat} {gb : Nat → Nat} {gt : Nat} {gr : Nat → Nat} {gm : Nat} {gp : Nat → Int64} {gq : Nat → Nat} {ge : Nat → Nat} {gn : Nat} {go : Nat → Nat} {gu : Nat} {gi : Bool} {ga : Nat → Int64} {gv : Nat → Nat} {gw : Nat} {gx : Int64} (hm : MN h gz gc gs gh gk gl gb gt gr gm gp gq ge gn go gu gi ga gv gw gx) (hkp : KpB gz) (hxs : ∀ t, t < 4 → TxB gz t) (t : Nat) (ht : t < 4) : CnP X m_X7_longestPiece [.ref 270, .int (nI t)] h (some (.int (nI (lngM gz t (gz (7 + t)))))) := by
  obtain ⟨m0, m1, m2, m3, m4, m5, m6, m7, m8, m9, m10, m11, m12⟩ := id hm
  obtain ⟨hx1, hx2⟩ := hxs t ht
  refine cn_of_ev (L0 := [_, _, _, _, _]) (by decide +kernel) rfl rfl (Nat.le_of_ble_eq_true rfl) rfl ?_
  refine ev_iconst (nI 0) dX7_longestPiece_0 rfl ?_
  refine ev_istore_n (L' := [_, _, _, _, _]) dX7_longestPiece_1 rfl (Nat.le_of_ble_eq_true rfl) rfl ?_
  refine ev_iconst (nI 0) dX7_longestPiece_2 rfl ?_
  refine ev_istore_n (L' := [_, _, _, _, _]) dX7_longestPiece_3 rfl (Nat.le_of_ble_eq_true rfl) rfl ?_
  refine ev_pc (pc' := 4) rfl ?_
  have LP4 : ∀ (mz : Nat) (k : Nat), gz (7 + t) - k = mz → (k ≤ gz (7 + t)) → Ev X m_X7_longestPiece B0 4 [.ref 270, .int (nI t), .int (nI (lngM gz t k)), .int (nI k), jk] [] h (fun o h1 => o = .inl (some (.int (nI (lngM gz t (gz (7 + t)))))) ∧ h1 = h) := by
    intro mz
    induction mz using Nat.strongRecOn with
    | _ mz ih =>
      intro k hmz hk
      have hxk := hx2 k
      have hkk := hkp (gz (331 + 40 * t + k))
      have hml : lngM gz t k ≤ 20 := mxN_le (fun j hj => hkp _ (hx2 j (by omega)).2.1)
      have e : lngM gz t (k + 1) = max (lngM gz t k) (gz (491 + gz (331 + 40 * t + k))) := rfl
      refine ev_iload_n dX7_longestPiece_4 rfl rfl ?_
      refine ev_aload_n dX7_longestPiece_5 rfl rfl ?_
      refine ev_iload_n dX7_longestPiece_6 rfl rfl ?_
      refine ev_callVP1 dX7_longestPiece_7 cal_X7_signsOf lk_7_58 ⟨(Nat.le_of_ble_eq_true rfl), (Nat.le_of_ble_eq_true rfl)⟩ rfl m0 (Nat.le_of_ble_eq_true rfl) (k_signsOf hm t ht) ?_
      refine ev_icmp_geN 49 dX7_longestPiece_10 rfl (by omega) (by omega) (fun hc10 => ?_) (fun hc10 => ?_)
      · refine ev_iload_n dX7_longestPiece_49 rfl rfl ?_
        refine ev_ireturn dX7_longestPiece_50 rfl (Or.inl rfl) (Nat.zero_le _) (Nat.zero_le _) ?_
        rw [show gz (7 + t) = k by omega]
        exact ⟨rfl, rfl⟩
      · refine ev_aload_n dX7_longestPiece_13 rfl rfl ?_
        refine ev_getfield dX7_longestPiece_14 lf_7_7 m0 rfl ?_
        refine ev_sipush (nI 491) dX7_longestPiece_17 rfl ?_
        refine ev_aload_n dX7_longestPiece_20 rfl rfl ?_
        refine ev_iload_n dX7_longestPiece_21 rfl rfl ?_
        refine ev_iload_n dX7_longestPiece_22 rfl rfl ?_
        refine ev_callVP2 dX7_longestPiece_23 cal_X7_slotAt lk_7_95 ⟨(Nat.le_of_ble_eq_true rfl), (Nat.le_of_ble_eq_true rfl)⟩ rfl m0 (Nat.le_of_ble_eq_true rfl) (k_slotAt hm t k ht (by omega)) ?_
        refine ev_iaddN dX7_longestPiece_26 ?_
        refine ev_ialoadF dX7_longestPiece_27 m1 (by omega) (by decide) ?_
        refine ev_istore (L' := [_, _, _, _, _]) dX7_longestPiece_28 (Nat.le_of_ble_eq_true rfl) rfl ?_
        refine ev_iload dX7_longestPiece_30 rfl ?_
        refine ev_iload_n dX7_longestPiece_32 rfl rfl ?_
        refine ev_icmp_leN 41 dX7_longestPiece_33 rfl (by omega) (by omega) (fun hc33 => ?_) (fun hc33 => ?_)
        · refine ev_iload_n dX7_longestPiece_41 rfl rfl ?_
          refine ev_pc (pc' := 42) rfl ?_
          refine ev_L (st' := [.int (nI (lngM gz t (k + 1)))]) rfl (by first | (rw [e, Nat.max_eq_right (by omega)]; done) | (rw [e, Nat.max_eq_right (by omega)]; rfl) | (rw [e, Nat.max_eq_left (by omega)]; done) | (rw [e, Nat.max_eq_left (by omega)]; rfl)) ?_
          refine ev_istore_n (L' := [_, _, _, _, _]) dX7_longestPiece_42 rfl (Nat.le_of_ble_eq_true rfl) rfl ?_
          refine ev_iincN (L' := [_, _, _, _, _]) 1 dX7_longestPiece_43 rfl rfl ?_
          refine ev_goto 4 dX7_longestPiece_46 rfl ?_
          refine ev_pc (pc' := 4) rfl ?_
          refine ev_fgt 4 (L' := [_, _, _, _, _]) rfl ?_
          exact ih _ (by omega) (k + 1) rfl (by omega)
        · refine ev_iload dX7_longestPiece_36 rfl ?_
          refine ev_goto 42 dX7_longestPiece_38 rfl ?_
          refine ev_pc (pc' := 42) rfl ?_
          refine ev_L (st' := [.int (nI (lngM gz t (k + 1)))]) rfl (by first | (rw [e, Nat.max_eq_right (by omega)]; done) | (rw [e, Nat.max_eq_right (by omega)]; rfl) | (rw [e, Nat.max_eq_left (by omega)]; done) | (rw [e, Nat.max_eq_left (by omega)]; rfl)) ?_
          refine ev_istore_n (L' := [_, _, _, _, _]) dX7_longestPiece_42 rfl (Nat.le_of_ble_eq_true rfl) rfl ?_
          refine ev_iincN (L' := [_, _, _, _, _]) 1 dX7_longestPiece_43 rfl rfl ?_
          refine ev_goto 4 dX7_longestPiece_46 rfl ?_
          refine ev_pc (pc' := 4) rfl ?_
          refine ev_fgt 4 (L' := [_, _, _, _, _]) rfl ?_
          exact ih _ (by omega) (k + 1) rfl (by omega)
  exact LP4 _ 0 rfl (Nat.zero_le _)
set_option maxHeartbeats 4000000 in
set_option maxRecDepth 100000 in
theorem k_ownSigns {X : mX} {h : mH} {gz : Nat → Nat} {gc : Nat → Int64} {gs : Nat} {gh : Nat → Nat} {gk : Nat → Int64} {gl : Nat} {gb : Nat → Nat} {gt : Nat} {gr : Nat → Nat} {gm : Nat} {gp : Nat → Int64} {gq : Nat → Nat} {ge : Nat → Nat} {gn : Nat} {go : Nat → Nat} {gu : Nat} {gi : Bool} {ga : Nat → Int64} {gv : Nat → Nat} {gw : Nat} {gx : Int64} (hm : MN h gz gc gs gh gk gl gb gt gr gm gp gq ge gn go gu gi ga gv gw gx) (hxs : ∀ t, t < 4 → TxB gz t) (t : Nat) (ht : t < 4) : CnP X m_X7_ownSigns [.ref 270, .int (nI t)] h (some (.int (nI (owsM gz t (gz (7 + t)))))) := by
  obtain ⟨m0, m1, m2, m3, m4, m5, m6, m7, m8, m9, m10, m11, m12⟩ := id hm
  obtain ⟨hx1, hx2⟩ := hxs t ht
  have t16 : 2 ^ t ≤ 2 ^ 4 := Nat.pow_le_pow_right (by omega) (by omega)
  refine cn_of_ev (L0 := [_, _, _, _]) (by decide +kernel) rfl rfl (Nat.le_of_ble_eq_true rfl) rfl ?_
  refine ev_iconst (nI 0) dX7_ownSigns_0 rfl ?_
  refine ev_istore_n (L' := [_, _, _, _]) dX7_ownSigns_1 rfl (Nat.le_of_ble_eq_true rfl) rfl ?_
  refine ev_iconst (nI 0) dX7_ownSigns_2 rfl ?_
  refine ev_istore_n (L' := [_, _, _, _]) dX7_ownSigns_3 rfl (Nat.le_of_ble_eq_true rfl) rfl ?_
  refine ev_pc (pc' := 4) rfl ?_
  have LP4 : ∀ (mz : Nat) (k : Nat), gz (7 + t) - k = mz → (k ≤ gz (7 + t)) → Ev X m_X7_ownSigns B0 4 [.ref 270, .int (nI t), .int (nI (owsM gz t k)), .int (nI k)] [] h (fun o h1 => o = .inl (some (.int (nI (owsM gz t (gz (7 + t)))))) ∧ h1 = h) := by
    intro mz
    induction mz using Nat.strongRecOn with
    | _ mz ih =>
      intro k hmz hk
      have hxk := hx2 k
      have hm16 := mskM_lt gz (gz (331 + 40 * t + k)) 4
      refine ev_iload_n dX7_ownSigns_4 rfl rfl ?_
      refine ev_aload_n dX7_ownSigns_5 rfl rfl ?_
      refine ev_iload_n dX7_ownSigns_6 rfl rfl ?_
      refine ev_callVP1 dX7_ownSigns_7 cal_X7_signsOf lk_7_58 ⟨(Nat.le_of_ble_eq_true rfl), (Nat.le_of_ble_eq_true rfl)⟩ rfl m0 (Nat.le_of_ble_eq_true rfl) (k_signsOf hm t ht) ?_
      refine ev_icmp_geN 43 dX7_ownSigns_10 rfl (by omega) (by omega) (fun hc10 => ?_) (fun hc10 => ?_)
      · refine ev_iload_n dX7_ownSigns_43 rfl rfl ?_
        refine ev_ireturn dX7_ownSigns_44 rfl (Or.inl rfl) (Nat.zero_le _) (Nat.zero_le _) ?_
        rw [show gz (7 + t) = k by omega]
        exact ⟨rfl, rfl⟩
      · refine ev_iload_n dX7_ownSigns_13 rfl rfl ?_
        refine ev_aload_n dX7_ownSigns_14 rfl rfl ?_
        refine ev_aload_n dX7_ownSigns_15 rfl rfl ?_
        refine ev_iload_n dX7_ownSigns_16 rfl rfl ?_
        refine ev_iload_n dX7_ownSigns_17 rfl rfl ?_
        refine ev_callVP2 dX7_ownSigns_18 cal_X7_slotAt lk_7_95 ⟨(Nat.le_of_ble_eq_true rfl), (Nat.le_of_ble_eq_true rfl)⟩ rfl m0 (Nat.le_of_ble_eq_true rfl) (k_slotAt hm t k ht (by omega)) ?_
        refine ev_callVP1 dX7_ownSigns_21 cal_X7_textsWith lk_7_210 ⟨(Nat.le_of_ble_eq_true rfl), (Nat.le_of_ble_eq_true rfl)⟩ rfl m0 (Nat.le_of_ble_eq_true rfl) (k_textsWith hm hxs _ (hx2 k (by omega)).2.1) ?_
        refine ev_iconst (nI 1) dX7_ownSigns_24 rfl ?_
        refine ev_iload_n dX7_ownSigns_25 rfl rfl ?_
        refine ev_ishl dX7_ownSigns_26 ?_
        rw [msk_1 t ht]
        refine ev_icmp_neN 34 dX7_ownSigns_27 rfl (by omega) (by omega) (fun hc27 => ?_) (fun hc27 => ?_)
        · refine ev_iconst (nI 0) dX7_ownSigns_34 rfl ?_
          refine ev_pc (pc' := 35) rfl ?_
          first
            | (have e : owsM gz t (k + 1) = owsM gz t k + 1 := ctN_y (p := (fun j => decide (mskM gz (gz (331 + 40 * t + j)) 4 = 2 ^ t))) (n := k) (decT hc27)
               refine ev_iaddN dX7_ownSigns_35 ?_
               refine ev_L (st' := [.int (nI (owsM gz t (k + 1)))]) rfl (by first | (rw [e]; done) | (rw [e]; rfl)) ?_
               refine ev_istore_n (L' := [_, _, _, _]) dX7_ownSigns_36 rfl (Nat.le_of_ble_eq_true rfl) rfl ?_
               refine ev_iincN (L' := [_, _, _, _]) 1 dX7_ownSigns_37 rfl rfl ?_
               refine ev_goto 4 dX7_ownSigns_40 rfl ?_
               refine ev_pc (pc' := 4) rfl ?_
               exact ih _ (by omega) (k + 1) rfl (by omega))
            | (have e : owsM gz t (k + 1) = owsM gz t k := ctN_n (p := (fun j => decide (mskM gz (gz (331 + 40 * t + j)) 4 = 2 ^ t))) (n := k) (decF hc27)
               refine ev_iaddN dX7_ownSigns_35 ?_
               refine ev_L (st' := [.int (nI (owsM gz t (k + 1)))]) rfl (by first | (rw [e]; done) | (rw [e]; rfl)) ?_
               refine ev_istore_n (L' := [_, _, _, _]) dX7_ownSigns_36 rfl (Nat.le_of_ble_eq_true rfl) rfl ?_
               refine ev_iincN (L' := [_, _, _, _]) 1 dX7_ownSigns_37 rfl rfl ?_
               refine ev_goto 4 dX7_ownSigns_40 rfl ?_
               refine ev_pc (pc' := 4) rfl ?_
               exact ih _ (by omega) (k + 1) rfl (by omega))
        · refine ev_iconst (nI 1) dX7_ownSigns_30 rfl ?_
          refine ev_goto 35 dX7_ownSigns_31 rfl ?_
          refine ev_pc (pc' := 35) rfl ?_
          first
            | (have e : owsM gz t (k + 1) = owsM gz t k + 1 := ctN_y (p := (fun j => decide (mskM gz (gz (331 + 40 * t + j)) 4 = 2 ^ t))) (n := k) (decT hc27)
               refine ev_iaddN dX7_ownSigns_35 ?_
               refine ev_L (st' := [.int (nI (owsM gz t (k + 1)))]) rfl (by first | (rw [e]; done) | (rw [e]; rfl)) ?_
               refine ev_istore_n (L' := [_, _, _, _]) dX7_ownSigns_36 rfl (Nat.le_of_ble_eq_true rfl) rfl ?_
               refine ev_iincN (L' := [_, _, _, _]) 1 dX7_ownSigns_37 rfl rfl ?_
               refine ev_goto 4 dX7_ownSigns_40 rfl ?_
               refine ev_pc (pc' := 4) rfl ?_
               exact ih _ (by omega) (k + 1) rfl (by omega))
            | (have e : owsM gz t (k + 1) = owsM gz t k := ctN_n (p := (fun j => decide (mskM gz (gz (331 + 40 * t + j)) 4 = 2 ^ t))) (n := k) (decF hc27)
               refine ev_iaddN dX7_ownSigns_35 ?_
               refine ev_L (st' := [.int (nI (owsM gz t (k + 1)))]) rfl (by first | (rw [e]; done) | (rw [e]; rfl)) ?_
               refine ev_istore_n (L' := [_, _, _, _]) dX7_ownSigns_36 rfl (Nat.le_of_ble_eq_true rfl) rfl ?_
               refine ev_iincN (L' := [_, _, _, _]) 1 dX7_ownSigns_37 rfl rfl ?_
               refine ev_goto 4 dX7_ownSigns_40 rfl ?_
               refine ev_pc (pc' := 4) rfl ?_
               exact ih _ (by omega) (k + 1) rfl (by omega))
  exact LP4 _ 0 rfl (Nat.zero_le _)
set_option maxHeartbeats 4000000 in
set_option maxRecDepth 100000 in
theorem k_sharedSigns {X : mX} {h : mH} {gz : Nat → Nat} {gc : Nat → Int64} {gs : Nat} {gh : Nat → Nat} {gk : Nat → Int64} {gl : Nat} {gb : Nat → Nat} {gt : Nat} {gr : Nat → Nat} {gm : Nat} {gp : Nat → Int64} {gq : Nat → Nat} {ge : Nat → Nat} {gn : Nat} {go : Nat → Nat} {gu : Nat} {gi : Bool} {ga : Nat → Int64} {gv : Nat → Nat} {gw : Nat} {gx : Int64} (hm : MN h gz gc gs gh gk gl gb gt gr gm gp gq ge gn go gu gi ga gv gw gx) (hxs : ∀ t, t < 4 → TxB gz t) (t : Nat) (ht : t < 4) (u : Nat) (hu : u < 4) : CnP X m_X7_sharedSigns [.ref 270, .int (nI t), .int (nI u)] h (some (.int (nI (shsM gz t u (gz (7 + t)))))) := by
  obtain ⟨m0, m1, m2, m3, m4, m5, m6, m7, m8, m9, m10, m11, m12⟩ := id hm
  obtain ⟨hx1, hx2⟩ := hxs t ht
  refine cn_of_ev (L0 := [_, _, _, _, _]) (by decide +kernel) rfl rfl (Nat.le_of_ble_eq_true rfl) rfl ?_
  refine ev_iconst (nI 0) dX7_sharedSigns_0 rfl ?_
  refine ev_istore_n (L' := [_, _, _, _, _]) dX7_sharedSigns_1 rfl (Nat.le_of_ble_eq_true rfl) rfl ?_
  refine ev_iconst (nI 0) dX7_sharedSigns_2 rfl ?_
  refine ev_istore (L' := [_, _, _, _, _]) dX7_sharedSigns_3 (Nat.le_of_ble_eq_true rfl) rfl ?_
  refine ev_pc (pc' := 5) rfl ?_
  have LP5 : ∀ (mz : Nat) (k : Nat), gz (7 + t) - k = mz → (k ≤ gz (7 + t)) → Ev X m_X7_sharedSigns B0 5 [.ref 270, .int (nI t), .int (nI u), .int (nI (shsM gz t u k)), .int (nI k)] [] h (fun o h1 => o = .inl (some (.int (nI (shsM gz t u (gz (7 + t)))))) ∧ h1 = h) := by
    intro mz
    induction mz using Nat.strongRecOn with
    | _ mz ih =>
      intro k hmz hk
      have hxk := hx2 k
      refine ev_iload dX7_sharedSigns_5 rfl ?_
      refine ev_aload_n dX7_sharedSigns_7 rfl rfl ?_
      refine ev_iload_n dX7_sharedSigns_8 rfl rfl ?_
      refine ev_callVP1 dX7_sharedSigns_9 cal_X7_signsOf lk_7_58 ⟨(Nat.le_of_ble_eq_true rfl), (Nat.le_of_ble_eq_true rfl)⟩ rfl m0 (Nat.le_of_ble_eq_true rfl) (k_signsOf hm t ht) ?_
      refine ev_icmp_geN 44 dX7_sharedSigns_12 rfl (by omega) (by omega) (fun hc12 => ?_) (fun hc12 => ?_)
      · refine ev_iload_n dX7_sharedSigns_44 rfl rfl ?_
        refine ev_ireturn dX7_sharedSigns_45 rfl (Or.inl rfl) (Nat.zero_le _) (Nat.zero_le _) ?_
        rw [show gz (7 + t) = k by omega]
        exact ⟨rfl, rfl⟩
      · refine ev_iload_n dX7_sharedSigns_15 rfl rfl ?_
        refine ev_aload_n dX7_sharedSigns_16 rfl rfl ?_
        refine ev_iload_n dX7_sharedSigns_17 rfl rfl ?_
        refine ev_aload_n dX7_sharedSigns_18 rfl rfl ?_
        refine ev_iload_n dX7_sharedSigns_19 rfl rfl ?_
        refine ev_iload dX7_sharedSigns_20 rfl ?_
        refine ev_callVP2 dX7_sharedSigns_22 cal_X7_slotAt lk_7_95 ⟨(Nat.le_of_ble_eq_true rfl), (Nat.le_of_ble_eq_true rfl)⟩ rfl m0 (Nat.le_of_ble_eq_true rfl) (k_slotAt hm t k ht (by omega)) ?_
        refine ev_callVP2 dX7_sharedSigns_25 cal_X7_has lk_7_201 ⟨(Nat.le_of_ble_eq_true rfl), (Nat.le_of_ble_eq_true rfl)⟩ rfl m0 (Nat.le_of_ble_eq_true rfl) (k_has hm u hu (hxs u hu) _ (hx2 k (by omega)).2.1) ?_
        refine ev_if_eqB 35 dX7_sharedSigns_28 rfl (fun hc28 => ?_) (fun hc28 => ?_)
        · refine ev_iconst (nI 0) dX7_sharedSigns_35 rfl ?_
          refine ev_pc (pc' := 36) rfl ?_
          first
            | (have e : shsM gz t u (k + 1) = shsM gz t u k + 1 := ctN_y (p := (fun j => hasM gz u (gz (331 + 40 * t + j)) (gz (7 + u)))) (n := k) (hc28)
               refine ev_iaddN dX7_sharedSigns_36 ?_
               refine ev_L (st' := [.int (nI (shsM gz t u (k + 1)))]) rfl (by first | (rw [e]; done) | (rw [e]; rfl)) ?_
               refine ev_istore_n (L' := [_, _, _, _, _]) dX7_sharedSigns_37 rfl (Nat.le_of_ble_eq_true rfl) rfl ?_
               refine ev_iincN (L' := [_, _, _, _, _]) 1 dX7_sharedSigns_38 rfl rfl ?_
               refine ev_goto 5 dX7_sharedSigns_41 rfl ?_
               refine ev_pc (pc' := 5) rfl ?_
               exact ih _ (by omega) (k + 1) rfl (by omega))
            | (have e : shsM gz t u (k + 1) = shsM gz t u k := ctN_n (p := (fun j => hasM gz u (gz (331 + 40 * t + j)) (gz (7 + u)))) (n := k) (hc28)
               refine ev_iaddN dX7_sharedSigns_36 ?_
               refine ev_L (st' := [.int (nI (shsM gz t u (k + 1)))]) rfl (by first | (rw [e]; done) | (rw [e]; rfl)) ?_
               refine ev_istore_n (L' := [_, _, _, _, _]) dX7_sharedSigns_37 rfl (Nat.le_of_ble_eq_true rfl) rfl ?_
               refine ev_iincN (L' := [_, _, _, _, _]) 1 dX7_sharedSigns_38 rfl rfl ?_
               refine ev_goto 5 dX7_sharedSigns_41 rfl ?_
               refine ev_pc (pc' := 5) rfl ?_
               exact ih _ (by omega) (k + 1) rfl (by omega))
        · refine ev_iconst (nI 1) dX7_sharedSigns_31 rfl ?_
          refine ev_goto 36 dX7_sharedSigns_32 rfl ?_
          refine ev_pc (pc' := 36) rfl ?_
          first
            | (have e : shsM gz t u (k + 1) = shsM gz t u k + 1 := ctN_y (p := (fun j => hasM gz u (gz (331 + 40 * t + j)) (gz (7 + u)))) (n := k) (hc28)
               refine ev_iaddN dX7_sharedSigns_36 ?_
               refine ev_L (st' := [.int (nI (shsM gz t u (k + 1)))]) rfl (by first | (rw [e]; done) | (rw [e]; rfl)) ?_
               refine ev_istore_n (L' := [_, _, _, _, _]) dX7_sharedSigns_37 rfl (Nat.le_of_ble_eq_true rfl) rfl ?_
               refine ev_iincN (L' := [_, _, _, _, _]) 1 dX7_sharedSigns_38 rfl rfl ?_
               refine ev_goto 5 dX7_sharedSigns_41 rfl ?_
               refine ev_pc (pc' := 5) rfl ?_
               exact ih _ (by omega) (k + 1) rfl (by omega))
            | (have e : shsM gz t u (k + 1) = shsM gz t u k := ctN_n (p := (fun j => hasM gz u (gz (331 + 40 * t + j)) (gz (7 + u)))) (n := k) (hc28)
               refine ev_iaddN dX7_sharedSigns_36 ?_
               refine ev_L (st' := [.int (nI (shsM gz t u (k + 1)))]) rfl (by first | (rw [e]; done) | (rw [e]; rfl)) ?_
               refine ev_istore_n (L' := [_, _, _, _, _]) dX7_sharedSigns_37 rfl (Nat.le_of_ble_eq_true rfl) rfl ?_
               refine ev_iincN (L' := [_, _, _, _, _]) 1 dX7_sharedSigns_38 rfl rfl ?_
               refine ev_goto 5 dX7_sharedSigns_41 rfl ?_
               refine ev_pc (pc' := 5) rfl ?_
               exact ih _ (by omega) (k + 1) rfl (by omega))
  exact LP5 _ 0 rfl (Nat.zero_le _)
