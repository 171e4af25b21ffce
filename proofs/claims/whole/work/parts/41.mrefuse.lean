def newM (gz : Nat → Nat) (gc gp : Nat → Int64) (gq : Nat → Nat) (k n : Nat) : Bool := exN (fun p => hitM gz gc gp gq p k) n
def cbsM (gz : Nat → Nat) (gc gp : Nat → Int64) (gq : Nat → Nat) (gn t k : Nat) : Bool := decide (0 < gz (491 + k)) && decide (gz (551 + k) - ownM gz t k (gz (7 + t)) = 0) && !(newM gz gc gp gq k gn)
def fitM (gz : Nat → Nat) (gc gp : Nat → Int64) (gq : Nat → Nat) (gn : Nat) : Bool := decide (mssM gz gc gp gq false gn ≤ freM gz ∧ sizM gz + mssM gz gc gp gq true gn ≤ 150)
def swkM (gz : Nat → Nat) (gc gp : Nat → Int64) (gq : Nat → Nat) (gn t n : Nat) : Nat := smN (fun k => if cbsM gz gc gp gq gn t k = true then gz (491 + k) else 0) n
def fswM (gz : Nat → Nat) (gc gp : Nat → Int64) (gq : Nat → Nat) (gn t : Nat) : Bool := decide (mssM gz gc gp gq false gn ≤ freM gz + ctN (cbsM gz gc gp gq gn t) 60 ∧ sizM gz - swkM gz gc gp gq gn t 60 + mssM gz gc gp gq true gn ≤ 150)
def OwB (gz : Nat → Nat) (t : Nat) : Prop := ∀ k, k < 60 → ownM gz t k (gz (7 + t)) ≤ gz (551 + k) ∧ gz (551 + k) ≤ 1000
theorem mssM_le {gz : Nat → Nat} {gc gp : Nat → Int64} {gq : Nat → Nat} {b : Bool} {n : Nat} (h : ∀ p, p < n → gq p ≤ 40) : mssM gz gc gp gq b n ≤ n * 40 := smN_le (fun p hp => by
  have := h p hp
  split
  · split <;> omega
  · omega)
theorem sizM_le {gz : Nat → Nat} (h : KpB gz) : sizM gz ≤ 1200 := Nat.le_trans (smN_le (c := 20) (fun k hk => h k hk)) (by omega)
theorem swkM_le {gz : Nat → Nat} {gc gp : Nat → Int64} {gq : Nat → Nat} {gn t n : Nat} (hn : n ≤ 60) : swkM gz gc gp gq gn t n ≤ sizM gz := Nat.le_trans (smN_le2 (g := fun k => gz (491 + k)) (fun k _ => by
  split
  · exact Nat.le_refl _
  · exact Nat.zero_le _)) (smN_mono _ hn)
set_option maxHeartbeats 4000000 in
set_option maxRecDepth 100000 in
theorem k_isNew {X : mX} {h : mH} {gz : Nat → Nat} {gc : Nat → Int64} {gs : Nat} {gh : Nat → Nat} {gk : Nat → Int64} {gl : Nat} {gb : Nat → Nat} {gt : Nat} {gr : Nat → Nat} {gm : Nat} {gp : Nat → Int64} {gq : Nat → Nat} {ge : Nat → Nat} {gn : Nat} {go : Nat → Nat} {gu : Nat} {gi : Bool} {ga : Nat → Int64} {gv : Nat → Nat} {gw : Nat} {gx : Int64} (hm : MN h gz gc gs gh gk gl gb gt gr gm gp gq ge gn go gu gi ga gv gw gx) (hn40 : gn ≤ 40) (hq : ∀ p, p < gn → gq p ≤ 40) (hkp : KpB gz) (k : Nat) (hk : k < 60) : CnP X m_X7_isNew [.ref 270, .int (nI k)] h (some (.int (bI (newM gz gc gp gq k gn)))) := by
  obtain ⟨m0, m1, m2, m3, m4, m5, m6, m7, m8, m9, m10, m11, m12⟩ := id hm
  have hkk := hkp k hk
  refine cn_of_ev (L0 := [_, _, _, _]) (by decide +kernel) rfl rfl (Nat.le_of_ble_eq_true rfl) rfl ?_
  refine ev_iconst (nI 0) dX7_isNew_0 rfl ?_
  refine ev_istore_n (L' := [_, _, _, _]) dX7_isNew_1 rfl (Nat.le_of_ble_eq_true rfl) rfl ?_
  refine ev_iconst (nI 0) dX7_isNew_2 rfl ?_
  refine ev_istore_n (L' := [_, _, _, _]) dX7_isNew_3 rfl (Nat.le_of_ble_eq_true rfl) rfl ?_
  refine ev_pc (pc' := 4) rfl ?_
  have LP4 : ∀ (mz : Nat) (p : Nat), gn - p = mz → (p ≤ gn) → Ev X m_X7_isNew B0 4 [.ref 270, .int (nI k), .int (bI (newM gz gc gp gq k p)), .int (nI p)] [] h (fun o h1 => o = .inl (some (.int (bI (newM gz gc gp gq k gn)))) ∧ h1 = h) := by
    intro mz
    induction mz using Nat.strongRecOn with
    | _ mz ih =>
      intro p hmz hp
      have hqp := hq p
      refine ev_iload_n dX7_isNew_4 rfl rfl ?_
      refine ev_aload_n dX7_isNew_5 rfl rfl ?_
      refine ev_getfield dX7_isNew_6 lf_7_72 m0 rfl ?_
      refine ev_icmp_geN 63 dX7_isNew_9 rfl (by omega) (by omega) (fun hc9 => ?_) (fun hc9 => ?_)
      · refine ev_iload_n dX7_isNew_63 rfl rfl ?_
        refine ev_zreturn dX7_isNew_64 rfl (by first | rfl | exact bI_nar _) (Or.inl rfl) (Nat.zero_le _) (Nat.zero_le _) ?_
        rw [show gn = p by omega]
        exact ⟨rfl, rfl⟩
      · refine ev_iload_n dX7_isNew_12 rfl rfl ?_
        refine ev_if_neB 51 dX7_isNew_13 rfl (fun hc13 => ?_) (fun hc13 => ?_)
        · refine ev_iconst (nI 1) dX7_isNew_51 rfl ?_
          refine ev_goto 56 dX7_isNew_52 rfl ?_
          refine ev_pc (pc' := 56) rfl ?_
          have e : newM gz gc gp gq k (p + 1) = (newM gz gc gp gq k p || hitM gz gc gp gq p k) := rfl
          first
            | rw [show nI 1 = bI (newM gz gc gp gq k (p + 1)) from by rw [e, hc13]; rfl]
            | rw [show nI 1 = bI (newM gz gc gp gq k (p + 1)) from by rw [e, hitM_y hc32 hc48, Bool.or_true]; rfl]
            | rw [show nI 0 = bI (newM gz gc gp gq k (p + 1)) from by rw [e, hc13, hitM_n1 hc32]; rfl]
            | rw [show nI 0 = bI (newM gz gc gp gq k (p + 1)) from by rw [e, hc13, hitM_n2 hc48]; rfl]
          refine ev_istore_n (L' := [_, _, _, _]) dX7_isNew_56 rfl (Nat.le_of_ble_eq_true rfl) rfl ?_
          refine ev_iincN (L' := [_, _, _, _]) 1 dX7_isNew_57 rfl rfl ?_
          refine ev_goto 4 dX7_isNew_60 rfl ?_
          refine ev_pc (pc' := 4) rfl ?_
          exact ih _ (by omega) (p + 1) rfl (by omega)
        · refine ev_aload_n dX7_isNew_16 rfl rfl ?_
          refine ev_getfield dX7_isNew_17 lf_7_7 m0 rfl ?_
          refine ev_sipush (nI 491) dX7_isNew_20 rfl ?_
          refine ev_iload_n dX7_isNew_23 rfl rfl ?_
          refine ev_iaddN dX7_isNew_24 ?_
          refine ev_ialoadF dX7_isNew_25 m1 (by omega) (by decide) ?_
          refine ev_aload_n dX7_isNew_26 rfl rfl ?_
          refine ev_getfield dX7_isNew_27 lf_7_32 m0 rfl ?_
          refine ev_iload_n dX7_isNew_30 rfl rfl ?_
          refine ev_ialoadF dX7_isNew_31 m8 (by omega) (by decide) ?_
          refine ev_icmp_neN 55 dX7_isNew_32 rfl (by omega) (by omega) (fun hc32 => ?_) (fun hc32 => ?_)
          · refine ev_iconst (nI 0) dX7_isNew_55 rfl ?_
            refine ev_pc (pc' := 56) rfl ?_
            have e : newM gz gc gp gq k (p + 1) = (newM gz gc gp gq k p || hitM gz gc gp gq p k) := rfl
            first
              | rw [show nI 1 = bI (newM gz gc gp gq k (p + 1)) from by rw [e, hc13]; rfl]
              | rw [show nI 1 = bI (newM gz gc gp gq k (p + 1)) from by rw [e, hitM_y hc32 hc48, Bool.or_true]; rfl]
              | rw [show nI 0 = bI (newM gz gc gp gq k (p + 1)) from by rw [e, hc13, hitM_n1 hc32]; rfl]
              | rw [show nI 0 = bI (newM gz gc gp gq k (p + 1)) from by rw [e, hc13, hitM_n2 hc48]; rfl]
            refine ev_istore_n (L' := [_, _, _, _]) dX7_isNew_56 rfl (Nat.le_of_ble_eq_true rfl) rfl ?_
            refine ev_iincN (L' := [_, _, _, _]) 1 dX7_isNew_57 rfl rfl ?_
            refine ev_goto 4 dX7_isNew_60 rfl ?_
            refine ev_pc (pc' := 4) rfl ?_
            exact ih _ (by omega) (p + 1) rfl (by omega)
          · refine ev_aload_n dX7_isNew_35 rfl rfl ?_
            refine ev_getfield dX7_isNew_36 lf_7_13 m0 rfl ?_
            refine ev_iload_n dX7_isNew_39 rfl rfl ?_
            refine ev_laloadN dX7_isNew_40 m2 (by omega) (by decide) ?_
            refine ev_aload_n dX7_isNew_41 rfl rfl ?_
            refine ev_getfield dX7_isNew_42 lf_7_29 m0 rfl ?_
            refine ev_iload_n dX7_isNew_45 rfl rfl ?_
            refine ev_laloadN dX7_isNew_46 m7 (by omega) (by decide) ?_
            refine ev_lcmp_ne 55 dX7_isNew_47 dX7_isNew_48 rfl (fun hc48 => ?_) (fun hc48 => ?_)
            · refine ev_iconst (nI 0) dX7_isNew_55 rfl ?_
              refine ev_pc (pc' := 56) rfl ?_
              have e : newM gz gc gp gq k (p + 1) = (newM gz gc gp gq k p || hitM gz gc gp gq p k) := rfl
              first
                | rw [show nI 1 = bI (newM gz gc gp gq k (p + 1)) from by rw [e, hc13]; rfl]
                | rw [show nI 1 = bI (newM gz gc gp gq k (p + 1)) from by rw [e, hitM_y hc32 hc48, Bool.or_true]; rfl]
                | rw [show nI 0 = bI (newM gz gc gp gq k (p + 1)) from by rw [e, hc13, hitM_n1 hc32]; rfl]
                | rw [show nI 0 = bI (newM gz gc gp gq k (p + 1)) from by rw [e, hc13, hitM_n2 hc48]; rfl]
              refine ev_istore_n (L' := [_, _, _, _]) dX7_isNew_56 rfl (Nat.le_of_ble_eq_true rfl) rfl ?_
              refine ev_iincN (L' := [_, _, _, _]) 1 dX7_isNew_57 rfl rfl ?_
              refine ev_goto 4 dX7_isNew_60 rfl ?_
              refine ev_pc (pc' := 4) rfl ?_
              exact ih _ (by omega) (p + 1) rfl (by omega)
            · refine ev_iconst (nI 1) dX7_isNew_51 rfl ?_
              refine ev_goto 56 dX7_isNew_52 rfl ?_
              refine ev_pc (pc' := 56) rfl ?_
              have e : newM gz gc gp gq k (p + 1) = (newM gz gc gp gq k p || hitM gz gc gp gq p k) := rfl
              first
                | rw [show nI 1 = bI (newM gz gc gp gq k (p + 1)) from by rw [e, hc13]; rfl]
                | rw [show nI 1 = bI (newM gz gc gp gq k (p + 1)) from by rw [e, hitM_y hc32 hc48, Bool.or_true]; rfl]
                | rw [show nI 0 = bI (newM gz gc gp gq k (p + 1)) from by rw [e, hc13, hitM_n1 hc32]; rfl]
                | rw [show nI 0 = bI (newM gz gc gp gq k (p + 1)) from by rw [e, hc13, hitM_n2 hc48]; rfl]
              refine ev_istore_n (L' := [_, _, _, _]) dX7_isNew_56 rfl (Nat.le_of_ble_eq_true rfl) rfl ?_
              refine ev_iincN (L' := [_, _, _, _]) 1 dX7_isNew_57 rfl rfl ?_
              refine ev_goto 4 dX7_isNew_60 rfl ?_
              refine ev_pc (pc' := 4) rfl ?_
              exact ih _ (by omega) (p + 1) rfl (by omega)
  exact LP4 _ 0 rfl (Nat.zero_le _)
set_option maxHeartbeats 4000000 in
set_option maxRecDepth 100000 in
theorem k_canBeSwept {X : mX} {h : mH} {gz : Nat → Nat} {gc : Nat → Int64} {gs : Nat} {gh : Nat → Nat} {gk : Nat → Int64} {gl : Nat} {gb : Nat → Nat} {gt : Nat} {gr : Nat → Nat} {gm : Nat} {gp : Nat → Int64} {gq : Nat → Nat} {ge : Nat → Nat} {gn : Nat} {go : Nat → Nat} {gu : Nat} {gi : Bool} {ga : Nat → Int64} {gv : Nat → Nat} {gw : Nat} {gx : Int64} (hm : MN h gz gc gs gh gk gl gb gt gr gm gp gq ge gn go gu gi ga gv gw gx) (hn40 : gn ≤ 40) (hq : ∀ p, p < gn → gq p ≤ 40) (hkp : KpB gz) (t : Nat) (ht : t < 4) (hx : TxB gz t) (ho : OwB gz t) (k : Nat) (hk : k < 60) : CnP X m_X7_canBeSwept [.ref 270, .int (nI k), .int (nI t)] h (some (.int (bI (cbsM gz gc gp gq gn t k)))) := by
  obtain ⟨m0, m1, m2, m3, m4, m5, m6, m7, m8, m9, m10, m11, m12⟩ := id hm
  have hkk := hkp k hk
  obtain ⟨ho1, ho2⟩ := ho k hk
  refine cn_of_ev (L0 := [_, _, _]) (by decide +kernel) rfl rfl (Nat.le_of_ble_eq_true rfl) rfl ?_
  refine ev_aload_n dX7_canBeSwept_0 rfl rfl ?_
  refine ev_iload_n dX7_canBeSwept_1 rfl rfl ?_
  refine ev_callVP1 dX7_canBeSwept_2 cal_X7_isKept lk_7_82 ⟨(Nat.le_of_ble_eq_true rfl), (Nat.le_of_ble_eq_true rfl)⟩ rfl m0 (Nat.le_of_ble_eq_true rfl) (k_isKept hm k hk (by omega)) ?_
  refine ev_if_eqB 29 dX7_canBeSwept_5 rfl (fun hc5 => ?_) (fun hc5 => ?_)
  · refine ev_iconst (nI 0) dX7_canBeSwept_29 rfl ?_
    refine ev_zreturn dX7_canBeSwept_30 rfl (by first | rfl | exact bI_nar _) (Or.inl rfl) (Nat.zero_le _) (Nat.zero_le _) ?_
    first
      | (rw [cbsM, hc5, decide_eq_true hc14, hc22]; exact ⟨rfl, rfl⟩)
      | (rw [cbsM, hc22, Bool.not_true, Bool.and_false]; exact ⟨rfl, rfl⟩)
      | (rw [cbsM, decide_eq_false hc14, Bool.and_false, Bool.false_and]; exact ⟨rfl, rfl⟩)
      | (rw [cbsM, hc5, Bool.false_and, Bool.false_and]; exact ⟨rfl, rfl⟩)
  · refine ev_aload_n dX7_canBeSwept_8 rfl rfl ?_
    refine ev_iload_n dX7_canBeSwept_9 rfl rfl ?_
    refine ev_iload_n dX7_canBeSwept_10 rfl rfl ?_
    refine ev_callVP2 dX7_canBeSwept_11 cal_X7_ownersBut lk_7_98 ⟨(Nat.le_of_ble_eq_true rfl), (Nat.le_of_ble_eq_true rfl)⟩ rfl m0 (Nat.le_of_ble_eq_true rfl) (k_ownersBut hm t k ht hk hx ho1) ?_
    refine ev_if_neN 29 dX7_canBeSwept_14 rfl (by omega) (fun hc14 => ?_) (fun hc14 => ?_)
    · refine ev_iconst (nI 0) dX7_canBeSwept_29 rfl ?_
      refine ev_zreturn dX7_canBeSwept_30 rfl (by first | rfl | exact bI_nar _) (Or.inl rfl) (Nat.zero_le _) (Nat.zero_le _) ?_
      first
        | (rw [cbsM, hc5, decide_eq_true hc14, hc22]; exact ⟨rfl, rfl⟩)
        | (rw [cbsM, hc22, Bool.not_true, Bool.and_false]; exact ⟨rfl, rfl⟩)
        | (rw [cbsM, decide_eq_false hc14, Bool.and_false, Bool.false_and]; exact ⟨rfl, rfl⟩)
        | (rw [cbsM, hc5, Bool.false_and, Bool.false_and]; exact ⟨rfl, rfl⟩)
    · refine ev_aload_n dX7_canBeSwept_17 rfl rfl ?_
      refine ev_iload_n dX7_canBeSwept_18 rfl rfl ?_
      refine ev_callVP1 dX7_canBeSwept_19 cal_X7_isNew lk_7_101 ⟨(Nat.le_of_ble_eq_true rfl), (Nat.le_of_ble_eq_true rfl)⟩ rfl m0 (Nat.le_of_ble_eq_true rfl) (k_isNew hm hn40 hq hkp k hk) ?_
      refine ev_if_neB 29 dX7_canBeSwept_22 rfl (fun hc22 => ?_) (fun hc22 => ?_)
      · refine ev_iconst (nI 0) dX7_canBeSwept_29 rfl ?_
        refine ev_zreturn dX7_canBeSwept_30 rfl (by first | rfl | exact bI_nar _) (Or.inl rfl) (Nat.zero_le _) (Nat.zero_le _) ?_
        first
          | (rw [cbsM, hc5, decide_eq_true hc14, hc22]; exact ⟨rfl, rfl⟩)
          | (rw [cbsM, hc22, Bool.not_true, Bool.and_false]; exact ⟨rfl, rfl⟩)
          | (rw [cbsM, decide_eq_false hc14, Bool.and_false, Bool.false_and]; exact ⟨rfl, rfl⟩)
          | (rw [cbsM, hc5, Bool.false_and, Bool.false_and]; exact ⟨rfl, rfl⟩)
      · refine ev_iconst (nI 1) dX7_canBeSwept_25 rfl ?_
        refine ev_goto 30 dX7_canBeSwept_26 rfl ?_
        refine ev_zreturn dX7_canBeSwept_30 rfl (by first | rfl | exact bI_nar _) (Or.inl rfl) (Nat.zero_le _) (Nat.zero_le _) ?_
        first
          | (rw [cbsM, hc5, decide_eq_true hc14, hc22]; exact ⟨rfl, rfl⟩)
          | (rw [cbsM, hc22, Bool.not_true, Bool.and_false]; exact ⟨rfl, rfl⟩)
          | (rw [cbsM, decide_eq_false hc14, Bool.and_false, Bool.false_and]; exact ⟨rfl, rfl⟩)
          | (rw [cbsM, hc5, Bool.false_and, Bool.false_and]; exact ⟨rfl, rfl⟩)
set_option maxHeartbeats 4000000 in
set_option maxRecDepth 100000 in
theorem k_fitsAsItIs {X : mX} {h : mH} {gz : Nat → Nat} {gc : Nat → Int64} {gs : Nat} {gh : Nat → Nat} {gk : Nat → Int64} {gl : Nat} {gb : Nat → Nat} {gt : Nat} {gr : Nat → Nat} {gm : Nat} {gp : Nat → Int64} {gq : Nat → Nat} {ge : Nat → Nat} {gn : Nat} {go : Nat → Nat} {gu : Nat} {gi : Bool} {ga : Nat → Int64} {gv : Nat → Nat} {gw : Nat} {gx : Int64} (hm : MN h gz gc gs gh gk gl gb gt gr gm gp gq ge gn go gu gi ga gv gw gx) (hn40 : gn ≤ 40) (hq : ∀ p, p < gn → gq p ≤ 40) (hkp : KpB gz) : CnP X m_X7_fitsAsItIs [.ref 270] h (some (.int (bI (fitM gz gc gp gq gn)))) := by
  obtain ⟨m0, m1, m2, m3, m4, m5, m6, m7, m8, m9, m10, m11, m12⟩ := id hm
  have b1 := mssM_le (gz := gz) (gc := gc) (gp := gp) (b := false) hq
  have b2 := mssM_le (gz := gz) (gc := gc) (gp := gp) (b := true) hq
  have b3 := sizM_le hkp
  have b4 : freM gz ≤ 60 := ctN_le _ _
  refine cn_of_ev (L0 := [_]) (by decide +kernel) rfl rfl (Nat.le_of_ble_eq_true rfl) rfl ?_
  refine ev_aload_n dX7_fitsAsItIs_0 rfl rfl ?_
  refine ev_iconst (nI 0) dX7_fitsAsItIs_1 rfl ?_
  refine ev_callVP1 dX7_fitsAsItIs_2 cal_X7_missing lk_7_104 ⟨(Nat.le_of_ble_eq_true rfl), (Nat.le_of_ble_eq_true rfl)⟩ rfl m0 (Nat.le_of_ble_eq_true rfl) (k_missing hm hn40 hq hkp false) ?_
  refine ev_aload_n dX7_fitsAsItIs_5 rfl rfl ?_
  refine ev_callVP0 dX7_fitsAsItIs_6 cal_X7_freeSlots lk_7_108 ⟨(Nat.le_of_ble_eq_true rfl), (Nat.le_of_ble_eq_true rfl)⟩ rfl m0 (Nat.le_of_ble_eq_true rfl) (k_freeSlots hm hkp) ?_
  refine ev_icmp_gtN 32 dX7_fitsAsItIs_9 rfl (by omega) (by omega) (fun hc9 => ?_) (fun hc9 => ?_)
  · refine ev_iconst (nI 0) dX7_fitsAsItIs_32 rfl ?_
    refine ev_zreturn dX7_fitsAsItIs_33 rfl (by first | rfl | exact bI_nar _) (Or.inl rfl) (Nat.zero_le _) (Nat.zero_le _) ?_
    first | (rw [fitM, decide_eq_true (by omega)]; exact ⟨rfl, rfl⟩) | (rw [fitM, decide_eq_false (by omega)]; exact ⟨rfl, rfl⟩)
  · refine ev_aload_n dX7_fitsAsItIs_12 rfl rfl ?_
    refine ev_callVP0 dX7_fitsAsItIs_13 cal_X7_storeSize lk_7_112 ⟨(Nat.le_of_ble_eq_true rfl), (Nat.le_of_ble_eq_true rfl)⟩ rfl m0 (Nat.le_of_ble_eq_true rfl) (k_storeSize hm hkp) ?_
    refine ev_aload_n dX7_fitsAsItIs_16 rfl rfl ?_
    refine ev_iconst (nI 1) dX7_fitsAsItIs_17 rfl ?_
    refine ev_callVP1 dX7_fitsAsItIs_18 cal_X7_missing lk_7_104 ⟨(Nat.le_of_ble_eq_true rfl), (Nat.le_of_ble_eq_true rfl)⟩ rfl m0 (Nat.le_of_ble_eq_true rfl) (k_missing hm hn40 hq hkp true) ?_
    refine ev_iaddN dX7_fitsAsItIs_21 ?_
    refine ev_sipush (nI 150) dX7_fitsAsItIs_22 rfl ?_
    refine ev_icmp_gtN 32 dX7_fitsAsItIs_25 rfl (by omega) (by omega) (fun hc25 => ?_) (fun hc25 => ?_)
    · refine ev_iconst (nI 0) dX7_fitsAsItIs_32 rfl ?_
      refine ev_zreturn dX7_fitsAsItIs_33 rfl (by first | rfl | exact bI_nar _) (Or.inl rfl) (Nat.zero_le _) (Nat.zero_le _) ?_
      first | (rw [fitM, decide_eq_true (by omega)]; exact ⟨rfl, rfl⟩) | (rw [fitM, decide_eq_false (by omega)]; exact ⟨rfl, rfl⟩)
    · refine ev_iconst (nI 1) dX7_fitsAsItIs_28 rfl ?_
      refine ev_goto 33 dX7_fitsAsItIs_29 rfl ?_
      refine ev_zreturn dX7_fitsAsItIs_33 rfl (by first | rfl | exact bI_nar _) (Or.inl rfl) (Nat.zero_le _) (Nat.zero_le _) ?_
      first | (rw [fitM, decide_eq_true (by omega)]; exact ⟨rfl, rfl⟩) | (rw [fitM, decide_eq_false (by omega)]; exact ⟨rfl, rfl⟩)
set_option maxHeartbeats 4000000 in
set_option maxRecDepth 100000 in
theorem k_fitsSwept {X : mX} {h : mH} {gz : Nat → Nat} {gc : Nat → Int64} {gs : Nat} {gh : Nat → Nat} {gk : Nat → Int64} {gl : Nat} {gb : Nat → Nat} {gt : Nat} {gr : Nat → Nat} {gm : Nat} {gp : Nat → Int64} {gq : Nat → Nat} {ge : Nat → Nat} {gn : Nat} {go : Nat → Nat} {gu : Nat} {gi : Bool} {ga : Nat → Int64} {gv : Nat → Nat} {gw : Nat} {gx : Int64} (hm : MN h gz gc gs gh gk gl gb gt gr gm gp gq ge gn go gu gi ga gv gw gx) (hn40 : gn ≤ 40) (hq : ∀ p, p < gn → gq p ≤ 40) (hkp : KpB gz) (t : Nat) (ht : t < 4) (hx : TxB gz t) (ho : OwB gz t) : CnP X m_X7_fitsSwept [.ref 270, .int (nI t)] h (some (.int (bI (fswM gz gc gp gq gn t)))) := by
  obtain ⟨m0, m1, m2, m3, m4, m5, m6, m7, m8, m9, m10, m11, m12⟩ := id hm
  have b1 := mssM_le (gz := gz) (gc := gc) (gp := gp) (b := false) hq
  have b2 := mssM_le (gz := gz) (gc := gc) (gp := gp) (b := true) hq
  have b3 := sizM_le hkp
  have b4 : freM gz ≤ 60 := ctN_le _ _
  refine cn_of_ev (L0 := [_, _, _, _, _]) (by decide +kernel) rfl rfl (Nat.le_of_ble_eq_true rfl) rfl ?_
  refine ev_aload_n dX7_fitsSwept_0 rfl rfl ?_
  refine ev_callVP0 dX7_fitsSwept_1 cal_X7_freeSlots lk_7_108 ⟨(Nat.le_of_ble_eq_true rfl), (Nat.le_of_ble_eq_true rfl)⟩ rfl m0 (Nat.le_of_ble_eq_true rfl) (k_freeSlots hm hkp) ?_
  refine ev_istore_n (L' := [_, _, _, _, _]) dX7_fitsSwept_4 rfl (Nat.le_of_ble_eq_true rfl) rfl ?_
  refine ev_aload_n dX7_fitsSwept_5 rfl rfl ?_
  refine ev_callVP0 dX7_fitsSwept_6 cal_X7_storeSize lk_7_112 ⟨(Nat.le_of_ble_eq_true rfl), (Nat.le_of_ble_eq_true rfl)⟩ rfl m0 (Nat.le_of_ble_eq_true rfl) (k_storeSize hm hkp) ?_
  refine ev_istore_n (L' := [_, _, _, _, _]) dX7_fitsSwept_9 rfl (Nat.le_of_ble_eq_true rfl) rfl ?_
  refine ev_iconst (nI 0) dX7_fitsSwept_10 rfl ?_
  refine ev_istore (L' := [_, _, _, _, _]) dX7_fitsSwept_11 (Nat.le_of_ble_eq_true rfl) rfl ?_
  refine ev_pc (pc' := 13) rfl ?_
  have LP13 : ∀ (mz : Nat) (k : Nat), 60 - k = mz → (k ≤ 60) → Ev X m_X7_fitsSwept B0 13 [.ref 270, .int (nI t), .int (nI (freM gz + ctN (cbsM gz gc gp gq gn t) k)), .int (nI (sizM gz - swkM gz gc gp gq gn t k)), .int (nI k)] [] h (fun o h1 => o = .inl (some (.int (bI (fswM gz gc gp gq gn t)))) ∧ h1 = h) := by
    intro mz
    induction mz using Nat.strongRecOn with
    | _ mz ih =>
      intro k hmz hk
      have c1 := swkM_le (gz := gz) (gc := gc) (gp := gp) (gq := gq) (gn := gn) (t := t) hk
      have c2 : ctN (cbsM gz gc gp gq gn t) k ≤ k := ctN_le _ _
      have c3 := hkp k
      refine ev_iload dX7_fitsSwept_13 rfl ?_
      refine ev_bipush (nI 60) dX7_fitsSwept_15 rfl ?_
      refine ev_icmp_geN 53 dX7_fitsSwept_17 rfl (by omega) (by omega) (fun hc17 => ?_) (fun hc17 => ?_)
      · refine ev_pc (pc' := 53) rfl ?_
        have e60 : k = 60 := by omega
        subst e60
        refine ev_aload_n dX7_fitsSwept_53 rfl rfl ?_
        refine ev_iconst (nI 0) dX7_fitsSwept_54 rfl ?_
        refine ev_callVP1 dX7_fitsSwept_55 cal_X7_missing lk_7_104 ⟨(Nat.le_of_ble_eq_true rfl), (Nat.le_of_ble_eq_true rfl)⟩ rfl m0 (Nat.le_of_ble_eq_true rfl) (k_missing hm hn40 hq hkp false) ?_
        refine ev_iload_n dX7_fitsSwept_58 rfl rfl ?_
        refine ev_icmp_gtN 79 dX7_fitsSwept_59 rfl (by omega) (by omega) (fun hc59 => ?_) (fun hc59 => ?_)
        · refine ev_iconst (nI 0) dX7_fitsSwept_79 rfl ?_
          refine ev_zreturn dX7_fitsSwept_80 rfl (by first | rfl | exact bI_nar _) (Or.inl rfl) (Nat.zero_le _) (Nat.zero_le _) ?_
          first | (rw [fswM, decide_eq_true (by omega)]; exact ⟨rfl, rfl⟩) | (rw [fswM, decide_eq_false (by omega)]; exact ⟨rfl, rfl⟩)
        · refine ev_iload_n dX7_fitsSwept_62 rfl rfl ?_
          refine ev_aload_n dX7_fitsSwept_63 rfl rfl ?_
          refine ev_iconst (nI 1) dX7_fitsSwept_64 rfl ?_
          refine ev_callVP1 dX7_fitsSwept_65 cal_X7_missing lk_7_104 ⟨(Nat.le_of_ble_eq_true rfl), (Nat.le_of_ble_eq_true rfl)⟩ rfl m0 (Nat.le_of_ble_eq_true rfl) (k_missing hm hn40 hq hkp true) ?_
          refine ev_iaddN dX7_fitsSwept_68 ?_
          refine ev_sipush (nI 150) dX7_fitsSwept_69 rfl ?_
          refine ev_icmp_gtN 79 dX7_fitsSwept_72 rfl (by omega) (by omega) (fun hc72 => ?_) (fun hc72 => ?_)
          · refine ev_iconst (nI 0) dX7_fitsSwept_79 rfl ?_
            refine ev_zreturn dX7_fitsSwept_80 rfl (by first | rfl | exact bI_nar _) (Or.inl rfl) (Nat.zero_le _) (Nat.zero_le _) ?_
            first | (rw [fswM, decide_eq_true (by omega)]; exact ⟨rfl, rfl⟩) | (rw [fswM, decide_eq_false (by omega)]; exact ⟨rfl, rfl⟩)
          · refine ev_iconst (nI 1) dX7_fitsSwept_75 rfl ?_
            refine ev_goto 80 dX7_fitsSwept_76 rfl ?_
            refine ev_zreturn dX7_fitsSwept_80 rfl (by first | rfl | exact bI_nar _) (Or.inl rfl) (Nat.zero_le _) (Nat.zero_le _) ?_
            first | (rw [fswM, decide_eq_true (by omega)]; exact ⟨rfl, rfl⟩) | (rw [fswM, decide_eq_false (by omega)]; exact ⟨rfl, rfl⟩)
      · refine ev_aload_n dX7_fitsSwept_20 rfl rfl ?_
        refine ev_iload dX7_fitsSwept_21 rfl ?_
        refine ev_iload_n dX7_fitsSwept_23 rfl rfl ?_
        refine ev_callVP2 dX7_fitsSwept_24 cal_X7_canBeSwept lk_7_115 ⟨(Nat.le_of_ble_eq_true rfl), (Nat.le_of_ble_eq_true rfl)⟩ rfl m0 (Nat.le_of_ble_eq_true rfl) (k_canBeSwept hm hn40 hq hkp t ht hx ho k (by omega)) ?_
        refine ev_if_eqB 47 dX7_fitsSwept_27 rfl (fun hc27 => ?_) (fun hc27 => ?_)
        · refine ev_pc (pc' := 47) rfl ?_
          have e1 := ctN_n hc27
          have e2 : swkM gz gc gp gq gn t (k + 1) = swkM gz gc gp gq gn t k := (show smN _ k + (if cbsM gz gc gp gq gn t k = true then gz (491 + k) else 0) = _ from by rw [if_neg (by rw [hc27]; decide)]; rfl)
          refine ev_iincN (L' := [_, _, _, _, _]) 1 dX7_fitsSwept_47 rfl rfl ?_
          refine ev_goto 13 dX7_fitsSwept_50 rfl ?_
          refine ev_pc (pc' := 13) rfl ?_
          refine ev_L (L' := [.ref 270, .int (nI t), .int (nI (freM gz + ctN (cbsM gz gc gp gq gn t) (k + 1))), .int (nI (sizM gz - swkM gz gc gp gq gn t (k + 1))), .int (nI (k + 1))]) (by rw [e1, e2]) rfl ?_
          exact ih _ (by omega) (k + 1) rfl (by omega)
        · refine ev_pc (pc' := 30) rfl ?_
          have e1 := ctN_y hc27
          have e2 : swkM gz gc gp gq gn t (k + 1) = swkM gz gc gp gq gn t k + gz (491 + k) := (show smN _ k + (if cbsM gz gc gp gq gn t k = true then gz (491 + k) else 0) = _ from by rw [if_pos hc27]; rfl)
          have c4 := swkM_le (gz := gz) (gc := gc) (gp := gp) (gq := gq) (gn := gn) (t := t) (show k + 1 ≤ 60 by omega)
          refine ev_iincN (L' := [_, _, _, _, _]) 1 dX7_fitsSwept_30 rfl rfl ?_
          refine ev_iload_n dX7_fitsSwept_33 rfl rfl ?_
          refine ev_aload_n dX7_fitsSwept_34 rfl rfl ?_
          refine ev_getfield dX7_fitsSwept_35 lf_7_7 m0 rfl ?_
          refine ev_sipush (nI 491) dX7_fitsSwept_38 rfl ?_
          refine ev_iload dX7_fitsSwept_41 rfl ?_
          refine ev_iaddN dX7_fitsSwept_43 ?_
          refine ev_ialoadF dX7_fitsSwept_44 m1 (by omega) (by decide) ?_
          refine ev_isubN dX7_fitsSwept_45 (by omega) ?_
          refine ev_istore_n (L' := [_, _, _, _, _]) dX7_fitsSwept_46 rfl (Nat.le_of_ble_eq_true rfl) rfl ?_
          refine ev_iincN (L' := [_, _, _, _, _]) 1 dX7_fitsSwept_47 rfl rfl ?_
          refine ev_goto 13 dX7_fitsSwept_50 rfl ?_
          refine ev_pc (pc' := 13) rfl ?_
          refine ev_L (L' := [.ref 270, .int (nI t), .int (nI (freM gz + ctN (cbsM gz gc gp gq gn t) (k + 1))), .int (nI (sizM gz - swkM gz gc gp gq gn t (k + 1))), .int (nI (k + 1))]) (by rw [e1, e2, Nat.sub_add_eq, Nat.add_assoc]) rfl ?_
          exact ih _ (by omega) (k + 1) rfl (by omega)
  exact LP13 _ 0 rfl (Nat.zero_le _)
set_option maxHeartbeats 4000000 in
set_option maxRecDepth 100000 in
theorem k_isRefused {X : mX} {h : mH} {gz : Nat → Nat} {gc : Nat → Int64} {gs : Nat} {gh : Nat → Nat} {gk : Nat → Int64} {gl : Nat} {gb : Nat → Nat} {gt : Nat} {gr : Nat → Nat} {gm : Nat} {gp : Nat → Int64} {gq : Nat → Nat} {ge : Nat → Nat} {gn : Nat} {go : Nat → Nat} {gu : Nat} {gi : Bool} {ga : Nat → Int64} {gv : Nat → Nat} {gw : Nat} {gx : Int64} (hm : MN h gz gc gs gh gk gl gb gt gr gm gp gq ge gn go gu gi ga gv gw gx) (hn40 : gn ≤ 40) (hq : ∀ p, p < gn → gq p ≤ 40) (hkp : KpB gz) (t : Nat) (ht : t < 4) (hx : TxB gz t) (ho : OwB gz t) : CnP X m_X7_isRefused [.ref 270, .int (nI t)] h (some (.int (bI (!(fitM gz gc gp gq gn) && !(fswM gz gc gp gq gn t))))) := by
  obtain ⟨m0, m1, m2, m3, m4, m5, m6, m7, m8, m9, m10, m11, m12⟩ := id hm
  refine cn_of_ev (L0 := [_, _]) (by decide +kernel) rfl rfl (Nat.le_of_ble_eq_true rfl) rfl ?_
  refine ev_aload_n dX7_isRefused_0 rfl rfl ?_
  refine ev_callVP0 dX7_isRefused_1 cal_X7_fitsAsItIs lk_7_118 ⟨(Nat.le_of_ble_eq_true rfl), (Nat.le_of_ble_eq_true rfl)⟩ rfl m0 (Nat.le_of_ble_eq_true rfl) (k_fitsAsItIs hm hn40 hq hkp) ?_
  refine ev_if_neB 19 dX7_isRefused_4 rfl (fun hc4 => ?_) (fun hc4 => ?_)
  · refine ev_iconst (nI 0) dX7_isRefused_19 rfl ?_
    refine ev_zreturn dX7_isRefused_20 rfl (by first | rfl | exact bI_nar _) (Or.inl rfl) (Nat.zero_le _) (Nat.zero_le _) ?_
    first
      | (rw [hc4, hc12]; exact ⟨rfl, rfl⟩)
      | (rw [hc4]; exact ⟨rfl, rfl⟩)
  · refine ev_aload_n dX7_isRefused_7 rfl rfl ?_
    refine ev_iload_n dX7_isRefused_8 rfl rfl ?_
    refine ev_callVP1 dX7_isRefused_9 cal_X7_fitsSwept lk_7_122 ⟨(Nat.le_of_ble_eq_true rfl), (Nat.le_of_ble_eq_true rfl)⟩ rfl m0 (Nat.le_of_ble_eq_true rfl) (k_fitsSwept hm hn40 hq hkp t ht hx ho) ?_
    refine ev_if_neB 19 dX7_isRefused_12 rfl (fun hc12 => ?_) (fun hc12 => ?_)
    · refine ev_iconst (nI 0) dX7_isRefused_19 rfl ?_
      refine ev_zreturn dX7_isRefused_20 rfl (by first | rfl | exact bI_nar _) (Or.inl rfl) (Nat.zero_le _) (Nat.zero_le _) ?_
      first
        | (rw [hc4, hc12]; exact ⟨rfl, rfl⟩)
        | (rw [hc4]; exact ⟨rfl, rfl⟩)
    · refine ev_iconst (nI 1) dX7_isRefused_15 rfl ?_
      refine ev_goto 20 dX7_isRefused_16 rfl ?_
      refine ev_zreturn dX7_isRefused_20 rfl (by first | rfl | exact bI_nar _) (Or.inl rfl) (Nat.zero_le _) (Nat.zero_le _) ?_
      first
        | (rw [hc4, hc12]; exact ⟨rfl, rfl⟩)
        | (rw [hc4]; exact ⟨rfl, rfl⟩)
