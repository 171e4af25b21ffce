def alkM (gp : Nat → Int64) (gq : Nat → Nat) (p q : Nat) : Bool := decide (gp p = gp q) && decide (gq p = gq q)
def fstM (gp : Nat → Int64) (gq : Nat → Nat) (p n : Nat) : Bool := !(exN (fun k => alkM gp gq k p) n)
/-- the last number below n with P, or -1 -/
def lstM (P : Nat → Bool) : Nat → Int32
  | 0 => -1
  | n + 1 => if P n = true then nI n else lstM P n
def hitM (gz : Nat → Nat) (gc gp : Nat → Int64) (gq : Nat → Nat) (p k : Nat) : Bool := decide (gz (491 + k) = gq p) && decide (gc k = gp p)
theorem hitM_y {gz : Nat → Nat} {gc gp : Nat → Int64} {gq : Nat → Nat} {p k : Nat} (h1 : gz (491 + k) = gq p) (h2 : gc k = gp p) : hitM gz gc gp gq p k = true := by simp [hitM, h1, h2]
theorem hitM_n1 {gz : Nat → Nat} {gc gp : Nat → Int64} {gq : Nat → Nat} {p k : Nat} (h1 : ¬ gz (491 + k) = gq p) : hitM gz gc gp gq p k = false := by simp [hitM, h1]
theorem hitM_n2 {gz : Nat → Nat} {gc gp : Nat → Int64} {gq : Nat → Nat} {p k : Nat} (h2 : ¬ gc k = gp p) : hitM gz gc gp gq p k = false := by simp [hitM, h2]
def misM (gz : Nat → Nat) (gc gp : Nat → Int64) (gq : Nat → Nat) (p : Nat) : Bool := fstM gp gq p p && decide (lstM (hitM gz gc gp gq p) 60 = -1)
def mssM (gz : Nat → Nat) (gc gp : Nat → Int64) (gq : Nat → Nat) (b : Bool) (n : Nat) : Nat := smN (fun p => if misM gz gc gp gq p = true then (if b = true then gq p else 1) else 0) n
def freM (gz : Nat → Nat) : Nat := ctN (fun k => !(decide (0 < gz (491 + k)))) 60
def sizM (gz : Nat → Nat) : Nat := smN (fun k => gz (491 + k)) 60
def KpB (gz : Nat → Nat) : Prop := ∀ k, k < 60 → gz (491 + k) ≤ 20
set_option maxHeartbeats 4000000 in
set_option maxRecDepth 100000 in
theorem k_isAlike {X : mX} {h : mH} {gz : Nat → Nat} {gc : Nat → Int64} {gs : Nat} {gh : Nat → Nat} {gk : Nat → Int64} {gl : Nat} {gb : Nat → Nat} {gt : Nat} {gr : Nat → Nat} {gm : Nat} {gp : Nat → Int64} {gq : Nat → Nat} {ge : Nat → Nat} {gn : Nat} {go : Nat → Nat} {gu : Nat} {gi : Bool} {ga : Nat → Int64} {gv : Nat → Nat} {gw : Nat} {gx : Int64} (hm : MN h gz gc gs gh gk gl gb gt gr gm gp gq ge gn go gu gi ga gv gw gx) (hn40 : gn ≤ 40) (hq : ∀ p, p < gn → gq p ≤ 40) (p q : Nat) (hp : p < gn) (hq2 : q < gn) : CnP X m_X7_isAlike [.ref 270, .int (nI p), .int (nI q)] h (some (.int (bI (alkM gp gq p q)))) := by
  obtain ⟨m0, m1, m2, m3, m4, m5, m6, m7, m8, m9, m10, m11, m12⟩ := id hm
  have hqp := hq p hp
  have hqq := hq q hq2
  refine cn_of_ev (L0 := [_, _, _]) (by decide +kernel) rfl rfl (Nat.le_of_ble_eq_true rfl) rfl ?_
  refine ev_aload_n dX7_isAlike_0 rfl rfl ?_
  refine ev_getfield dX7_isAlike_1 lf_7_29 m0 rfl ?_
  refine ev_iload_n dX7_isAlike_4 rfl rfl ?_
  refine ev_laloadN dX7_isAlike_5 m7 (by omega) (by decide) ?_
  refine ev_aload_n dX7_isAlike_6 rfl rfl ?_
  refine ev_getfield dX7_isAlike_7 lf_7_29 m0 rfl ?_
  refine ev_iload_n dX7_isAlike_10 rfl rfl ?_
  refine ev_laloadN dX7_isAlike_11 m7 (by omega) (by decide) ?_
  refine ev_lcmp_ne 35 dX7_isAlike_12 dX7_isAlike_13 rfl (fun hc13 => ?_) (fun hc13 => ?_)
  · refine ev_iconst (nI 0) dX7_isAlike_35 rfl ?_
    refine ev_zreturn dX7_isAlike_36 rfl (by first | rfl | exact bI_nar _) (Or.inl rfl) (Nat.zero_le _) (Nat.zero_le _) ?_
    first
      | (rw [alkM, decide_eq_true hc13, decide_eq_true hc28]; exact ⟨rfl, rfl⟩)
      | (rw [alkM, decide_eq_false hc28, Bool.and_false]; exact ⟨rfl, rfl⟩)
      | (rw [alkM, decide_eq_false hc13]; exact ⟨rfl, rfl⟩)
  · refine ev_aload_n dX7_isAlike_16 rfl rfl ?_
    refine ev_getfield dX7_isAlike_17 lf_7_32 m0 rfl ?_
    refine ev_iload_n dX7_isAlike_20 rfl rfl ?_
    refine ev_ialoadF dX7_isAlike_21 m8 (by omega) (by decide) ?_
    refine ev_aload_n dX7_isAlike_22 rfl rfl ?_
    refine ev_getfield dX7_isAlike_23 lf_7_32 m0 rfl ?_
    refine ev_iload_n dX7_isAlike_26 rfl rfl ?_
    refine ev_ialoadF dX7_isAlike_27 m8 (by omega) (by decide) ?_
    refine ev_icmp_neN 35 dX7_isAlike_28 rfl (by omega) (by omega) (fun hc28 => ?_) (fun hc28 => ?_)
    · refine ev_iconst (nI 0) dX7_isAlike_35 rfl ?_
      refine ev_zreturn dX7_isAlike_36 rfl (by first | rfl | exact bI_nar _) (Or.inl rfl) (Nat.zero_le _) (Nat.zero_le _) ?_
      first
        | (rw [alkM, decide_eq_true hc13, decide_eq_true hc28]; exact ⟨rfl, rfl⟩)
        | (rw [alkM, decide_eq_false hc28, Bool.and_false]; exact ⟨rfl, rfl⟩)
        | (rw [alkM, decide_eq_false hc13]; exact ⟨rfl, rfl⟩)
    · refine ev_iconst (nI 1) dX7_isAlike_31 rfl ?_
      refine ev_goto 36 dX7_isAlike_32 rfl ?_
      refine ev_zreturn dX7_isAlike_36 rfl (by first | rfl | exact bI_nar _) (Or.inl rfl) (Nat.zero_le _) (Nat.zero_le _) ?_
      first
        | (rw [alkM, decide_eq_true hc13, decide_eq_true hc28]; exact ⟨rfl, rfl⟩)
        | (rw [alkM, decide_eq_false hc28, Bool.and_false]; exact ⟨rfl, rfl⟩)
        | (rw [alkM, decide_eq_false hc13]; exact ⟨rfl, rfl⟩)
set_option maxHeartbeats 4000000 in
set_option maxRecDepth 100000 in
theorem k_isFirstSuch {X : mX} {h : mH} {gz : Nat → Nat} {gc : Nat → Int64} {gs : Nat} {gh : Nat → Nat} {gk : Nat → Int64} {gl : Nat} {gb : Nat → Nat} {gt : Nat} {gr : Nat → Nat} {gm : Nat} {gp : Nat → Int64} {gq : Nat → Nat} {ge : Nat → Nat} {gn : Nat} {go : Nat → Nat} {gu : Nat} {gi : Bool} {ga : Nat → Int64} {gv : Nat → Nat} {gw : Nat} {gx : Int64} (hm : MN h gz gc gs gh gk gl gb gt gr gm gp gq ge gn go gu gi ga gv gw gx) (hn40 : gn ≤ 40) (hq : ∀ p, p < gn → gq p ≤ 40) (p : Nat) (hp : p < gn) : CnP X m_X7_isFirstSuch [.ref 270, .int (nI p)] h (some (.int (bI (fstM gp gq p p)))) := by
  obtain ⟨m0, m1, m2, m3, m4, m5, m6, m7, m8, m9, m10, m11, m12⟩ := id hm
  refine cn_of_ev (L0 := [_, _, _, _]) (by decide +kernel) rfl rfl (Nat.le_of_ble_eq_true rfl) rfl ?_
  refine ev_iconst (nI 1) dX7_isFirstSuch_0 rfl ?_
  refine ev_istore_n (L' := [_, _, _, _]) dX7_isFirstSuch_1 rfl (Nat.le_of_ble_eq_true rfl) rfl ?_
  refine ev_iconst (nI 0) dX7_isFirstSuch_2 rfl ?_
  refine ev_istore_n (L' := [_, _, _, _]) dX7_isFirstSuch_3 rfl (Nat.le_of_ble_eq_true rfl) rfl ?_
  refine ev_pc (pc' := 4) rfl ?_
  have LP4 : ∀ (mz : Nat) (k : Nat), p - k = mz → (k ≤ p) → Ev X m_X7_isFirstSuch B0 4 [.ref 270, .int (nI p), .int (bI (fstM gp gq p k)), .int (nI k)] [] h (fun o h1 => o = .inl (some (.int (bI (fstM gp gq p p)))) ∧ h1 = h) := by
    intro mz
    induction mz using Nat.strongRecOn with
    | _ mz ih =>
      intro k hmz hk
      refine ev_iload_n dX7_isFirstSuch_4 rfl rfl ?_
      refine ev_iload_n dX7_isFirstSuch_5 rfl rfl ?_
      refine ev_icmp_geN 34 dX7_isFirstSuch_6 rfl (by omega) (by omega) (fun hc6 => ?_) (fun hc6 => ?_)
      · refine ev_iload_n dX7_isFirstSuch_34 rfl rfl ?_
        refine ev_zreturn dX7_isFirstSuch_35 rfl (by first | rfl | exact bI_nar _) (Or.inl rfl) (Nat.zero_le _) (Nat.zero_le _) ?_
        rw [show p = k by omega]
        exact ⟨rfl, rfl⟩
      · refine ev_iload_n dX7_isFirstSuch_9 rfl rfl ?_
        refine ev_if_eqB 26 dX7_isFirstSuch_10 rfl (fun hc10 => ?_) (fun hc10 => ?_)
        · refine ev_iconst (nI 0) dX7_isFirstSuch_26 rfl ?_
          refine ev_pc (pc' := 27) rfl ?_
          have e : fstM gp gq p (k + 1) = (fstM gp gq p k && !(alkM gp gq k p)) := by simp [fstM, exN]
          first
            | (rw [show nI 1 = bI (fstM gp gq p (k + 1)) from by rw [e, hc10, hc19]; rfl])
            | (rw [show nI 0 = bI (fstM gp gq p (k + 1)) from by rw [e, hc10, hc19]; rfl])
            | (rw [show nI 0 = bI (fstM gp gq p (k + 1)) from by rw [e, hc10]; rfl])
          refine ev_istore_n (L' := [_, _, _, _]) dX7_isFirstSuch_27 rfl (Nat.le_of_ble_eq_true rfl) rfl ?_
          refine ev_iincN (L' := [_, _, _, _]) 1 dX7_isFirstSuch_28 rfl rfl ?_
          refine ev_goto 4 dX7_isFirstSuch_31 rfl ?_
          refine ev_pc (pc' := 4) rfl ?_
          exact ih _ (by omega) (k + 1) rfl (by omega)
        · refine ev_aload_n dX7_isFirstSuch_13 rfl rfl ?_
          refine ev_iload_n dX7_isFirstSuch_14 rfl rfl ?_
          refine ev_iload_n dX7_isFirstSuch_15 rfl rfl ?_
          refine ev_callVP2 dX7_isFirstSuch_16 cal_X7_isAlike lk_7_78 ⟨(Nat.le_of_ble_eq_true rfl), (Nat.le_of_ble_eq_true rfl)⟩ rfl m0 (Nat.le_of_ble_eq_true rfl) (k_isAlike hm hn40 hq k p (by omega) hp) ?_
          refine ev_if_neB 26 dX7_isFirstSuch_19 rfl (fun hc19 => ?_) (fun hc19 => ?_)
          · refine ev_iconst (nI 0) dX7_isFirstSuch_26 rfl ?_
            refine ev_pc (pc' := 27) rfl ?_
            have e : fstM gp gq p (k + 1) = (fstM gp gq p k && !(alkM gp gq k p)) := by simp [fstM, exN]
            first
              | (rw [show nI 1 = bI (fstM gp gq p (k + 1)) from by rw [e, hc10, hc19]; rfl])
              | (rw [show nI 0 = bI (fstM gp gq p (k + 1)) from by rw [e, hc10, hc19]; rfl])
              | (rw [show nI 0 = bI (fstM gp gq p (k + 1)) from by rw [e, hc10]; rfl])
            refine ev_istore_n (L' := [_, _, _, _]) dX7_isFirstSuch_27 rfl (Nat.le_of_ble_eq_true rfl) rfl ?_
            refine ev_iincN (L' := [_, _, _, _]) 1 dX7_isFirstSuch_28 rfl rfl ?_
            refine ev_goto 4 dX7_isFirstSuch_31 rfl ?_
            refine ev_pc (pc' := 4) rfl ?_
            exact ih _ (by omega) (k + 1) rfl (by omega)
          · refine ev_iconst (nI 1) dX7_isFirstSuch_22 rfl ?_
            refine ev_goto 27 dX7_isFirstSuch_23 rfl ?_
            refine ev_pc (pc' := 27) rfl ?_
            have e : fstM gp gq p (k + 1) = (fstM gp gq p k && !(alkM gp gq k p)) := by simp [fstM, exN]
            first
              | (rw [show nI 1 = bI (fstM gp gq p (k + 1)) from by rw [e, hc10, hc19]; rfl])
              | (rw [show nI 0 = bI (fstM gp gq p (k + 1)) from by rw [e, hc10, hc19]; rfl])
              | (rw [show nI 0 = bI (fstM gp gq p (k + 1)) from by rw [e, hc10]; rfl])
            refine ev_istore_n (L' := [_, _, _, _]) dX7_isFirstSuch_27 rfl (Nat.le_of_ble_eq_true rfl) rfl ?_
            refine ev_iincN (L' := [_, _, _, _]) 1 dX7_isFirstSuch_28 rfl rfl ?_
            refine ev_goto 4 dX7_isFirstSuch_31 rfl ?_
            refine ev_pc (pc' := 4) rfl ?_
            exact ih _ (by omega) (k + 1) rfl (by omega)
  exact LP4 _ 0 rfl (Nat.zero_le _)
set_option maxHeartbeats 4000000 in
set_option maxRecDepth 100000 in
theorem k_slotFor {X : mX} {h : mH} {gz : Nat → Nat} {gc : Nat → Int64} {gs : Nat} {gh : Nat → Nat} {gk : Nat → Int64} {gl : Nat} {gb : Nat → Nat} {gt : Nat} {gr : Nat → Nat} {gm : Nat} {gp : Nat → Int64} {gq : Nat → Nat} {ge : Nat → Nat} {gn : Nat} {go : Nat → Nat} {gu : Nat} {gi : Bool} {ga : Nat → Int64} {gv : Nat → Nat} {gw : Nat} {gx : Int64} (hm : MN h gz gc gs gh gk gl gb gt gr gm gp gq ge gn go gu gi ga gv gw gx) (hn40 : gn ≤ 40) (hq : ∀ p, p < gn → gq p ≤ 40) (hkp : KpB gz) (p : Nat) (hp : p < gn) : CnP X m_X7_slotFor [.ref 270, .int (nI p)] h (some (.int (lstM (hitM gz gc gp gq p) 60))) := by
  obtain ⟨m0, m1, m2, m3, m4, m5, m6, m7, m8, m9, m10, m11, m12⟩ := id hm
  have hqp := hq p hp
  refine cn_of_ev (L0 := [_, _, _, _, _]) (by decide +kernel) rfl rfl (Nat.le_of_ble_eq_true rfl) rfl ?_
  refine ev_iconst (-1) dX7_slotFor_0 rfl ?_
  refine ev_istore_n (L' := [_, _, _, _, _]) dX7_slotFor_1 rfl (Nat.le_of_ble_eq_true rfl) rfl ?_
  refine ev_iconst (nI 0) dX7_slotFor_2 rfl ?_
  refine ev_istore_n (L' := [_, _, _, _, _]) dX7_slotFor_3 rfl (Nat.le_of_ble_eq_true rfl) rfl ?_
  refine ev_pc (pc' := 4) rfl ?_
  have LP4 : ∀ (mz : Nat) (k : Nat), 60 - k = mz → (k ≤ 60) → Ev X m_X7_slotFor B0 4 [.ref 270, .int (nI p), .int (lstM (hitM gz gc gp gq p) k), .int (nI k), jk] [] h (fun o h1 => o = .inl (some (.int (lstM (hitM gz gc gp gq p) 60))) ∧ h1 = h) := by
    intro mz
    induction mz using Nat.strongRecOn with
    | _ mz ih =>
      intro k hmz hk
      refine ev_iload_n dX7_slotFor_4 rfl rfl ?_
      refine ev_bipush (nI 60) dX7_slotFor_5 rfl ?_
      refine ev_icmp_geN 69 dX7_slotFor_7 rfl (by omega) (by omega) (fun hc7 => ?_) (fun hc7 => ?_)
      · refine ev_iload_n dX7_slotFor_69 rfl rfl ?_
        refine ev_ireturn dX7_slotFor_70 rfl (Or.inl rfl) (Nat.zero_le _) (Nat.zero_le _) ?_
        rw [show 60 = k by omega]
        exact ⟨rfl, rfl⟩
      · refine ev_aload_n dX7_slotFor_10 rfl rfl ?_
        refine ev_getfield dX7_slotFor_11 lf_7_7 m0 rfl ?_
        refine ev_sipush (nI 491) dX7_slotFor_14 rfl ?_
        refine ev_iload_n dX7_slotFor_17 rfl rfl ?_
        refine ev_iaddN dX7_slotFor_18 ?_
        have hkk := hkp k (by omega)
        refine ev_ialoadF dX7_slotFor_19 m1 (by omega) (by decide) ?_
        refine ev_aload_n dX7_slotFor_20 rfl rfl ?_
        refine ev_getfield dX7_slotFor_21 lf_7_32 m0 rfl ?_
        refine ev_iload_n dX7_slotFor_24 rfl rfl ?_
        refine ev_ialoadF dX7_slotFor_25 m8 (by omega) (by decide) ?_
        refine ev_icmp_neN 49 dX7_slotFor_26 rfl (by omega) (by omega) (fun hc26 => ?_) (fun hc26 => ?_)
        · refine ev_iconst (nI 0) dX7_slotFor_49 rfl ?_
          refine ev_pc (pc' := 50) rfl ?_
          have e : lstM (hitM gz gc gp gq p) (k + 1) = if hitM gz gc gp gq p k = true then nI k else lstM (hitM gz gc gp gq p) k := rfl
          first
            | (have e2 : hitM gz gc gp gq p k = true := hitM_y hc26 hc42
               rw [if_pos e2] at e
               refine ev_istore (L' := [_, _, _, _, _]) dX7_slotFor_50 (Nat.le_of_ble_eq_true rfl) rfl ?_
               refine ev_iload dX7_slotFor_52 rfl ?_
               refine ev_if_eqN 61 dX7_slotFor_54 rfl (by omega) (fun hc54 => ?_) (fun hc54 => ?_)
               · refine ev_pc (pc' := 61) rfl ?_
                 exact absurd hc54 (by decide)
               · refine ev_iload_n dX7_slotFor_57 rfl rfl ?_
                 refine ev_goto 62 dX7_slotFor_58 rfl ?_
                 refine ev_pc (pc' := 62) rfl ?_
                 refine ev_L (st' := [.int (lstM (hitM gz gc gp gq p) (k + 1))]) rfl (by rw [e]) ?_
                 refine ev_istore_n (L' := [_, _, _, _, _]) dX7_slotFor_62 rfl (Nat.le_of_ble_eq_true rfl) rfl ?_
                 refine ev_iincN (L' := [_, _, _, _, _]) 1 dX7_slotFor_63 rfl rfl ?_
                 refine ev_goto 4 dX7_slotFor_66 rfl ?_
                 refine ev_pc (pc' := 4) rfl ?_
                 refine ev_fgt 4 (L' := [_, _, _, _, _]) rfl ?_
                 exact ih _ (by omega) (k + 1) rfl (by omega))
            | (have e2 : hitM gz gc gp gq p k = false := by first | exact hitM_n1 hc26 | exact hitM_n2 hc42
               rw [if_neg (by rw [e2]; decide)] at e
               refine ev_istore (L' := [_, _, _, _, _]) dX7_slotFor_50 (Nat.le_of_ble_eq_true rfl) rfl ?_
               refine ev_iload dX7_slotFor_52 rfl ?_
               refine ev_if_eqN 61 dX7_slotFor_54 rfl (by omega) (fun hc54 => ?_) (fun hc54 => ?_)
               · refine ev_iload_n dX7_slotFor_61 rfl rfl ?_
                 refine ev_pc (pc' := 62) rfl ?_
                 refine ev_L (st' := [.int (lstM (hitM gz gc gp gq p) (k + 1))]) rfl (by rw [e]) ?_
                 refine ev_istore_n (L' := [_, _, _, _, _]) dX7_slotFor_62 rfl (Nat.le_of_ble_eq_true rfl) rfl ?_
                 refine ev_iincN (L' := [_, _, _, _, _]) 1 dX7_slotFor_63 rfl rfl ?_
                 refine ev_goto 4 dX7_slotFor_66 rfl ?_
                 refine ev_pc (pc' := 4) rfl ?_
                 refine ev_fgt 4 (L' := [_, _, _, _, _]) rfl ?_
                 exact ih _ (by omega) (k + 1) rfl (by omega)
               · refine ev_pc (pc' := 57) rfl ?_
                 exact absurd rfl hc54)
        · refine ev_aload_n dX7_slotFor_29 rfl rfl ?_
          refine ev_getfield dX7_slotFor_30 lf_7_13 m0 rfl ?_
          refine ev_iload_n dX7_slotFor_33 rfl rfl ?_
          refine ev_laloadN dX7_slotFor_34 m2 (by omega) (by decide) ?_
          refine ev_aload_n dX7_slotFor_35 rfl rfl ?_
          refine ev_getfield dX7_slotFor_36 lf_7_29 m0 rfl ?_
          refine ev_iload_n dX7_slotFor_39 rfl rfl ?_
          refine ev_laloadN dX7_slotFor_40 m7 (by omega) (by decide) ?_
          refine ev_lcmp_ne 49 dX7_slotFor_41 dX7_slotFor_42 rfl (fun hc42 => ?_) (fun hc42 => ?_)
          · refine ev_iconst (nI 0) dX7_slotFor_49 rfl ?_
            refine ev_pc (pc' := 50) rfl ?_
            have e : lstM (hitM gz gc gp gq p) (k + 1) = if hitM gz gc gp gq p k = true then nI k else lstM (hitM gz gc gp gq p) k := rfl
            first
              | (have e2 : hitM gz gc gp gq p k = true := hitM_y hc26 hc42
                 rw [if_pos e2] at e
                 refine ev_istore (L' := [_, _, _, _, _]) dX7_slotFor_50 (Nat.le_of_ble_eq_true rfl) rfl ?_
                 refine ev_iload dX7_slotFor_52 rfl ?_
                 refine ev_if_eqN 61 dX7_slotFor_54 rfl (by omega) (fun hc54 => ?_) (fun hc54 => ?_)
                 · refine ev_pc (pc' := 61) rfl ?_
                   exact absurd hc54 (by decide)
                 · refine ev_iload_n dX7_slotFor_57 rfl rfl ?_
                   refine ev_goto 62 dX7_slotFor_58 rfl ?_
                   refine ev_pc (pc' := 62) rfl ?_
                   refine ev_L (st' := [.int (lstM (hitM gz gc gp gq p) (k + 1))]) rfl (by rw [e]) ?_
                   refine ev_istore_n (L' := [_, _, _, _, _]) dX7_slotFor_62 rfl (Nat.le_of_ble_eq_true rfl) rfl ?_
                   refine ev_iincN (L' := [_, _, _, _, _]) 1 dX7_slotFor_63 rfl rfl ?_
                   refine ev_goto 4 dX7_slotFor_66 rfl ?_
                   refine ev_pc (pc' := 4) rfl ?_
                   refine ev_fgt 4 (L' := [_, _, _, _, _]) rfl ?_
                   exact ih _ (by omega) (k + 1) rfl (by omega))
              | (have e2 : hitM gz gc gp gq p k = false := by first | exact hitM_n1 hc26 | exact hitM_n2 hc42
                 rw [if_neg (by rw [e2]; decide)] at e
                 refine ev_istore (L' := [_, _, _, _, _]) dX7_slotFor_50 (Nat.le_of_ble_eq_true rfl) rfl ?_
                 refine ev_iload dX7_slotFor_52 rfl ?_
                 refine ev_if_eqN 61 dX7_slotFor_54 rfl (by omega) (fun hc54 => ?_) (fun hc54 => ?_)
                 · refine ev_iload_n dX7_slotFor_61 rfl rfl ?_
                   refine ev_pc (pc' := 62) rfl ?_
                   refine ev_L (st' := [.int (lstM (hitM gz gc gp gq p) (k + 1))]) rfl (by rw [e]) ?_
                   refine ev_istore_n (L' := [_, _, _, _, _]) dX7_slotFor_62 rfl (Nat.le_of_ble_eq_true rfl) rfl ?_
                   refine ev_iincN (L' := [_, _, _, _, _]) 1 dX7_slotFor_63 rfl rfl ?_
                   refine ev_goto 4 dX7_slotFor_66 rfl ?_
                   refine ev_pc (pc' := 4) rfl ?_
                   refine ev_fgt 4 (L' := [_, _, _, _, _]) rfl ?_
                   exact ih _ (by omega) (k + 1) rfl (by omega)
                 · refine ev_pc (pc' := 57) rfl ?_
                   exact absurd rfl hc54)
          · refine ev_iconst (nI 1) dX7_slotFor_45 rfl ?_
            refine ev_goto 50 dX7_slotFor_46 rfl ?_
            refine ev_pc (pc' := 50) rfl ?_
            have e : lstM (hitM gz gc gp gq p) (k + 1) = if hitM gz gc gp gq p k = true then nI k else lstM (hitM gz gc gp gq p) k := rfl
            first
              | (have e2 : hitM gz gc gp gq p k = true := hitM_y hc26 hc42
                 rw [if_pos e2] at e
                 refine ev_istore (L' := [_, _, _, _, _]) dX7_slotFor_50 (Nat.le_of_ble_eq_true rfl) rfl ?_
                 refine ev_iload dX7_slotFor_52 rfl ?_
                 refine ev_if_eqN 61 dX7_slotFor_54 rfl (by omega) (fun hc54 => ?_) (fun hc54 => ?_)
                 · refine ev_pc (pc' := 61) rfl ?_
                   exact absurd hc54 (by decide)
                 · refine ev_iload_n dX7_slotFor_57 rfl rfl ?_
                   refine ev_goto 62 dX7_slotFor_58 rfl ?_
                   refine ev_pc (pc' := 62) rfl ?_
                   refine ev_L (st' := [.int (lstM (hitM gz gc gp gq p) (k + 1))]) rfl (by rw [e]) ?_
                   refine ev_istore_n (L' := [_, _, _, _, _]) dX7_slotFor_62 rfl (Nat.le_of_ble_eq_true rfl) rfl ?_
                   refine ev_iincN (L' := [_, _, _, _, _]) 1 dX7_slotFor_63 rfl rfl ?_
                   refine ev_goto 4 dX7_slotFor_66 rfl ?_
                   refine ev_pc (pc' := 4) rfl ?_
                   refine ev_fgt 4 (L' := [_, _, _, _, _]) rfl ?_
                   exact ih _ (by omega) (k + 1) rfl (by omega))
              | (have e2 : hitM gz gc gp gq p k = false := by first | exact hitM_n1 hc26 | exact hitM_n2 hc42
                 rw [if_neg (by rw [e2]; decide)] at e
                 refine ev_istore (L' := [_, _, _, _, _]) dX7_slotFor_50 (Nat.le_of_ble_eq_true rfl) rfl ?_
                 refine ev_iload dX7_slotFor_52 rfl ?_
                 refine ev_if_eqN 61 dX7_slotFor_54 rfl (by omega) (fun hc54 => ?_) (fun hc54 => ?_)
                 · refine ev_iload_n dX7_slotFor_61 rfl rfl ?_
                   refine ev_pc (pc' := 62) rfl ?_
                   refine ev_L (st' := [.int (lstM (hitM gz gc gp gq p) (k + 1))]) rfl (by rw [e]) ?_
                   refine ev_istore_n (L' := [_, _, _, _, _]) dX7_slotFor_62 rfl (Nat.le_of_ble_eq_true rfl) rfl ?_
                   refine ev_iincN (L' := [_, _, _, _, _]) 1 dX7_slotFor_63 rfl rfl ?_
                   refine ev_goto 4 dX7_slotFor_66 rfl ?_
                   refine ev_pc (pc' := 4) rfl ?_
                   refine ev_fgt 4 (L' := [_, _, _, _, _]) rfl ?_
                   exact ih _ (by omega) (k + 1) rfl (by omega)
                 · refine ev_pc (pc' := 57) rfl ?_
                   exact absurd rfl hc54)
  exact LP4 _ 0 rfl (Nat.zero_le _)
set_option maxHeartbeats 4000000 in
set_option maxRecDepth 100000 in
theorem k_storeSize {X : mX} {h : mH} {gz : Nat → Nat} {gc : Nat → Int64} {gs : Nat} {gh : Nat → Nat} {gk : Nat → Int64} {gl : Nat} {gb : Nat → Nat} {gt : Nat} {gr : Nat → Nat} {gm : Nat} {gp : Nat → Int64} {gq : Nat → Nat} {ge : Nat → Nat} {gn : Nat} {go : Nat → Nat} {gu : Nat} {gi : Bool} {ga : Nat → Int64} {gv : Nat → Nat} {gw : Nat} {gx : Int64} (hm : MN h gz gc gs gh gk gl gb gt gr gm gp gq ge gn go gu gi ga gv gw gx) (hkp : KpB gz) : CnP X m_X7_storeSize [.ref 270] h (some (.int (nI (sizM gz)))) := by
  obtain ⟨m0, m1, m2, m3, m4, m5, m6, m7, m8, m9, m10, m11, m12⟩ := id hm
  refine cn_of_ev (L0 := [_, _, _]) (by decide +kernel) rfl rfl (Nat.le_of_ble_eq_true rfl) rfl ?_
  refine ev_iconst (nI 0) dX7_storeSize_0 rfl ?_
  refine ev_istore_n (L' := [_, _, _]) dX7_storeSize_1 rfl (Nat.le_of_ble_eq_true rfl) rfl ?_
  refine ev_iconst (nI 0) dX7_storeSize_2 rfl ?_
  refine ev_istore_n (L' := [_, _, _]) dX7_storeSize_3 rfl (Nat.le_of_ble_eq_true rfl) rfl ?_
  refine ev_pc (pc' := 4) rfl ?_
  have LP4 : ∀ (mz : Nat) (k : Nat), 60 - k = mz → (k ≤ 60) → Ev X m_X7_storeSize B0 4 [.ref 270, .int (nI (smN (fun k => gz (491 + k)) k)), .int (nI k)] [] h (fun o h1 => o = .inl (some (.int (nI (sizM gz)))) ∧ h1 = h) := by
    intro mz
    induction mz using Nat.strongRecOn with
    | _ mz ih =>
      intro k hmz hk
      refine ev_iload_n dX7_storeSize_4 rfl rfl ?_
      refine ev_bipush (nI 60) dX7_storeSize_5 rfl ?_
      refine ev_icmp_geN 29 dX7_storeSize_7 rfl (by omega) (by omega) (fun hc7 => ?_) (fun hc7 => ?_)
      · refine ev_iload_n dX7_storeSize_29 rfl rfl ?_
        refine ev_ireturn dX7_storeSize_30 rfl (Or.inl rfl) (Nat.zero_le _) (Nat.zero_le _) ?_
        rw [sizM, show 60 = k by omega]
        exact ⟨rfl, rfl⟩
      · refine ev_iload_n dX7_storeSize_10 rfl rfl ?_
        refine ev_aload_n dX7_storeSize_11 rfl rfl ?_
        refine ev_getfield dX7_storeSize_12 lf_7_7 m0 rfl ?_
        refine ev_sipush (nI 491) dX7_storeSize_15 rfl ?_
        refine ev_iload_n dX7_storeSize_18 rfl rfl ?_
        refine ev_iaddN dX7_storeSize_19 ?_
        refine ev_ialoadF dX7_storeSize_20 m1 (by omega) (by decide) ?_
        refine ev_iaddN dX7_storeSize_21 ?_
        refine ev_istore_n (L' := [_, _, _]) dX7_storeSize_22 rfl (Nat.le_of_ble_eq_true rfl) rfl ?_
        refine ev_iincN (L' := [_, _, _]) 1 dX7_storeSize_23 rfl rfl ?_
        refine ev_goto 4 dX7_storeSize_26 rfl ?_
        refine ev_pc (pc' := 4) rfl ?_
        exact ih _ (by omega) (k + 1) rfl (by omega)
  exact LP4 _ 0 rfl (Nat.zero_le _)
set_option maxHeartbeats 4000000 in
set_option maxRecDepth 100000 in
theorem k_freeSlots {X : mX} {h : mH} {gz : Nat → Nat} {gc : Nat → Int64} {gs : Nat} {gh : Nat → Nat} {gk : Nat → Int64} {gl : Nat} {gb : Nat → Nat} {gt : Nat} {gr : Nat → Nat} {gm : Nat} {gp : Nat → Int64} {gq : Nat → Nat} {ge : Nat → Nat} {gn : Nat} {go : Nat → Nat} {gu : Nat} {gi : Bool} {ga : Nat → Int64} {gv : Nat → Nat} {gw : Nat} {gx : Int64} (hm : MN h gz gc gs gh gk gl gb gt gr gm gp gq ge gn go gu gi ga gv gw gx) (hkp : KpB gz) : CnP X m_X7_freeSlots [.ref 270] h (some (.int (nI (freM gz)))) := by
  obtain ⟨m0, m1, m2, m3, m4, m5, m6, m7, m8, m9, m10, m11, m12⟩ := id hm
  refine cn_of_ev (L0 := [_, _, _]) (by decide +kernel) rfl rfl (Nat.le_of_ble_eq_true rfl) rfl ?_
  refine ev_iconst (nI 0) dX7_freeSlots_0 rfl ?_
  refine ev_istore_n (L' := [_, _, _]) dX7_freeSlots_1 rfl (Nat.le_of_ble_eq_true rfl) rfl ?_
  refine ev_iconst (nI 0) dX7_freeSlots_2 rfl ?_
  refine ev_istore_n (L' := [_, _, _]) dX7_freeSlots_3 rfl (Nat.le_of_ble_eq_true rfl) rfl ?_
  refine ev_pc (pc' := 4) rfl ?_
  have LP4 : ∀ (mz : Nat) (k : Nat), 60 - k = mz → (k ≤ 60) → Ev X m_X7_freeSlots B0 4 [.ref 270, .int (nI (ctN (fun k => !(decide (0 < gz (491 + k)))) k)), .int (nI k)] [] h (fun o h1 => o = .inl (some (.int (nI (freM gz)))) ∧ h1 = h) := by
    intro mz
    induction mz using Nat.strongRecOn with
    | _ mz ih =>
      intro k hmz hk
      have hkk := hkp k
      refine ev_iload_n dX7_freeSlots_4 rfl rfl ?_
      refine ev_bipush (nI 60) dX7_freeSlots_5 rfl ?_
      refine ev_icmp_geN 32 dX7_freeSlots_7 rfl (by omega) (by omega) (fun hc7 => ?_) (fun hc7 => ?_)
      · refine ev_iload_n dX7_freeSlots_32 rfl rfl ?_
        refine ev_ireturn dX7_freeSlots_33 rfl (Or.inl rfl) (Nat.zero_le _) (Nat.zero_le _) ?_
        rw [freM, show 60 = k by omega]
        exact ⟨rfl, rfl⟩
      · refine ev_iload_n dX7_freeSlots_10 rfl rfl ?_
        refine ev_aload_n dX7_freeSlots_11 rfl rfl ?_
        refine ev_iload_n dX7_freeSlots_12 rfl rfl ?_
        refine ev_callVP1 dX7_freeSlots_13 cal_X7_isKept lk_7_82 ⟨(Nat.le_of_ble_eq_true rfl), (Nat.le_of_ble_eq_true rfl)⟩ rfl m0 (Nat.le_of_ble_eq_true rfl) (k_isKept hm k (by omega) (by have := hkk (by omega); omega)) ?_
        refine ev_if_eqB 23 dX7_freeSlots_16 rfl (fun hc16 => ?_) (fun hc16 => ?_)
        · refine ev_iconst (nI 1) dX7_freeSlots_23 rfl ?_
          refine ev_pc (pc' := 24) rfl ?_
          first
            | (have e : ctN (fun k => !(decide (0 < gz (491 + k)))) (k + 1) = ctN (fun k => !(decide (0 < gz (491 + k)))) k + 0 := ctN_n (p := (fun k => !(decide (0 < gz (491 + k))))) (by show (!(decide (0 < gz (491 + k)))) = false; rw [hc16]; rfl)
               refine ev_iaddN dX7_freeSlots_24 ?_
               rw [← e]
               refine ev_istore_n (L' := [_, _, _]) dX7_freeSlots_25 rfl (Nat.le_of_ble_eq_true rfl) rfl ?_
               refine ev_iincN (L' := [_, _, _]) 1 dX7_freeSlots_26 rfl rfl ?_
               refine ev_goto 4 dX7_freeSlots_29 rfl ?_
               refine ev_pc (pc' := 4) rfl ?_
               exact ih _ (by omega) (k + 1) rfl (by omega))
            | (have e : ctN (fun k => !(decide (0 < gz (491 + k)))) (k + 1) = ctN (fun k => !(decide (0 < gz (491 + k)))) k + 1 := ctN_y (p := (fun k => !(decide (0 < gz (491 + k))))) (by show (!(decide (0 < gz (491 + k)))) = true; rw [hc16]; rfl)
               refine ev_iaddN dX7_freeSlots_24 ?_
               rw [← e]
               refine ev_istore_n (L' := [_, _, _]) dX7_freeSlots_25 rfl (Nat.le_of_ble_eq_true rfl) rfl ?_
               refine ev_iincN (L' := [_, _, _]) 1 dX7_freeSlots_26 rfl rfl ?_
               refine ev_goto 4 dX7_freeSlots_29 rfl ?_
               refine ev_pc (pc' := 4) rfl ?_
               exact ih _ (by omega) (k + 1) rfl (by omega))
        · refine ev_iconst (nI 0) dX7_freeSlots_19 rfl ?_
          refine ev_goto 24 dX7_freeSlots_20 rfl ?_
          refine ev_pc (pc' := 24) rfl ?_
          first
            | (have e : ctN (fun k => !(decide (0 < gz (491 + k)))) (k + 1) = ctN (fun k => !(decide (0 < gz (491 + k)))) k + 0 := ctN_n (p := (fun k => !(decide (0 < gz (491 + k))))) (by show (!(decide (0 < gz (491 + k)))) = false; rw [hc16]; rfl)
               refine ev_iaddN dX7_freeSlots_24 ?_
               rw [← e]
               refine ev_istore_n (L' := [_, _, _]) dX7_freeSlots_25 rfl (Nat.le_of_ble_eq_true rfl) rfl ?_
               refine ev_iincN (L' := [_, _, _]) 1 dX7_freeSlots_26 rfl rfl ?_
               refine ev_goto 4 dX7_freeSlots_29 rfl ?_
               refine ev_pc (pc' := 4) rfl ?_
               exact ih _ (by omega) (k + 1) rfl (by omega))
            | (have e : ctN (fun k => !(decide (0 < gz (491 + k)))) (k + 1) = ctN (fun k => !(decide (0 < gz (491 + k)))) k + 1 := ctN_y (p := (fun k => !(decide (0 < gz (491 + k))))) (by show (!(decide (0 < gz (491 + k)))) = true; rw [hc16]; rfl)
               refine ev_iaddN dX7_freeSlots_24 ?_
               rw [← e]
               refine ev_istore_n (L' := [_, _, _]) dX7_freeSlots_25 rfl (Nat.le_of_ble_eq_true rfl) rfl ?_
               refine ev_iincN (L' := [_, _, _]) 1 dX7_freeSlots_26 rfl rfl ?_
               refine ev_goto 4 dX7_freeSlots_29 rfl ?_
               refine ev_pc (pc' := 4) rfl ?_
               exact ih _ (by omega) (k + 1) rfl (by omega))
  exact LP4 _ 0 rfl (Nat.zero_le _)
