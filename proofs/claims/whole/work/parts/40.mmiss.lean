theorem misM_y {gz : Nat → Nat} {gc gp : Nat → Int64} {gq : Nat → Nat} {p : Nat} (h1 : fstM gp gq p p = true) (h2 : lstM (hitM gz gc gp gq p) 60 = -1) : misM gz gc gp gq p = true := by rw [misM, h1, decide_eq_true h2]; rfl
theorem misM_n1 {gz : Nat → Nat} {gc gp : Nat → Int64} {gq : Nat → Nat} {p : Nat} (h1 : fstM gp gq p p = false) : misM gz gc gp gq p = false := by rw [misM, h1]; rfl
theorem misM_n2 {gz : Nat → Nat} {gc gp : Nat → Int64} {gq : Nat → Nat} {p : Nat} (h2 : ¬ lstM (hitM gz gc gp gq p) 60 = -1) : misM gz gc gp gq p = false := by rw [misM, decide_eq_false h2, Bool.and_false]
theorem mssM_y {gz : Nat → Nat} {gc gp : Nat → Int64} {gq : Nat → Nat} {p : Nat} {b : Bool} (h : misM gz gc gp gq p = true) : mssM gz gc gp gq b (p + 1) = mssM gz gc gp gq b p + (if b = true then gq p else 1) := by
  show smN _ p + (if misM gz gc gp gq p = true then (if b = true then gq p else 1) else 0) = _
  rw [if_pos h]; rfl
theorem mssM_n {gz : Nat → Nat} {gc gp : Nat → Int64} {gq : Nat → Nat} {p : Nat} {b : Bool} (h : misM gz gc gp gq p = false) : mssM gz gc gp gq b (p + 1) = mssM gz gc gp gq b p + 0 := by
  show smN _ p + (if misM gz gc gp gq p = true then (if b = true then gq p else 1) else 0) = _
  rw [if_neg (by rw [h]; decide)]; rfl
def ownP (gz : Nat → Nat) (t k j : Nat) : Bool := decide (gz (171 + 40 * t + j) ≠ 0) && decide (gz (331 + 40 * t + j) = k)
def ownM (gz : Nat → Nat) (t k n : Nat) : Nat := ctN (ownP gz t k) n
def TxB (gz : Nat → Nat) (t : Nat) : Prop := gz (7 + t) ≤ 40 ∧ ∀ j, j < gz (7 + t) → gz (171 + 40 * t + j) ≤ 3 ∧ gz (331 + 40 * t + j) < 60 ∧ 1 ≤ gz (11 + 40 * t + j) ∧ gz (11 + 40 * t + j) ≤ 8
theorem ownP_y {gz : Nat → Nat} {t k j : Nat} (h1 : ¬ gz (171 + 40 * t + j) = 0) (h2 : gz (331 + 40 * t + j) = k) : ownP gz t k j = true := by rw [ownP, decide_eq_true h1, decide_eq_true h2]; rfl
theorem ownP_n1 {gz : Nat → Nat} {t k j : Nat} (h1 : gz (171 + 40 * t + j) = 0) : ownP gz t k j = false := by rw [ownP, decide_eq_false (fun z => z h1)]; rfl
theorem ownP_n2 {gz : Nat → Nat} {t k j : Nat} (h2 : ¬ gz (331 + 40 * t + j) = k) : ownP gz t k j = false := by rw [ownP, decide_eq_false h2, Bool.and_false]
set_option maxHeartbeats 4000000 in
set_option maxRecDepth 100000 in
theorem k_missing {X : mX} {h : mH} {gz : Nat → Nat} {gc : Nat → Int64} {gs : Nat} {gh : Nat → Nat} {gk : Nat → Int64} {gl : Nat} {gb : Nat → Nat} {gt : Nat} {gr : Nat → Nat} {gm : Nat} {gp : Nat → Int64} {gq : Nat → Nat} {ge : Nat → Nat} {gn : Nat} {go : Nat → Nat} {gu : Nat} {gi : Bool} {ga : Nat → Int64} {gv : Nat → Nat} {gw : Nat} {gx : Int64} (hm : MN h gz gc gs gh gk gl gb gt gr gm gp gq ge gn go gu gi ga gv gw gx) (hn40 : gn ≤ 40) (hq : ∀ p, p < gn → gq p ≤ 40) (hkp : KpB gz) (b : Bool) : CnP X m_X7_missing [.ref 270, .int (bI b)] h (some (.int (nI (mssM gz gc gp gq b gn)))) := by
  obtain ⟨m0, m1, m2, m3, m4, m5, m6, m7, m8, m9, m10, m11, m12⟩ := id hm
  refine cn_of_ev (L0 := [_, _, _, _, _]) (by decide +kernel) rfl rfl (Nat.le_of_ble_eq_true rfl) rfl ?_
  refine ev_iconst (nI 0) dX7_missing_0 rfl ?_
  refine ev_istore_n (L' := [_, _, _, _, _]) dX7_missing_1 rfl (Nat.le_of_ble_eq_true rfl) rfl ?_
  refine ev_iconst (nI 0) dX7_missing_2 rfl ?_
  refine ev_istore_n (L' := [_, _, _, _, _]) dX7_missing_3 rfl (Nat.le_of_ble_eq_true rfl) rfl ?_
  refine ev_pc (pc' := 4) rfl ?_
  have LP4 : ∀ (mz : Nat) (k : Nat), gn - k = mz → (k ≤ gn) → Ev X m_X7_missing B0 4 [.ref 270, .int (bI b), .int (nI (mssM gz gc gp gq b k)), .int (nI k), jk] [] h (fun o h1 => o = .inl (some (.int (nI (mssM gz gc gp gq b gn)))) ∧ h1 = h) := by
    intro mz
    induction mz using Nat.strongRecOn with
    | _ mz ih =>
      intro k hmz hk
      refine ev_iload_n dX7_missing_4 rfl rfl ?_
      refine ev_aload_n dX7_missing_5 rfl rfl ?_
      refine ev_getfield dX7_missing_6 lf_7_72 m0 rfl ?_
      refine ev_icmp_geN 68 dX7_missing_9 rfl (by omega) (by omega) (fun hc9 => ?_) (fun hc9 => ?_)
      · refine ev_iload_n dX7_missing_68 rfl rfl ?_
        refine ev_ireturn dX7_missing_69 rfl (Or.inl rfl) (Nat.zero_le _) (Nat.zero_le _) ?_
        rw [show gn = k by omega]
        exact ⟨rfl, rfl⟩
      · refine ev_aload_n dX7_missing_12 rfl rfl ?_
        refine ev_iload_n dX7_missing_13 rfl rfl ?_
        refine ev_callVP1 dX7_missing_14 cal_X7_isFirstSuch lk_7_86 ⟨(Nat.le_of_ble_eq_true rfl), (Nat.le_of_ble_eq_true rfl)⟩ rfl m0 (Nat.le_of_ble_eq_true rfl) (k_isFirstSuch hm hn40 hq k (by omega)) ?_
        refine ev_if_eqB 33 dX7_missing_17 rfl (fun hc17 => ?_) (fun hc17 => ?_)
        · refine ev_iconst (nI 0) dX7_missing_33 rfl ?_
          refine ev_pc (pc' := 34) rfl ?_
          have hqk := hq k (by omega)
          first
            | (have e2 := misM_y (gz := gz) (gc := gc) hc17 hc26
               refine ev_istore (L' := [_, _, _, _, _]) dX7_missing_34 (Nat.le_of_ble_eq_true rfl) rfl ?_
               refine ev_iload_n dX7_missing_36 rfl rfl ?_
               refine ev_iload dX7_missing_37 rfl ?_
               refine ev_if_eqN 59 dX7_missing_39 rfl (by omega) (fun hc39 => ?_) (fun hc39 => ?_)
               · refine ev_pc (pc' := 59) rfl ?_
                 exact absurd hc39 (by decide)
               · refine ev_iload_n dX7_missing_42 rfl rfl ?_
                 refine ev_if_eqB 55 dX7_missing_43 rfl (fun hc43 => ?_) (fun hc43 => ?_)
                 · refine ev_iconst (nI 1) dX7_missing_55 rfl ?_
                   refine ev_goto 60 dX7_missing_56 rfl ?_
                   refine ev_pc (pc' := 60) rfl ?_
                   first
                     | (have hb : b = true := hc43
                        have e := (mssM_y (b := b) e2)
                        rw [if_pos hb] at e
                        refine ev_iaddN dX7_missing_60 ?_
                        refine ev_L (st' := [.int (nI (mssM gz gc gp gq b (k + 1)))]) rfl (by first | (rw [e]; done) | (rw [e]; rfl)) ?_
                        refine ev_istore_n (L' := [_, _, _, _, _]) dX7_missing_61 rfl (Nat.le_of_ble_eq_true rfl) rfl ?_
                        refine ev_iincN (L' := [_, _, _, _, _]) 1 dX7_missing_62 rfl rfl ?_
                        refine ev_goto 4 dX7_missing_65 rfl ?_
                        refine ev_pc (pc' := 4) rfl ?_
                        refine ev_fgt 4 (L' := [_, _, _, _, _]) rfl ?_
                        exact ih _ (by omega) (k + 1) rfl (by omega))
                     | (have hb : b = false := hc43
                        have e := (mssM_y (b := b) e2)
                        rw [if_neg (by rw [hb]; decide)] at e
                        refine ev_iaddN dX7_missing_60 ?_
                        refine ev_L (st' := [.int (nI (mssM gz gc gp gq b (k + 1)))]) rfl (by first | (rw [e]; done) | (rw [e]; rfl)) ?_
                        refine ev_istore_n (L' := [_, _, _, _, _]) dX7_missing_61 rfl (Nat.le_of_ble_eq_true rfl) rfl ?_
                        refine ev_iincN (L' := [_, _, _, _, _]) 1 dX7_missing_62 rfl rfl ?_
                        refine ev_goto 4 dX7_missing_65 rfl ?_
                        refine ev_pc (pc' := 4) rfl ?_
                        refine ev_fgt 4 (L' := [_, _, _, _, _]) rfl ?_
                        exact ih _ (by omega) (k + 1) rfl (by omega))
                 · refine ev_aload_n dX7_missing_46 rfl rfl ?_
                   refine ev_getfield dX7_missing_47 lf_7_32 m0 rfl ?_
                   refine ev_iload_n dX7_missing_50 rfl rfl ?_
                   refine ev_ialoadF dX7_missing_51 m8 (by omega) (by decide) ?_
                   refine ev_goto 60 dX7_missing_52 rfl ?_
                   refine ev_pc (pc' := 60) rfl ?_
                   first
                     | (have hb : b = true := hc43
                        have e := (mssM_y (b := b) e2)
                        rw [if_pos hb] at e
                        refine ev_iaddN dX7_missing_60 ?_
                        refine ev_L (st' := [.int (nI (mssM gz gc gp gq b (k + 1)))]) rfl (by first | (rw [e]; done) | (rw [e]; rfl)) ?_
                        refine ev_istore_n (L' := [_, _, _, _, _]) dX7_missing_61 rfl (Nat.le_of_ble_eq_true rfl) rfl ?_
                        refine ev_iincN (L' := [_, _, _, _, _]) 1 dX7_missing_62 rfl rfl ?_
                        refine ev_goto 4 dX7_missing_65 rfl ?_
                        refine ev_pc (pc' := 4) rfl ?_
                        refine ev_fgt 4 (L' := [_, _, _, _, _]) rfl ?_
                        exact ih _ (by omega) (k + 1) rfl (by omega))
                     | (have hb : b = false := hc43
                        have e := (mssM_y (b := b) e2)
                        rw [if_neg (by rw [hb]; decide)] at e
                        refine ev_iaddN dX7_missing_60 ?_
                        refine ev_L (st' := [.int (nI (mssM gz gc gp gq b (k + 1)))]) rfl (by first | (rw [e]; done) | (rw [e]; rfl)) ?_
                        refine ev_istore_n (L' := [_, _, _, _, _]) dX7_missing_61 rfl (Nat.le_of_ble_eq_true rfl) rfl ?_
                        refine ev_iincN (L' := [_, _, _, _, _]) 1 dX7_missing_62 rfl rfl ?_
                        refine ev_goto 4 dX7_missing_65 rfl ?_
                        refine ev_pc (pc' := 4) rfl ?_
                        refine ev_fgt 4 (L' := [_, _, _, _, _]) rfl ?_
                        exact ih _ (by omega) (k + 1) rfl (by omega)))
            | (have e2 : misM gz gc gp gq k = false := by first | exact misM_n1 hc17 | exact misM_n2 hc26
               refine ev_istore (L' := [_, _, _, _, _]) dX7_missing_34 (Nat.le_of_ble_eq_true rfl) rfl ?_
               refine ev_iload_n dX7_missing_36 rfl rfl ?_
               refine ev_iload dX7_missing_37 rfl ?_
               refine ev_if_eqN 59 dX7_missing_39 rfl (by omega) (fun hc39 => ?_) (fun hc39 => ?_)
               · refine ev_iconst (nI 0) dX7_missing_59 rfl ?_
                 refine ev_pc (pc' := 60) rfl ?_
                 have e := (mssM_n (b := b) e2)
                 refine ev_iaddN dX7_missing_60 ?_
                 refine ev_L (st' := [.int (nI (mssM gz gc gp gq b (k + 1)))]) rfl (by first | (rw [e]; done) | (rw [e]; rfl)) ?_
                 refine ev_istore_n (L' := [_, _, _, _, _]) dX7_missing_61 rfl (Nat.le_of_ble_eq_true rfl) rfl ?_
                 refine ev_iincN (L' := [_, _, _, _, _]) 1 dX7_missing_62 rfl rfl ?_
                 refine ev_goto 4 dX7_missing_65 rfl ?_
                 refine ev_pc (pc' := 4) rfl ?_
                 refine ev_fgt 4 (L' := [_, _, _, _, _]) rfl ?_
                 exact ih _ (by omega) (k + 1) rfl (by omega)
               · refine ev_pc (pc' := 42) rfl ?_
                 exact absurd rfl hc39)
        · refine ev_aload_n dX7_missing_20 rfl rfl ?_
          refine ev_iload_n dX7_missing_21 rfl rfl ?_
          refine ev_callVP1 dX7_missing_22 cal_X7_slotFor lk_7_89 ⟨(Nat.le_of_ble_eq_true rfl), (Nat.le_of_ble_eq_true rfl)⟩ rfl m0 (Nat.le_of_ble_eq_true rfl) (k_slotFor hm hn40 hq hkp k (by omega)) ?_
          refine ev_iconst (-1) dX7_missing_25 rfl ?_
          refine ev_icmp_ne 33 dX7_missing_26 rfl (fun hc26 => ?_) (fun hc26 => ?_)
          · refine ev_iconst (nI 0) dX7_missing_33 rfl ?_
            refine ev_pc (pc' := 34) rfl ?_
            have hqk := hq k (by omega)
            first
              | (have e2 := misM_y (gz := gz) (gc := gc) hc17 hc26
                 refine ev_istore (L' := [_, _, _, _, _]) dX7_missing_34 (Nat.le_of_ble_eq_true rfl) rfl ?_
                 refine ev_iload_n dX7_missing_36 rfl rfl ?_
                 refine ev_iload dX7_missing_37 rfl ?_
                 refine ev_if_eqN 59 dX7_missing_39 rfl (by omega) (fun hc39 => ?_) (fun hc39 => ?_)
                 · refine ev_pc (pc' := 59) rfl ?_
                   exact absurd hc39 (by decide)
                 · refine ev_iload_n dX7_missing_42 rfl rfl ?_
                   refine ev_if_eqB 55 dX7_missing_43 rfl (fun hc43 => ?_) (fun hc43 => ?_)
                   · refine ev_iconst (nI 1) dX7_missing_55 rfl ?_
                     refine ev_goto 60 dX7_missing_56 rfl ?_
                     refine ev_pc (pc' := 60) rfl ?_
                     first
                       | (have hb : b = true := hc43
                          have e := (mssM_y (b := b) e2)
                          rw [if_pos hb] at e
                          refine ev_iaddN dX7_missing_60 ?_
                          refine ev_L (st' := [.int (nI (mssM gz gc gp gq b (k + 1)))]) rfl (by first | (rw [e]; done) | (rw [e]; rfl)) ?_
                          refine ev_istore_n (L' := [_, _, _, _, _]) dX7_missing_61 rfl (Nat.le_of_ble_eq_true rfl) rfl ?_
                          refine ev_iincN (L' := [_, _, _, _, _]) 1 dX7_missing_62 rfl rfl ?_
                          refine ev_goto 4 dX7_missing_65 rfl ?_
                          refine ev_pc (pc' := 4) rfl ?_
                          refine ev_fgt 4 (L' := [_, _, _, _, _]) rfl ?_
                          exact ih _ (by omega) (k + 1) rfl (by omega))
                       | (have hb : b = false := hc43
                          have e := (mssM_y (b := b) e2)
                          rw [if_neg (by rw [hb]; decide)] at e
                          refine ev_iaddN dX7_missing_60 ?_
                          refine ev_L (st' := [.int (nI (mssM gz gc gp gq b (k + 1)))]) rfl (by first | (rw [e]; done) | (rw [e]; rfl)) ?_
                          refine ev_istore_n (L' := [_, _, _, _, _]) dX7_missing_61 rfl (Nat.le_of_ble_eq_true rfl) rfl ?_
                          refine ev_iincN (L' := [_, _, _, _, _]) 1 dX7_missing_62 rfl rfl ?_
                          refine ev_goto 4 dX7_missing_65 rfl ?_
                          refine ev_pc (pc' := 4) rfl ?_
                          refine ev_fgt 4 (L' := [_, _, _, _, _]) rfl ?_
                          exact ih _ (by omega) (k + 1) rfl (by omega))
                   · refine ev_aload_n dX7_missing_46 rfl rfl ?_
                     refine ev_getfield dX7_missing_47 lf_7_32 m0 rfl ?_
                     refine ev_iload_n dX7_missing_50 rfl rfl ?_
                     refine ev_ialoadF dX7_missing_51 m8 (by omega) (by decide) ?_
                     refine ev_goto 60 dX7_missing_52 rfl ?_
                     refine ev_pc (pc' := 60) rfl ?_
                     first
                       | (have hb : b = true := hc43
                          have e := (mssM_y (b := b) e2)
                          rw [if_pos hb] at e
                          refine ev_iaddN dX7_missing_60 ?_
                          refine ev_L (st' := [.int (nI (mssM gz gc gp gq b (k + 1)))]) rfl (by first | (rw [e]; done) | (rw [e]; rfl)) ?_
                          refine ev_istore_n (L' := [_, _, _, _, _]) dX7_missing_61 rfl (Nat.le_of_ble_eq_true rfl) rfl ?_
                          refine ev_iincN (L' := [_, _, _, _, _]) 1 dX7_missing_62 rfl rfl ?_
                          refine ev_goto 4 dX7_missing_65 rfl ?_
                          refine ev_pc (pc' := 4) rfl ?_
                          refine ev_fgt 4 (L' := [_, _, _, _, _]) rfl ?_
                          exact ih _ (by omega) (k + 1) rfl (by omega))
                       | (have hb : b = false := hc43
                          have e := (mssM_y (b := b) e2)
                          rw [if_neg (by rw [hb]; decide)] at e
                          refine ev_iaddN dX7_missing_60 ?_
                          refine ev_L (st' := [.int (nI (mssM gz gc gp gq b (k + 1)))]) rfl (by first | (rw [e]; done) | (rw [e]; rfl)) ?_
                          refine ev_istore_n (L' := [_, _, _, _, _]) dX7_missing_61 rfl (Nat.le_of_ble_eq_true rfl) rfl ?_
                          refine ev_iincN (L' := [_, _, _, _, _]) 1 dX7_missing_62 rfl rfl ?_
                          refine ev_goto 4 dX7_missing_65 rfl ?_
                          refine ev_pc (pc' := 4) rfl ?_
                          refine ev_fgt 4 (L' := [_, _, _, _, _]) rfl ?_
                          exact ih _ (by omega) (k + 1) rfl (by omega)))
              | (have e2 : misM gz gc gp gq k = false := by first | exact misM_n1 hc17 | exact misM_n2 hc26
                 refine ev_istore (L' := [_, _, _, _, _]) dX7_missing_34 (Nat.le_of_ble_eq_true rfl) rfl ?_
                 refine ev_iload_n dX7_missing_36 rfl rfl ?_
                 refine ev_iload dX7_missing_37 rfl ?_
                 refine ev_if_eqN 59 dX7_missing_39 rfl (by omega) (fun hc39 => ?_) (fun hc39 => ?_)
                 · refine ev_iconst (nI 0) dX7_missing_59 rfl ?_
                   refine ev_pc (pc' := 60) rfl ?_
                   have e := (mssM_n (b := b) e2)
                   refine ev_iaddN dX7_missing_60 ?_
                   refine ev_L (st' := [.int (nI (mssM gz gc gp gq b (k + 1)))]) rfl (by first | (rw [e]; done) | (rw [e]; rfl)) ?_
                   refine ev_istore_n (L' := [_, _, _, _, _]) dX7_missing_61 rfl (Nat.le_of_ble_eq_true rfl) rfl ?_
                   refine ev_iincN (L' := [_, _, _, _, _]) 1 dX7_missing_62 rfl rfl ?_
                   refine ev_goto 4 dX7_missing_65 rfl ?_
                   refine ev_pc (pc' := 4) rfl ?_
                   refine ev_fgt 4 (L' := [_, _, _, _, _]) rfl ?_
                   exact ih _ (by omega) (k + 1) rfl (by omega)
                 · refine ev_pc (pc' := 42) rfl ?_
                   exact absurd rfl hc39)
          · refine ev_iconst (nI 1) dX7_missing_29 rfl ?_
            refine ev_goto 34 dX7_missing_30 rfl ?_
            refine ev_pc (pc' := 34) rfl ?_
            have hqk := hq k (by omega)
            first
              | (have e2 := misM_y (gz := gz) (gc := gc) hc17 hc26
                 refine ev_istore (L' := [_, _, _, _, _]) dX7_missing_34 (Nat.le_of_ble_eq_true rfl) rfl ?_
                 refine ev_iload_n dX7_missing_36 rfl rfl ?_
                 refine ev_iload dX7_missing_37 rfl ?_
                 refine ev_if_eqN 59 dX7_missing_39 rfl (by omega) (fun hc39 => ?_) (fun hc39 => ?_)
                 · refine ev_pc (pc' := 59) rfl ?_
                   exact absurd hc39 (by decide)
                 · refine ev_iload_n dX7_missing_42 rfl rfl ?_
                   refine ev_if_eqB 55 dX7_missing_43 rfl (fun hc43 => ?_) (fun hc43 => ?_)
                   · refine ev_iconst (nI 1) dX7_missing_55 rfl ?_
                     refine ev_goto 60 dX7_missing_56 rfl ?_
                     refine ev_pc (pc' := 60) rfl ?_
                     first
                       | (have hb : b = true := hc43
                          have e := (mssM_y (b := b) e2)
                          rw [if_pos hb] at e
                          refine ev_iaddN dX7_missing_60 ?_
                          refine ev_L (st' := [.int (nI (mssM gz gc gp gq b (k + 1)))]) rfl (by first | (rw [e]; done) | (rw [e]; rfl)) ?_
                          refine ev_istore_n (L' := [_, _, _, _, _]) dX7_missing_61 rfl (Nat.le_of_ble_eq_true rfl) rfl ?_
                          refine ev_iincN (L' := [_, _, _, _, _]) 1 dX7_missing_62 rfl rfl ?_
                          refine ev_goto 4 dX7_missing_65 rfl ?_
                          refine ev_pc (pc' := 4) rfl ?_
                          refine ev_fgt 4 (L' := [_, _, _, _, _]) rfl ?_
                          exact ih _ (by omega) (k + 1) rfl (by omega))
                       | (have hb : b = false := hc43
                          have e := (mssM_y (b := b) e2)
                          rw [if_neg (by rw [hb]; decide)] at e
                          refine ev_iaddN dX7_missing_60 ?_
                          refine ev_L (st' := [.int (nI (mssM gz gc gp gq b (k + 1)))]) rfl (by first | (rw [e]; done) | (rw [e]; rfl)) ?_
                          refine ev_istore_n (L' := [_, _, _, _, _]) dX7_missing_61 rfl (Nat.le_of_ble_eq_true rfl) rfl ?_
                          refine ev_iincN (L' := [_, _, _, _, _]) 1 dX7_missing_62 rfl rfl ?_
                          refine ev_goto 4 dX7_missing_65 rfl ?_
                          refine ev_pc (pc' := 4) rfl ?_
                          refine ev_fgt 4 (L' := [_, _, _, _, _]) rfl ?_
                          exact ih _ (by omega) (k + 1) rfl (by omega))
                   · refine ev_aload_n dX7_missing_46 rfl rfl ?_
                     refine ev_getfield dX7_missing_47 lf_7_32 m0 rfl ?_
                     refine ev_iload_n dX7_missing_50 rfl rfl ?_
                     refine ev_ialoadF dX7_missing_51 m8 (by omega) (by decide) ?_
                     refine ev_goto 60 dX7_missing_52 rfl ?_
                     refine ev_pc (pc' := 60) rfl ?_
                     first
                       | (have hb : b = true := hc43
                          have e := (mssM_y (b := b) e2)
                          rw [if_pos hb] at e
                          refine ev_iaddN dX7_missing_60 ?_
                          refine ev_L (st' := [.int (nI (mssM gz gc gp gq b (k + 1)))]) rfl (by first | (rw [e]; done) | (rw [e]; rfl)) ?_
                          refine ev_istore_n (L' := [_, _, _, _, _]) dX7_missing_61 rfl (Nat.le_of_ble_eq_true rfl) rfl ?_
                          refine ev_iincN (L' := [_, _, _, _, _]) 1 dX7_missing_62 rfl rfl ?_
                          refine ev_goto 4 dX7_missing_65 rfl ?_
                          refine ev_pc (pc' := 4) rfl ?_
                          refine ev_fgt 4 (L' := [_, _, _, _, _]) rfl ?_
                          exact ih _ (by omega) (k + 1) rfl (by omega))
                       | (have hb : b = false := hc43
                          have e := (mssM_y (b := b) e2)
                          rw [if_neg (by rw [hb]; decide)] at e
                          refine ev_iaddN dX7_missing_60 ?_
                          refine ev_L (st' := [.int (nI (mssM gz gc gp gq b (k + 1)))]) rfl (by first | (rw [e]; done) | (rw [e]; rfl)) ?_
                          refine ev_istore_n (L' := [_, _, _, _, _]) dX7_missing_61 rfl (Nat.le_of_ble_eq_true rfl) rfl ?_
                          refine ev_iincN (L' := [_, _, _, _, _]) 1 dX7_missing_62 rfl rfl ?_
                          refine ev_goto 4 dX7_missing_65 rfl ?_
                          refine ev_pc (pc' := 4) rfl ?_
                          refine ev_fgt 4 (L' := [_, _, _, _, _]) rfl ?_
                          exact ih _ (by omega) (k + 1) rfl (by omega)))
              | (have e2 : misM gz gc gp gq k = false := by first | exact misM_n1 hc17 | exact misM_n2 hc26
                 refine ev_istore (L' := [_, _, _, _, _]) dX7_missing_34 (Nat.le_of_ble_eq_true rfl) rfl ?_
                 refine ev_iload_n dX7_missing_36 rfl rfl ?_
                 refine ev_iload dX7_missing_37 rfl ?_
                 refine ev_if_eqN 59 dX7_missing_39 rfl (by omega) (fun hc39 => ?_) (fun hc39 => ?_)
                 · refine ev_iconst (nI 0) dX7_missing_59 rfl ?_
                   refine ev_pc (pc' := 60) rfl ?_
                   have e := (mssM_n (b := b) e2)
                   refine ev_iaddN dX7_missing_60 ?_
                   refine ev_L (st' := [.int (nI (mssM gz gc gp gq b (k + 1)))]) rfl (by first | (rw [e]; done) | (rw [e]; rfl)) ?_
                   refine ev_istore_n (L' := [_, _, _, _, _]) dX7_missing_61 rfl (Nat.le_of_ble_eq_true rfl) rfl ?_
                   refine ev_iincN (L' := [_, _, _, _, _]) 1 dX7_missing_62 rfl rfl ?_
                   refine ev_goto 4 dX7_missing_65 rfl ?_
                   refine ev_pc (pc' := 4) rfl ?_
                   refine ev_fgt 4 (L' := [_, _, _, _, _]) rfl ?_
                   exact ih _ (by omega) (k + 1) rfl (by omega)
                 · refine ev_pc (pc' := 42) rfl ?_
                   exact absurd rfl hc39)
  exact LP4 _ 0 rfl (Nat.zero_le _)
set_option maxHeartbeats 4000000 in
set_option maxRecDepth 100000 in
theorem k_ownersBut {X : mX} {h : mH} {gz : Nat → Nat} {gc : Nat → Int64} {gs : Nat} {gh : Nat → Nat} {gk : Nat → Int64} {gl : Nat} {gb : Nat → Nat} {gt : Nat} {gr : Nat → Nat} {gm : Nat} {gp : Nat → Int64} {gq : Nat → Nat} {ge : Nat → Nat} {gn : Nat} {go : Nat → Nat} {gu : Nat} {gi : Bool} {ga : Nat → Int64} {gv : Nat → Nat} {gw : Nat} {gx : Int64} (hm : MN h gz gc gs gh gk gl gb gt gr gm gp gq ge gn go gu gi ga gv gw gx) (t k : Nat) (ht : t < 4) (hk : k < 60) (hx : TxB gz t) (ho : ownM gz t k (gz (7 + t)) ≤ gz (551 + k)) : CnP X m_X7_ownersBut [.ref 270, .int (nI k), .int (nI t)] h (some (.int (nI (gz (551 + k) - ownM gz t k (gz (7 + t)))))) := by
  obtain ⟨m0, m1, m2, m3, m4, m5, m6, m7, m8, m9, m10, m11, m12⟩ := id hm
  obtain ⟨hx1, hx2⟩ := hx
  refine cn_of_ev (L0 := [_, _, _, _, _]) (by decide +kernel) rfl rfl (Nat.le_of_ble_eq_true rfl) rfl ?_
  refine ev_aload_n dX7_ownersBut_0 rfl rfl ?_
  refine ev_getfield dX7_ownersBut_1 lf_7_7 m0 rfl ?_
  refine ev_sipush (nI 551) dX7_ownersBut_4 rfl ?_
  refine ev_iload_n dX7_ownersBut_7 rfl rfl ?_
  refine ev_iaddN dX7_ownersBut_8 ?_
  refine ev_ialoadF dX7_ownersBut_9 m1 (by omega) (by decide) ?_
  refine ev_istore_n (L' := [_, _, _, _, _]) dX7_ownersBut_10 rfl (Nat.le_of_ble_eq_true rfl) rfl ?_
  refine ev_iconst (nI 0) dX7_ownersBut_11 rfl ?_
  refine ev_istore (L' := [_, _, _, _, _]) dX7_ownersBut_12 (Nat.le_of_ble_eq_true rfl) rfl ?_
  refine ev_pc (pc' := 14) rfl ?_
  have LP14 : ∀ (mz : Nat) (j : Nat), gz (7 + t) - j = mz → (j ≤ gz (7 + t)) → Ev X m_X7_ownersBut B0 14 [.ref 270, .int (nI k), .int (nI t), .int (nI (gz (551 + k) - ownM gz t k j)), .int (nI j)] [] h (fun o h1 => o = .inl (some (.int (nI (gz (551 + k) - ownM gz t k (gz (7 + t)))))) ∧ h1 = h) := by
    intro mz
    induction mz using Nat.strongRecOn with
    | _ mz ih =>
      intro j hmz hj
      have hxj := hx2 j
      refine ev_iload dX7_ownersBut_14 rfl ?_
      refine ev_aload_n dX7_ownersBut_16 rfl rfl ?_
      refine ev_iload_n dX7_ownersBut_17 rfl rfl ?_
      refine ev_callVP1 dX7_ownersBut_18 cal_X7_signsOf lk_7_58 ⟨(Nat.le_of_ble_eq_true rfl), (Nat.le_of_ble_eq_true rfl)⟩ rfl m0 (Nat.le_of_ble_eq_true rfl) (k_signsOf hm t ht) ?_
      refine ev_icmp_geN 59 dX7_ownersBut_21 rfl (by omega) (by omega) (fun hc21 => ?_) (fun hc21 => ?_)
      · refine ev_iload_n dX7_ownersBut_59 rfl rfl ?_
        refine ev_ireturn dX7_ownersBut_60 rfl (Or.inl rfl) (Nat.zero_le _) (Nat.zero_le _) ?_
        rw [show gz (7 + t) = j by omega]
        exact ⟨rfl, rfl⟩
      · refine ev_iload_n dX7_ownersBut_24 rfl rfl ?_
        refine ev_aload_n dX7_ownersBut_25 rfl rfl ?_
        refine ev_iload_n dX7_ownersBut_26 rfl rfl ?_
        refine ev_iload dX7_ownersBut_27 rfl ?_
        refine ev_callVP2 dX7_ownersBut_29 cal_X7_markAt lk_7_92 ⟨(Nat.le_of_ble_eq_true rfl), (Nat.le_of_ble_eq_true rfl)⟩ rfl m0 (Nat.le_of_ble_eq_true rfl) (k_markAt hm t j ht (by omega)) ?_
        refine ev_if_eqN 50 dX7_ownersBut_32 rfl (by omega) (fun hc32 => ?_) (fun hc32 => ?_)
        · refine ev_iconst (nI 0) dX7_ownersBut_50 rfl ?_
          refine ev_pc (pc' := 51) rfl ?_
          have hmo : ownM gz t k (j + 1) ≤ ownM gz t k (gz (7 + t)) := ctN_mono _ (by omega)
          first
            | (have e2 := ownP_y (gz := gz) (t := t) (k := k) (j := j) hc32 hc43
               have e : ownM gz t k (j + 1) = ownM gz t k j + 1 := ctN_y (p := ownP gz t k) e2
               refine ev_isubN dX7_ownersBut_51 (by omega) ?_
               refine ev_L (st' := [.int (nI (gz (551 + k) - ownM gz t k (j + 1)))]) rfl (by first | (rw [e]; done) | (rw [e]; rfl) | (rw [e, Nat.sub_add_eq]; done) | (rw [e, Nat.sub_add_eq]; rfl)) ?_
               refine ev_istore_n (L' := [_, _, _, _, _]) dX7_ownersBut_52 rfl (Nat.le_of_ble_eq_true rfl) rfl ?_
               refine ev_iincN (L' := [_, _, _, _, _]) 1 dX7_ownersBut_53 rfl rfl ?_
               refine ev_goto 14 dX7_ownersBut_56 rfl ?_
               refine ev_pc (pc' := 14) rfl ?_
               exact ih _ (by omega) (j + 1) rfl (by omega))
            | (have e2 : ownP gz t k j = false := by first | exact ownP_n1 hc32 | exact ownP_n2 hc43
               have e : ownM gz t k (j + 1) = ownM gz t k j := ctN_n (p := ownP gz t k) e2
               refine ev_isubN dX7_ownersBut_51 (by omega) ?_
               refine ev_L (st' := [.int (nI (gz (551 + k) - ownM gz t k (j + 1)))]) rfl (by first | (rw [e]; done) | (rw [e]; rfl) | (rw [e, Nat.sub_add_eq]; done) | (rw [e, Nat.sub_add_eq]; rfl)) ?_
               refine ev_istore_n (L' := [_, _, _, _, _]) dX7_ownersBut_52 rfl (Nat.le_of_ble_eq_true rfl) rfl ?_
               refine ev_iincN (L' := [_, _, _, _, _]) 1 dX7_ownersBut_53 rfl rfl ?_
               refine ev_goto 14 dX7_ownersBut_56 rfl ?_
               refine ev_pc (pc' := 14) rfl ?_
               exact ih _ (by omega) (j + 1) rfl (by omega))
        · refine ev_aload_n dX7_ownersBut_35 rfl rfl ?_
          refine ev_iload_n dX7_ownersBut_36 rfl rfl ?_
          refine ev_iload dX7_ownersBut_37 rfl ?_
          refine ev_callVP2 dX7_ownersBut_39 cal_X7_slotAt lk_7_95 ⟨(Nat.le_of_ble_eq_true rfl), (Nat.le_of_ble_eq_true rfl)⟩ rfl m0 (Nat.le_of_ble_eq_true rfl) (k_slotAt hm t j ht (by omega)) ?_
          refine ev_iload_n dX7_ownersBut_42 rfl rfl ?_
          refine ev_icmp_neN 50 dX7_ownersBut_43 rfl (by omega) (by omega) (fun hc43 => ?_) (fun hc43 => ?_)
          · refine ev_iconst (nI 0) dX7_ownersBut_50 rfl ?_
            refine ev_pc (pc' := 51) rfl ?_
            have hmo : ownM gz t k (j + 1) ≤ ownM gz t k (gz (7 + t)) := ctN_mono _ (by omega)
            first
              | (have e2 := ownP_y (gz := gz) (t := t) (k := k) (j := j) hc32 hc43
                 have e : ownM gz t k (j + 1) = ownM gz t k j + 1 := ctN_y (p := ownP gz t k) e2
                 refine ev_isubN dX7_ownersBut_51 (by omega) ?_
                 refine ev_L (st' := [.int (nI (gz (551 + k) - ownM gz t k (j + 1)))]) rfl (by first | (rw [e]; done) | (rw [e]; rfl) | (rw [e, Nat.sub_add_eq]; done) | (rw [e, Nat.sub_add_eq]; rfl)) ?_
                 refine ev_istore_n (L' := [_, _, _, _, _]) dX7_ownersBut_52 rfl (Nat.le_of_ble_eq_true rfl) rfl ?_
                 refine ev_iincN (L' := [_, _, _, _, _]) 1 dX7_ownersBut_53 rfl rfl ?_
                 refine ev_goto 14 dX7_ownersBut_56 rfl ?_
                 refine ev_pc (pc' := 14) rfl ?_
                 exact ih _ (by omega) (j + 1) rfl (by omega))
              | (have e2 : ownP gz t k j = false := by first | exact ownP_n1 hc32 | exact ownP_n2 hc43
                 have e : ownM gz t k (j + 1) = ownM gz t k j := ctN_n (p := ownP gz t k) e2
                 refine ev_isubN dX7_ownersBut_51 (by omega) ?_
                 refine ev_L (st' := [.int (nI (gz (551 + k) - ownM gz t k (j + 1)))]) rfl (by first | (rw [e]; done) | (rw [e]; rfl) | (rw [e, Nat.sub_add_eq]; done) | (rw [e, Nat.sub_add_eq]; rfl)) ?_
                 refine ev_istore_n (L' := [_, _, _, _, _]) dX7_ownersBut_52 rfl (Nat.le_of_ble_eq_true rfl) rfl ?_
                 refine ev_iincN (L' := [_, _, _, _, _]) 1 dX7_ownersBut_53 rfl rfl ?_
                 refine ev_goto 14 dX7_ownersBut_56 rfl ?_
                 refine ev_pc (pc' := 14) rfl ?_
                 exact ih _ (by omega) (j + 1) rfl (by omega))
          · refine ev_iconst (nI 1) dX7_ownersBut_46 rfl ?_
            refine ev_goto 51 dX7_ownersBut_47 rfl ?_
            refine ev_pc (pc' := 51) rfl ?_
            have hmo : ownM gz t k (j + 1) ≤ ownM gz t k (gz (7 + t)) := ctN_mono _ (by omega)
            first
              | (have e2 := ownP_y (gz := gz) (t := t) (k := k) (j := j) hc32 hc43
                 have e : ownM gz t k (j + 1) = ownM gz t k j + 1 := ctN_y (p := ownP gz t k) e2
                 refine ev_isubN dX7_ownersBut_51 (by omega) ?_
                 refine ev_L (st' := [.int (nI (gz (551 + k) - ownM gz t k (j + 1)))]) rfl (by first | (rw [e]; done) | (rw [e]; rfl) | (rw [e, Nat.sub_add_eq]; done) | (rw [e, Nat.sub_add_eq]; rfl)) ?_
                 refine ev_istore_n (L' := [_, _, _, _, _]) dX7_ownersBut_52 rfl (Nat.le_of_ble_eq_true rfl) rfl ?_
                 refine ev_iincN (L' := [_, _, _, _, _]) 1 dX7_ownersBut_53 rfl rfl ?_
                 refine ev_goto 14 dX7_ownersBut_56 rfl ?_
                 refine ev_pc (pc' := 14) rfl ?_
                 exact ih _ (by omega) (j + 1) rfl (by omega))
              | (have e2 : ownP gz t k j = false := by first | exact ownP_n1 hc32 | exact ownP_n2 hc43
                 have e : ownM gz t k (j + 1) = ownM gz t k j := ctN_n (p := ownP gz t k) e2
                 refine ev_isubN dX7_ownersBut_51 (by omega) ?_
                 refine ev_L (st' := [.int (nI (gz (551 + k) - ownM gz t k (j + 1)))]) rfl (by first | (rw [e]; done) | (rw [e]; rfl) | (rw [e, Nat.sub_add_eq]; done) | (rw [e, Nat.sub_add_eq]; rfl)) ?_
                 refine ev_istore_n (L' := [_, _, _, _, _]) dX7_ownersBut_52 rfl (Nat.le_of_ble_eq_true rfl) rfl ?_
                 refine ev_iincN (L' := [_, _, _, _, _]) 1 dX7_ownersBut_53 rfl rfl ?_
                 refine ev_goto 14 dX7_ownersBut_56 rfl ?_
                 refine ev_pc (pc' := 14) rfl ?_
                 exact ih _ (by omega) (j + 1) rfl (by omega))
  exact LP14 _ 0 rfl (Nat.zero_le _)
