def owlP (gz : Nat → Nat) (k : Nat) : Bool := decide (0 < gz (491 + k)) && decide (gz (551 + k) = 0)
def owlM (gz : Nat → Nat) (b : Bool) (n : Nat) : Nat := smN (fun k => if owlP gz k = true then (if b = true then gz (491 + k) else 1) else 0) n
theorem owlP_y {gz : Nat → Nat} {k : Nat} (h1 : decide (0 < gz (491 + k)) = true) (h2 : gz (551 + k) = 0) : owlP gz k = true := by rw [owlP, h1, decide_eq_true h2]; rfl
theorem owlP_n1 {gz : Nat → Nat} {k : Nat} (h1 : decide (0 < gz (491 + k)) = false) : owlP gz k = false := by rw [owlP, h1]; rfl
theorem owlP_n2 {gz : Nat → Nat} {k : Nat} (h2 : ¬ gz (551 + k) = 0) : owlP gz k = false := by rw [owlP, decide_eq_false h2, Bool.and_false]
theorem owlM_y {gz : Nat → Nat} {k : Nat} {b : Bool} (h : owlP gz k = true) : owlM gz b (k + 1) = owlM gz b k + (if b = true then gz (491 + k) else 1) := by
  show smN _ k + (if owlP gz k = true then (if b = true then gz (491 + k) else 1) else 0) = _
  rw [if_pos h]; rfl
theorem owlM_n {gz : Nat → Nat} {k : Nat} {b : Bool} (h : owlP gz k = false) : owlM gz b (k + 1) = owlM gz b k + 0 := by
  show smN _ k + (if owlP gz k = true then (if b = true then gz (491 + k) else 1) else 0) = _
  rw [if_neg (by rw [h]; decide)]; rfl
set_option maxHeartbeats 4000000 in
set_option maxRecDepth 100000 in
theorem k_ownerless {X : mX} {h : mH} {gz : Nat → Nat} {gc : Nat → Int64} {gs : Nat} {gh : Nat → Nat} {gk : Nat → Int64} {gl : Nat} {gb : Nat → Nat} {gt : Nat} {gr : Nat → Nat} {gm : Nat} {gp : Nat → Int64} {gq : Nat → Nat} {ge : Nat → Nat} {gn : Nat} {go : Nat → Nat} {gu : Nat} {gi : Bool} {ga : Nat → Int64} {gv : Nat → Nat} {gw : Nat} {gx : Int64} (hm : MN h gz gc gs gh gk gl gb gt gr gm gp gq ge gn go gu gi ga gv gw gx) (hkp : KpB gz) (hb0 : ∀ k, k < 60 → gz (551 + k) ≤ 1000) (b : Bool) : CnP X m_X7_ownerless [.ref 270, .int (bI b)] h (some (.int (nI (owlM gz b 60)))) := by
  obtain ⟨m0, m1, m2, m3, m4, m5, m6, m7, m8, m9, m10, m11, m12⟩ := id hm
  refine cn_of_ev (L0 := [_, _, _, _, _]) (by decide +kernel) rfl rfl (Nat.le_of_ble_eq_true rfl) rfl ?_
  refine ev_iconst (nI 0) dX7_ownerless_0 rfl ?_
  refine ev_istore_n (L' := [_, _, _, _, _]) dX7_ownerless_1 rfl (Nat.le_of_ble_eq_true rfl) rfl ?_
  refine ev_iconst (nI 0) dX7_ownerless_2 rfl ?_
  refine ev_istore_n (L' := [_, _, _, _, _]) dX7_ownerless_3 rfl (Nat.le_of_ble_eq_true rfl) rfl ?_
  refine ev_pc (pc' := 4) rfl ?_
  have LP4 : ∀ (mz : Nat) (k : Nat), 60 - k = mz → (k ≤ 60) → Ev X m_X7_ownerless B0 4 [.ref 270, .int (bI b), .int (nI (owlM gz b k)), .int (nI k), jk] [] h (fun o h1 => o = .inl (some (.int (nI (owlM gz b 60)))) ∧ h1 = h) := by
    intro mz
    induction mz using Nat.strongRecOn with
    | _ mz ih =>
      intro k hmz hk
      have hkk := hkp k
      have hbk := hb0 k
      refine ev_iload_n dX7_ownerless_4 rfl rfl ?_
      refine ev_bipush (nI 60) dX7_ownerless_5 rfl ?_
      refine ev_icmp_geN 74 dX7_ownerless_7 rfl (by omega) (by omega) (fun hc7 => ?_) (fun hc7 => ?_)
      · refine ev_iload_n dX7_ownerless_74 rfl rfl ?_
        refine ev_ireturn dX7_ownerless_75 rfl (Or.inl rfl) (Nat.zero_le _) (Nat.zero_le _) ?_
        rw [show 60 = k by omega]
        exact ⟨rfl, rfl⟩
      · refine ev_aload_n dX7_ownerless_10 rfl rfl ?_
        refine ev_iload_n dX7_ownerless_11 rfl rfl ?_
        refine ev_callVP1 dX7_ownerless_12 cal_X7_isKept lk_7_82 ⟨(Nat.le_of_ble_eq_true rfl), (Nat.le_of_ble_eq_true rfl)⟩ rfl m0 (Nat.le_of_ble_eq_true rfl) (k_isKept hm k (by omega) (by have := hkk (by omega); omega)) ?_
        refine ev_if_eqB 35 dX7_ownerless_15 rfl (fun hc15 => ?_) (fun hc15 => ?_)
        · refine ev_iconst (nI 0) dX7_ownerless_35 rfl ?_
          refine ev_pc (pc' := 36) rfl ?_
          first
            | (have e2 := owlP_y (gz := gz) (k := k) hc15 hc28
               refine ev_istore (L' := [_, _, _, _, _]) dX7_ownerless_36 (Nat.le_of_ble_eq_true rfl) rfl ?_
               refine ev_iload_n dX7_ownerless_38 rfl rfl ?_
               refine ev_iload dX7_ownerless_39 rfl ?_
               refine ev_if_eqN 65 dX7_ownerless_41 rfl (by omega) (fun hc41 => ?_) (fun hc41 => ?_)
               · refine ev_pc (pc' := 65) rfl ?_
                 exact absurd hc41 (by decide)
               · refine ev_iload_n dX7_ownerless_44 rfl rfl ?_
                 refine ev_if_eqB 61 dX7_ownerless_45 rfl (fun hc45 => ?_) (fun hc45 => ?_)
                 · refine ev_iconst (nI 1) dX7_ownerless_61 rfl ?_
                   refine ev_goto 66 dX7_ownerless_62 rfl ?_
                   refine ev_pc (pc' := 66) rfl ?_
                   first
                     | (have hb : b = true := hc45
                        have e := (owlM_y (b := b) e2)
                        rw [if_pos hb] at e
                        refine ev_iaddN dX7_ownerless_66 ?_
                        refine ev_L (st' := [.int (nI (owlM gz b (k + 1)))]) rfl (by first | (rw [e]; done) | (rw [e]; rfl)) ?_
                        refine ev_istore_n (L' := [_, _, _, _, _]) dX7_ownerless_67 rfl (Nat.le_of_ble_eq_true rfl) rfl ?_
                        refine ev_iincN (L' := [_, _, _, _, _]) 1 dX7_ownerless_68 rfl rfl ?_
                        refine ev_goto 4 dX7_ownerless_71 rfl ?_
                        refine ev_pc (pc' := 4) rfl ?_
                        refine ev_fgt 4 (L' := [_, _, _, _, _]) rfl ?_
                        exact ih _ (by omega) (k + 1) rfl (by omega))
                     | (have hb : b = false := hc45
                        have e := (owlM_y (b := b) e2)
                        rw [if_neg (by rw [hb]; decide)] at e
                        refine ev_iaddN dX7_ownerless_66 ?_
                        refine ev_L (st' := [.int (nI (owlM gz b (k + 1)))]) rfl (by first | (rw [e]; done) | (rw [e]; rfl)) ?_
                        refine ev_istore_n (L' := [_, _, _, _, _]) dX7_ownerless_67 rfl (Nat.le_of_ble_eq_true rfl) rfl ?_
                        refine ev_iincN (L' := [_, _, _, _, _]) 1 dX7_ownerless_68 rfl rfl ?_
                        refine ev_goto 4 dX7_ownerless_71 rfl ?_
                        refine ev_pc (pc' := 4) rfl ?_
                        refine ev_fgt 4 (L' := [_, _, _, _, _]) rfl ?_
                        exact ih _ (by omega) (k + 1) rfl (by omega))
                 · refine ev_aload_n dX7_ownerless_48 rfl rfl ?_
                   refine ev_getfield dX7_ownerless_49 lf_7_7 m0 rfl ?_
                   refine ev_sipush (nI 491) dX7_ownerless_52 rfl ?_
                   refine ev_iload_n dX7_ownerless_55 rfl rfl ?_
                   refine ev_iaddN dX7_ownerless_56 ?_
                   refine ev_ialoadF dX7_ownerless_57 m1 (by omega) (by decide) ?_
                   refine ev_goto 66 dX7_ownerless_58 rfl ?_
                   refine ev_pc (pc' := 66) rfl ?_
                   first
                     | (have hb : b = true := hc45
                        have e := (owlM_y (b := b) e2)
                        rw [if_pos hb] at e
                        refine ev_iaddN dX7_ownerless_66 ?_
                        refine ev_L (st' := [.int (nI (owlM gz b (k + 1)))]) rfl (by first | (rw [e]; done) | (rw [e]; rfl)) ?_
                        refine ev_istore_n (L' := [_, _, _, _, _]) dX7_ownerless_67 rfl (Nat.le_of_ble_eq_true rfl) rfl ?_
                        refine ev_iincN (L' := [_, _, _, _, _]) 1 dX7_ownerless_68 rfl rfl ?_
                        refine ev_goto 4 dX7_ownerless_71 rfl ?_
                        refine ev_pc (pc' := 4) rfl ?_
                        refine ev_fgt 4 (L' := [_, _, _, _, _]) rfl ?_
                        exact ih _ (by omega) (k + 1) rfl (by omega))
                     | (have hb : b = false := hc45
                        have e := (owlM_y (b := b) e2)
                        rw [if_neg (by rw [hb]; decide)] at e
                        refine ev_iaddN dX7_ownerless_66 ?_
                        refine ev_L (st' := [.int (nI (owlM gz b (k + 1)))]) rfl (by first | (rw [e]; done) | (rw [e]; rfl)) ?_
                        refine ev_istore_n (L' := [_, _, _, _, _]) dX7_ownerless_67 rfl (Nat.le_of_ble_eq_true rfl) rfl ?_
                        refine ev_iincN (L' := [_, _, _, _, _]) 1 dX7_ownerless_68 rfl rfl ?_
                        refine ev_goto 4 dX7_ownerless_71 rfl ?_
                        refine ev_pc (pc' := 4) rfl ?_
                        refine ev_fgt 4 (L' := [_, _, _, _, _]) rfl ?_
                        exact ih _ (by omega) (k + 1) rfl (by omega)))
            | (have e2 : owlP gz k = false := by first | exact owlP_n1 hc15 | exact owlP_n2 hc28
               refine ev_istore (L' := [_, _, _, _, _]) dX7_ownerless_36 (Nat.le_of_ble_eq_true rfl) rfl ?_
               refine ev_iload_n dX7_ownerless_38 rfl rfl ?_
               refine ev_iload dX7_ownerless_39 rfl ?_
               refine ev_if_eqN 65 dX7_ownerless_41 rfl (by omega) (fun hc41 => ?_) (fun hc41 => ?_)
               · refine ev_iconst (nI 0) dX7_ownerless_65 rfl ?_
                 refine ev_pc (pc' := 66) rfl ?_
                 have e := (owlM_n (b := b) e2)
                 refine ev_iaddN dX7_ownerless_66 ?_
                 refine ev_L (st' := [.int (nI (owlM gz b (k + 1)))]) rfl (by first | (rw [e]; done) | (rw [e]; rfl)) ?_
                 refine ev_istore_n (L' := [_, _, _, _, _]) dX7_ownerless_67 rfl (Nat.le_of_ble_eq_true rfl) rfl ?_
                 refine ev_iincN (L' := [_, _, _, _, _]) 1 dX7_ownerless_68 rfl rfl ?_
                 refine ev_goto 4 dX7_ownerless_71 rfl ?_
                 refine ev_pc (pc' := 4) rfl ?_
                 refine ev_fgt 4 (L' := [_, _, _, _, _]) rfl ?_
                 exact ih _ (by omega) (k + 1) rfl (by omega)
               · refine ev_pc (pc' := 44) rfl ?_
                 exact absurd rfl hc41)
        · refine ev_aload_n dX7_ownerless_18 rfl rfl ?_
          refine ev_getfield dX7_ownerless_19 lf_7_7 m0 rfl ?_
          refine ev_sipush (nI 551) dX7_ownerless_22 rfl ?_
          refine ev_iload_n dX7_ownerless_25 rfl rfl ?_
          refine ev_iaddN dX7_ownerless_26 ?_
          refine ev_ialoadF dX7_ownerless_27 m1 (by omega) (by decide) ?_
          refine ev_if_neN 35 dX7_ownerless_28 rfl (by omega) (fun hc28 => ?_) (fun hc28 => ?_)
          · refine ev_iconst (nI 0) dX7_ownerless_35 rfl ?_
            refine ev_pc (pc' := 36) rfl ?_
            first
              | (have e2 := owlP_y (gz := gz) (k := k) hc15 hc28
                 refine ev_istore (L' := [_, _, _, _, _]) dX7_ownerless_36 (Nat.le_of_ble_eq_true rfl) rfl ?_
                 refine ev_iload_n dX7_ownerless_38 rfl rfl ?_
                 refine ev_iload dX7_ownerless_39 rfl ?_
                 refine ev_if_eqN 65 dX7_ownerless_41 rfl (by omega) (fun hc41 => ?_) (fun hc41 => ?_)
                 · refine ev_pc (pc' := 65) rfl ?_
                   exact absurd hc41 (by decide)
                 · refine ev_iload_n dX7_ownerless_44 rfl rfl ?_
                   refine ev_if_eqB 61 dX7_ownerless_45 rfl (fun hc45 => ?_) (fun hc45 => ?_)
                   · refine ev_iconst (nI 1) dX7_ownerless_61 rfl ?_
                     refine ev_goto 66 dX7_ownerless_62 rfl ?_
                     refine ev_pc (pc' := 66) rfl ?_
                     first
                       | (have hb : b = true := hc45
                          have e := (owlM_y (b := b) e2)
                          rw [if_pos hb] at e
                          refine ev_iaddN dX7_ownerless_66 ?_
                          refine ev_L (st' := [.int (nI (owlM gz b (k + 1)))]) rfl (by first | (rw [e]; done) | (rw [e]; rfl)) ?_
                          refine ev_istore_n (L' := [_, _, _, _, _]) dX7_ownerless_67 rfl (Nat.le_of_ble_eq_true rfl) rfl ?_
                          refine ev_iincN (L' := [_, _, _, _, _]) 1 dX7_ownerless_68 rfl rfl ?_
                          refine ev_goto 4 dX7_ownerless_71 rfl ?_
                          refine ev_pc (pc' := 4) rfl ?_
                          refine ev_fgt 4 (L' := [_, _, _, _, _]) rfl ?_
                          exact ih _ (by omega) (k + 1) rfl (by omega))
                       | (have hb : b = false := hc45
                          have e := (owlM_y (b := b) e2)
                          rw [if_neg (by rw [hb]; decide)] at e
                          refine ev_iaddN dX7_ownerless_66 ?_
                          refine ev_L (st' := [.int (nI (owlM gz b (k + 1)))]) rfl (by first | (rw [e]; done) | (rw [e]; rfl)) ?_
                          refine ev_istore_n (L' := [_, _, _, _, _]) dX7_ownerless_67 rfl (Nat.le_of_ble_eq_true rfl) rfl ?_
                          refine ev_iincN (L' := [_, _, _, _, _]) 1 dX7_ownerless_68 rfl rfl ?_
                          refine ev_goto 4 dX7_ownerless_71 rfl ?_
                          refine ev_pc (pc' := 4) rfl ?_
                          refine ev_fgt 4 (L' := [_, _, _, _, _]) rfl ?_
                          exact ih _ (by omega) (k + 1) rfl (by omega))
                   · refine ev_aload_n dX7_ownerless_48 rfl rfl ?_
                     refine ev_getfield dX7_ownerless_49 lf_7_7 m0 rfl ?_
                     refine ev_sipush (nI 491) dX7_ownerless_52 rfl ?_
                     refine ev_iload_n dX7_ownerless_55 rfl rfl ?_
                     refine ev_iaddN dX7_ownerless_56 ?_
                     refine ev_ialoadF dX7_ownerless_57 m1 (by omega) (by decide) ?_
                     refine ev_goto 66 dX7_ownerless_58 rfl ?_
                     refine ev_pc (pc' := 66) rfl ?_
                     first
                       | (have hb : b = true := hc45
                          have e := (owlM_y (b := b) e2)
                          rw [if_pos hb] at e
                          refine ev_iaddN dX7_ownerless_66 ?_
                          refine ev_L (st' := [.int (nI (owlM gz b (k + 1)))]) rfl (by first | (rw [e]; done) | (rw [e]; rfl)) ?_
                          refine ev_istore_n (L' := [_, _, _, _, _]) dX7_ownerless_67 rfl (Nat.le_of_ble_eq_true rfl) rfl ?_
                          refine ev_iincN (L' := [_, _, _, _, _]) 1 dX7_ownerless_68 rfl rfl ?_
                          refine ev_goto 4 dX7_ownerless_71 rfl ?_
                          refine ev_pc (pc' := 4) rfl ?_
                          refine ev_fgt 4 (L' := [_, _, _, _, _]) rfl ?_
                          exact ih _ (by omega) (k + 1) rfl (by omega))
                       | (have hb : b = false := hc45
                          have e := (owlM_y (b := b) e2)
                          rw [if_neg (by rw [hb]; decide)] at e
                          refine ev_iaddN dX7_ownerless_66 ?_
                          refine ev_L (st' := [.int (nI (owlM gz b (k + 1)))]) rfl (by first | (rw [e]; done) | (rw [e]; rfl)) ?_
                          refine ev_istore_n (L' := [_, _, _, _, _]) dX7_ownerless_67 rfl (Nat.le_of_ble_eq_true rfl) rfl ?_
                          refine ev_iincN (L' := [_, _, _, _, _]) 1 dX7_ownerless_68 rfl rfl ?_
                          refine ev_goto 4 dX7_ownerless_71 rfl ?_
                          refine ev_pc (pc' := 4) rfl ?_
                          refine ev_fgt 4 (L' := [_, _, _, _, _]) rfl ?_
                          exact ih _ (by omega) (k + 1) rfl (by omega)))
              | (have e2 : owlP gz k = false := by first | exact owlP_n1 hc15 | exact owlP_n2 hc28
                 refine ev_istore (L' := [_, _, _, _, _]) dX7_ownerless_36 (Nat.le_of_ble_eq_true rfl) rfl ?_
                 refine ev_iload_n dX7_ownerless_38 rfl rfl ?_
                 refine ev_iload dX7_ownerless_39 rfl ?_
                 refine ev_if_eqN 65 dX7_ownerless_41 rfl (by omega) (fun hc41 => ?_) (fun hc41 => ?_)
                 · refine ev_iconst (nI 0) dX7_ownerless_65 rfl ?_
                   refine ev_pc (pc' := 66) rfl ?_
                   have e := (owlM_n (b := b) e2)
                   refine ev_iaddN dX7_ownerless_66 ?_
                   refine ev_L (st' := [.int (nI (owlM gz b (k + 1)))]) rfl (by first | (rw [e]; done) | (rw [e]; rfl)) ?_
                   refine ev_istore_n (L' := [_, _, _, _, _]) dX7_ownerless_67 rfl (Nat.le_of_ble_eq_true rfl) rfl ?_
                   refine ev_iincN (L' := [_, _, _, _, _]) 1 dX7_ownerless_68 rfl rfl ?_
                   refine ev_goto 4 dX7_ownerless_71 rfl ?_
                   refine ev_pc (pc' := 4) rfl ?_
                   refine ev_fgt 4 (L' := [_, _, _, _, _]) rfl ?_
                   exact ih _ (by omega) (k + 1) rfl (by omega)
                 · refine ev_pc (pc' := 44) rfl ?_
                   exact absurd rfl hc41)
          · refine ev_iconst (nI 1) dX7_ownerless_31 rfl ?_
            refine ev_goto 36 dX7_ownerless_32 rfl ?_
            refine ev_pc (pc' := 36) rfl ?_
            first
              | (have e2 := owlP_y (gz := gz) (k := k) hc15 hc28
                 refine ev_istore (L' := [_, _, _, _, _]) dX7_ownerless_36 (Nat.le_of_ble_eq_true rfl) rfl ?_
                 refine ev_iload_n dX7_ownerless_38 rfl rfl ?_
                 refine ev_iload dX7_ownerless_39 rfl ?_
                 refine ev_if_eqN 65 dX7_ownerless_41 rfl (by omega) (fun hc41 => ?_) (fun hc41 => ?_)
                 · refine ev_pc (pc' := 65) rfl ?_
                   exact absurd hc41 (by decide)
                 · refine ev_iload_n dX7_ownerless_44 rfl rfl ?_
                   refine ev_if_eqB 61 dX7_ownerless_45 rfl (fun hc45 => ?_) (fun hc45 => ?_)
                   · refine ev_iconst (nI 1) dX7_ownerless_61 rfl ?_
                     refine ev_goto 66 dX7_ownerless_62 rfl ?_
                     refine ev_pc (pc' := 66) rfl ?_
                     first
                       | (have hb : b = true := hc45
                          have e := (owlM_y (b := b) e2)
                          rw [if_pos hb] at e
                          refine ev_iaddN dX7_ownerless_66 ?_
                          refine ev_L (st' := [.int (nI (owlM gz b (k + 1)))]) rfl (by first | (rw [e]; done) | (rw [e]; rfl)) ?_
                          refine ev_istore_n (L' := [_, _, _, _, _]) dX7_ownerless_67 rfl (Nat.le_of_ble_eq_true rfl) rfl ?_
                          refine ev_iincN (L' := [_, _, _, _, _]) 1 dX7_ownerless_68 rfl rfl ?_
                          refine ev_goto 4 dX7_ownerless_71 rfl ?_
                          refine ev_pc (pc' := 4) rfl ?_
                          refine ev_fgt 4 (L' := [_, _, _, _, _]) rfl ?_
                          exact ih _ (by omega) (k + 1) rfl (by omega))
                       | (have hb : b = false := hc45
                          have e := (owlM_y (b := b) e2)
                          rw [if_neg (by rw [hb]; decide)] at e
                          refine ev_iaddN dX7_ownerless_66 ?_
                          refine ev_L (st' := [.int (nI (owlM gz b (k + 1)))]) rfl (by first | (rw [e]; done) | (rw [e]; rfl)) ?_
                          refine ev_istore_n (L' := [_, _, _, _, _]) dX7_ownerless_67 rfl (Nat.le_of_ble_eq_true rfl) rfl ?_
                          refine ev_iincN (L' := [_, _, _, _, _]) 1 dX7_ownerless_68 rfl rfl ?_
                          refine ev_goto 4 dX7_ownerless_71 rfl ?_
                          refine ev_pc (pc' := 4) rfl ?_
                          refine ev_fgt 4 (L' := [_, _, _, _, _]) rfl ?_
                          exact ih _ (by omega) (k + 1) rfl (by omega))
                   · refine ev_aload_n dX7_ownerless_48 rfl rfl ?_
                     refine ev_getfield dX7_ownerless_49 lf_7_7 m0 rfl ?_
                     refine ev_sipush (nI 491) dX7_ownerless_52 rfl ?_
                     refine ev_iload_n dX7_ownerless_55 rfl rfl ?_
                     refine ev_iaddN dX7_ownerless_56 ?_
                     refine ev_ialoadF dX7_ownerless_57 m1 (by omega) (by decide) ?_
                     refine ev_goto 66 dX7_ownerless_58 rfl ?_
                     refine ev_pc (pc' := 66) rfl ?_
                     first
                       | (have hb : b = true := hc45
                          have e := (owlM_y (b := b) e2)
                          rw [if_pos hb] at e
                          refine ev_iaddN dX7_ownerless_66 ?_
                          refine ev_L (st' := [.int (nI (owlM gz b (k + 1)))]) rfl (by first | (rw [e]; done) | (rw [e]; rfl)) ?_
                          refine ev_istore_n (L' := [_, _, _, _, _]) dX7_ownerless_67 rfl (Nat.le_of_ble_eq_true rfl) rfl ?_
                          refine ev_iincN (L' := [_, _, _, _, _]) 1 dX7_ownerless_68 rfl rfl ?_
                          refine ev_goto 4 dX7_ownerless_71 rfl ?_
                          refine ev_pc (pc' := 4) rfl ?_
                          refine ev_fgt 4 (L' := [_, _, _, _, _]) rfl ?_
                          exact ih _ (by omega) (k + 1) rfl (by omega))
                       | (have hb : b = false := hc45
                          have e := (owlM_y (b := b) e2)
                          rw [if_neg (by rw [hb]; decide)] at e
                          refine ev_iaddN dX7_ownerless_66 ?_
                          refine ev_L (st' := [.int (nI (owlM gz b (k + 1)))]) rfl (by first | (rw [e]; done) | (rw [e]; rfl)) ?_
                          refine ev_istore_n (L' := [_, _, _, _, _]) dX7_ownerless_67 rfl (Nat.le_of_ble_eq_true rfl) rfl ?_
                          refine ev_iincN (L' := [_, _, _, _, _]) 1 dX7_ownerless_68 rfl rfl ?_
                          refine ev_goto 4 dX7_ownerless_71 rfl ?_
                          refine ev_pc (pc' := 4) rfl ?_
                          refine ev_fgt 4 (L' := [_, _, _, _, _]) rfl ?_
                          exact ih _ (by omega) (k + 1) rfl (by omega)))
              | (have e2 : owlP gz k = false := by first | exact owlP_n1 hc15 | exact owlP_n2 hc28
                 refine ev_istore (L' := [_, _, _, _, _]) dX7_ownerless_36 (Nat.le_of_ble_eq_true rfl) rfl ?_
                 refine ev_iload_n dX7_ownerless_38 rfl rfl ?_
                 refine ev_iload dX7_ownerless_39 rfl ?_
                 refine ev_if_eqN 65 dX7_ownerless_41 rfl (by omega) (fun hc41 => ?_) (fun hc41 => ?_)
                 · refine ev_iconst (nI 0) dX7_ownerless_65 rfl ?_
                   refine ev_pc (pc' := 66) rfl ?_
                   have e := (owlM_n (b := b) e2)
                   refine ev_iaddN dX7_ownerless_66 ?_
                   refine ev_L (st' := [.int (nI (owlM gz b (k + 1)))]) rfl (by first | (rw [e]; done) | (rw [e]; rfl)) ?_
                   refine ev_istore_n (L' := [_, _, _, _, _]) dX7_ownerless_67 rfl (Nat.le_of_ble_eq_true rfl) rfl ?_
                   refine ev_iincN (L' := [_, _, _, _, _]) 1 dX7_ownerless_68 rfl rfl ?_
                   refine ev_goto 4 dX7_ownerless_71 rfl ?_
                   refine ev_pc (pc' := 4) rfl ?_
                   refine ev_fgt 4 (L' := [_, _, _, _, _]) rfl ?_
                   exact ih _ (by omega) (k + 1) rfl (by omega)
                 · refine ev_pc (pc' := 44) rfl ?_
                   exact absurd rfl hc41)
  exact LP4 _ 0 rfl (Nat.zero_le _)
