def shpM (gz : Nat → Nat) (t u n : Nat) : Nat := ctN (fun k => (decide (0 < gz (491 + k)) && hasM gz t k (gz (7 + t))) && hasM gz u k (gz (7 + u))) n
set_option maxHeartbeats 4000000 in
set_option maxRecDepth 100000 in
theorem k_sharedPieces {X : mX} {h : mH} {gz : Nat → Nat} {gc : Nat → Int64} {gs : Nat} {gh : Nat → Nat} {gk : Nat → Int64} {gl : Nat} {gb : Nat → Nat} {gt : Nat} {gr : Nat → Nat} {gm : Nat} {gp : Nat → Int64} {gq : Nat → Nat} {ge : Nat → Nat} {gn : Nat} {go : Nat → Nat} {gu : Nat} {gi : Bool} {ga : Nat → Int64} {gv : Nat → Nat} {gw : Nat} {gx : Int64} (hm : MN h gz gc gs gh gk gl gb gt gr gm gp gq ge gn go gu gi ga gv gw gx) (hkp : KpB gz) (hxs : ∀ t, t < 4 → TxB gz t) (t u : Nat) (ht : t < 4) (hu : u < 4) : CnP X m_X7_sharedPieces [.ref 270, .int (nI t), .int (nI u)] h (some (.int (nI (shpM gz t u 60)))) := by
  obtain ⟨m0, m1, m2, m3, m4, m5, m6, m7, m8, m9, m10, m11, m12⟩ := id hm
  refine cn_of_ev (L0 := [_, _, _, _, _]) (by decide +kernel) rfl rfl (Nat.le_of_ble_eq_true rfl) rfl ?_
  refine ev_iconst (nI 0) dX7_sharedPieces_0 rfl ?_
  refine ev_istore_n (L' := [_, _, _, _, _]) dX7_sharedPieces_1 rfl (Nat.le_of_ble_eq_true rfl) rfl ?_
  refine ev_iconst (nI 0) dX7_sharedPieces_2 rfl ?_
  refine ev_istore (L' := [_, _, _, _, _]) dX7_sharedPieces_3 (Nat.le_of_ble_eq_true rfl) rfl ?_
  refine ev_pc (pc' := 5) rfl ?_
  have LP5 : ∀ (mz : Nat) (k : Nat), 60 - k = mz → (k ≤ 60) → Ev X m_X7_sharedPieces B0 5 [.ref 270, .int (nI t), .int (nI u), .int (nI (shpM gz t u k)), .int (nI k)] [] h (fun o h1 => o = .inl (some (.int (nI (shpM gz t u 60)))) ∧ h1 = h) := by
    intro mz
    induction mz using Nat.strongRecOn with
    | _ mz ih =>
      intro k hmz hk
      have hkk := hkp k
      refine ev_iload dX7_sharedPieces_5 rfl ?_
      refine ev_bipush (nI 60) dX7_sharedPieces_7 rfl ?_
      refine ev_icmp_geN 55 dX7_sharedPieces_9 rfl (by omega) (by omega) (fun hc9 => ?_) (fun hc9 => ?_)
      · refine ev_iload_n dX7_sharedPieces_55 rfl rfl ?_
        refine ev_ireturn dX7_sharedPieces_56 rfl (Or.inl rfl) (Nat.zero_le _) (Nat.zero_le _) ?_
        rw [show 60 = k by omega]
        exact ⟨rfl, rfl⟩
      · refine ev_iload_n dX7_sharedPieces_12 rfl rfl ?_
        refine ev_aload_n dX7_sharedPieces_13 rfl rfl ?_
        refine ev_iload dX7_sharedPieces_14 rfl ?_
        refine ev_callVP1 dX7_sharedPieces_16 cal_X7_isKept lk_7_82 ⟨(Nat.le_of_ble_eq_true rfl), (Nat.le_of_ble_eq_true rfl)⟩ rfl m0 (Nat.le_of_ble_eq_true rfl) (k_isKept hm k (by omega) (by have := hkk (by omega); omega)) ?_
        refine ev_if_eqB 46 dX7_sharedPieces_19 rfl (fun hc19 => ?_) (fun hc19 => ?_)
        · refine ev_iconst (nI 0) dX7_sharedPieces_46 rfl ?_
          refine ev_pc (pc' := 47) rfl ?_
          first
            | (have e : shpM gz t u (k + 1) = shpM gz t u k + 1 := ctN_y (p := (fun k => (decide (0 < gz (491 + k)) && hasM gz t k (gz (7 + t))) && hasM gz u k (gz (7 + u)))) (n := k) (and_tt (and_tt hc19 hc29) hc39)
               refine ev_iaddN dX7_sharedPieces_47 ?_
               refine ev_L (st' := [.int (nI (shpM gz t u (k + 1)))]) rfl (by first | (rw [e]; done) | (rw [e]; rfl)) ?_
               refine ev_istore_n (L' := [_, _, _, _, _]) dX7_sharedPieces_48 rfl (Nat.le_of_ble_eq_true rfl) rfl ?_
               refine ev_iincN (L' := [_, _, _, _, _]) 1 dX7_sharedPieces_49 rfl rfl ?_
               refine ev_goto 5 dX7_sharedPieces_52 rfl ?_
               refine ev_pc (pc' := 5) rfl ?_
               exact ih _ (by omega) (k + 1) rfl (by omega))
            | (have e : shpM gz t u (k + 1) = shpM gz t u k := ctN_n (p := (fun k => (decide (0 < gz (491 + k)) && hasM gz t k (gz (7 + t))) && hasM gz u k (gz (7 + u)))) (n := k) ((by first | exact and_f1 (and_f1 hc19) | exact and_f1 (and_f2 hc29) | exact and_f2 hc39))
               refine ev_iaddN dX7_sharedPieces_47 ?_
               refine ev_L (st' := [.int (nI (shpM gz t u (k + 1)))]) rfl (by first | (rw [e]; done) | (rw [e]; rfl)) ?_
               refine ev_istore_n (L' := [_, _, _, _, _]) dX7_sharedPieces_48 rfl (Nat.le_of_ble_eq_true rfl) rfl ?_
               refine ev_iincN (L' := [_, _, _, _, _]) 1 dX7_sharedPieces_49 rfl rfl ?_
               refine ev_goto 5 dX7_sharedPieces_52 rfl ?_
               refine ev_pc (pc' := 5) rfl ?_
               exact ih _ (by omega) (k + 1) rfl (by omega))
        · refine ev_aload_n dX7_sharedPieces_22 rfl rfl ?_
          refine ev_iload_n dX7_sharedPieces_23 rfl rfl ?_
          refine ev_iload dX7_sharedPieces_24 rfl ?_
          refine ev_callVP2 dX7_sharedPieces_26 cal_X7_has lk_7_201 ⟨(Nat.le_of_ble_eq_true rfl), (Nat.le_of_ble_eq_true rfl)⟩ rfl m0 (Nat.le_of_ble_eq_true rfl) (k_has hm t ht (hxs t ht) k (by omega)) ?_
          refine ev_if_eqB 46 dX7_sharedPieces_29 rfl (fun hc29 => ?_) (fun hc29 => ?_)
          · refine ev_iconst (nI 0) dX7_sharedPieces_46 rfl ?_
            refine ev_pc (pc' := 47) rfl ?_
            first
              | (have e : shpM gz t u (k + 1) = shpM gz t u k + 1 := ctN_y (p := (fun k => (decide (0 < gz (491 + k)) && hasM gz t k (gz (7 + t))) && hasM gz u k (gz (7 + u)))) (n := k) (and_tt (and_tt hc19 hc29) hc39)
                 refine ev_iaddN dX7_sharedPieces_47 ?_
                 refine ev_L (st' := [.int (nI (shpM gz t u (k + 1)))]) rfl (by first | (rw [e]; done) | (rw [e]; rfl)) ?_
                 refine ev_istore_n (L' := [_, _, _, _, _]) dX7_sharedPieces_48 rfl (Nat.le_of_ble_eq_true rfl) rfl ?_
                 refine ev_iincN (L' := [_, _, _, _, _]) 1 dX7_sharedPieces_49 rfl rfl ?_
                 refine ev_goto 5 dX7_sharedPieces_52 rfl ?_
                 refine ev_pc (pc' := 5) rfl ?_
                 exact ih _ (by omega) (k + 1) rfl (by omega))
              | (have e : shpM gz t u (k + 1) = shpM gz t u k := ctN_n (p := (fun k => (decide (0 < gz (491 + k)) && hasM gz t k (gz (7 + t))) && hasM gz u k (gz (7 + u)))) (n := k) ((by first | exact and_f1 (and_f1 hc19) | exact and_f1 (and_f2 hc29) | exact and_f2 hc39))
                 refine ev_iaddN dX7_sharedPieces_47 ?_
                 refine ev_L (st' := [.int (nI (shpM gz t u (k + 1)))]) rfl (by first | (rw [e]; done) | (rw [e]; rfl)) ?_
                 refine ev_istore_n (L' := [_, _, _, _, _]) dX7_sharedPieces_48 rfl (Nat.le_of_ble_eq_true rfl) rfl ?_
                 refine ev_iincN (L' := [_, _, _, _, _]) 1 dX7_sharedPieces_49 rfl rfl ?_
                 refine ev_goto 5 dX7_sharedPieces_52 rfl ?_
                 refine ev_pc (pc' := 5) rfl ?_
                 exact ih _ (by omega) (k + 1) rfl (by omega))
          · refine ev_aload_n dX7_sharedPieces_32 rfl rfl ?_
            refine ev_iload_n dX7_sharedPieces_33 rfl rfl ?_
            refine ev_iload dX7_sharedPieces_34 rfl ?_
            refine ev_callVP2 dX7_sharedPieces_36 cal_X7_has lk_7_201 ⟨(Nat.le_of_ble_eq_true rfl), (Nat.le_of_ble_eq_true rfl)⟩ rfl m0 (Nat.le_of_ble_eq_true rfl) (k_has hm u hu (hxs u hu) k (by omega)) ?_
            refine ev_if_eqB 46 dX7_sharedPieces_39 rfl (fun hc39 => ?_) (fun hc39 => ?_)
            · refine ev_iconst (nI 0) dX7_sharedPieces_46 rfl ?_
              refine ev_pc (pc' := 47) rfl ?_
              first
                | (have e : shpM gz t u (k + 1) = shpM gz t u k + 1 := ctN_y (p := (fun k => (decide (0 < gz (491 + k)) && hasM gz t k (gz (7 + t))) && hasM gz u k (gz (7 + u)))) (n := k) (and_tt (and_tt hc19 hc29) hc39)
                   refine ev_iaddN dX7_sharedPieces_47 ?_
                   refine ev_L (st' := [.int (nI (shpM gz t u (k + 1)))]) rfl (by first | (rw [e]; done) | (rw [e]; rfl)) ?_
                   refine ev_istore_n (L' := [_, _, _, _, _]) dX7_sharedPieces_48 rfl (Nat.le_of_ble_eq_true rfl) rfl ?_
                   refine ev_iincN (L' := [_, _, _, _, _]) 1 dX7_sharedPieces_49 rfl rfl ?_
                   refine ev_goto 5 dX7_sharedPieces_52 rfl ?_
                   refine ev_pc (pc' := 5) rfl ?_
                   exact ih _ (by omega) (k + 1) rfl (by omega))
                | (have e : shpM gz t u (k + 1) = shpM gz t u k := ctN_n (p := (fun k => (decide (0 < gz (491 + k)) && hasM gz t k (gz (7 + t))) && hasM gz u k (gz (7 + u)))) (n := k) ((by first | exact and_f1 (and_f1 hc19) | exact and_f1 (and_f2 hc29) | exact and_f2 hc39))
                   refine ev_iaddN dX7_sharedPieces_47 ?_
                   refine ev_L (st' := [.int (nI (shpM gz t u (k + 1)))]) rfl (by first | (rw [e]; done) | (rw [e]; rfl)) ?_
                   refine ev_istore_n (L' := [_, _, _, _, _]) dX7_sharedPieces_48 rfl (Nat.le_of_ble_eq_true rfl) rfl ?_
                   refine ev_iincN (L' := [_, _, _, _, _]) 1 dX7_sharedPieces_49 rfl rfl ?_
                   refine ev_goto 5 dX7_sharedPieces_52 rfl ?_
                   refine ev_pc (pc' := 5) rfl ?_
                   exact ih _ (by omega) (k + 1) rfl (by omega))
            · refine ev_iconst (nI 1) dX7_sharedPieces_42 rfl ?_
              refine ev_goto 47 dX7_sharedPieces_43 rfl ?_
              refine ev_pc (pc' := 47) rfl ?_
              first
                | (have e : shpM gz t u (k + 1) = shpM gz t u k + 1 := ctN_y (p := (fun k => (decide (0 < gz (491 + k)) && hasM gz t k (gz (7 + t))) && hasM gz u k (gz (7 + u)))) (n := k) (and_tt (and_tt hc19 hc29) hc39)
                   refine ev_iaddN dX7_sharedPieces_47 ?_
                   refine ev_L (st' := [.int (nI (shpM gz t u (k + 1)))]) rfl (by first | (rw [e]; done) | (rw [e]; rfl)) ?_
                   refine ev_istore_n (L' := [_, _, _, _, _]) dX7_sharedPieces_48 rfl (Nat.le_of_ble_eq_true rfl) rfl ?_
                   refine ev_iincN (L' := [_, _, _, _, _]) 1 dX7_sharedPieces_49 rfl rfl ?_
                   refine ev_goto 5 dX7_sharedPieces_52 rfl ?_
                   refine ev_pc (pc' := 5) rfl ?_
                   exact ih _ (by omega) (k + 1) rfl (by omega))
                | (have e : shpM gz t u (k + 1) = shpM gz t u k := ctN_n (p := (fun k => (decide (0 < gz (491 + k)) && hasM gz t k (gz (7 + t))) && hasM gz u k (gz (7 + u)))) (n := k) ((by first | exact and_f1 (and_f1 hc19) | exact and_f1 (and_f2 hc29) | exact and_f2 hc39))
                   refine ev_iaddN dX7_sharedPieces_47 ?_
                   refine ev_L (st' := [.int (nI (shpM gz t u (k + 1)))]) rfl (by first | (rw [e]; done) | (rw [e]; rfl)) ?_
                   refine ev_istore_n (L' := [_, _, _, _, _]) dX7_sharedPieces_48 rfl (Nat.le_of_ble_eq_true rfl) rfl ?_
                   refine ev_iincN (L' := [_, _, _, _, _]) 1 dX7_sharedPieces_49 rfl rfl ?_
                   refine ev_goto 5 dX7_sharedPieces_52 rfl ?_
                   refine ev_pc (pc' := 5) rfl ?_
                   exact ih _ (by omega) (k + 1) rfl (by omega))
  exact LP5 _ 0 rfl (Nat.zero_le _)
