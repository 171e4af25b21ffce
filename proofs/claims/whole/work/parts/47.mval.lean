set_option maxHeartbeats 4000000 in
set_option maxRecDepth 100000 in
theorem k_isValue {X : mX} {h : mH}  (k : Nat) (hk : k < 5) (t : Int32) : CnP X m_X7_isValue [.int (nI k), .int t] h (some (.int (bI (inX t (lowF k) (higF k + 1))))) := by
  refine cn_of_ev (L0 := [_, _]) (by decide +kernel) rfl rfl (Nat.le_of_ble_eq_true rfl) rfl ?_
  refine ev_iload_n dX7_isValue_0 rfl rfl ?_
  refine ev_pc (pc' := 1) rfl ?_
  obtain rfl | rfl | rfl | rfl | rfl : k = 0 ∨ k = 1 ∨ k = 2 ∨ k = 3 ∨ k = 4 := by omega
  · refine ev_tableIn 32 dX7_isValue_1 (by decide) (by decide) rfl rfl ?_
    refine ev_iload_n dX7_isValue_32 rfl rfl ?_
    refine ev_iconst (nI 1) dX7_isValue_33 rfl ?_
    refine ev_bipush (nI 6) dX7_isValue_34 rfl ?_
    refine ev_callSP3 dX7_isValue_36 cal_X7_within lk_7_54 ⟨(Nat.le_of_ble_eq_true rfl), (Nat.le_of_ble_eq_true rfl)⟩ rfl (Nat.le_of_ble_eq_true rfl) (k_within t (nI 1) (nI 6)) ?_
    refine ev_zreturn dX7_isValue_39 rfl (by first | rfl | exact bI_nar _) (Or.inl rfl) (Nat.zero_le _) (Nat.zero_le _) ?_
    rw [show decide (nI 1 ≤ t ∧ t ≤ nI 6) = inX t 1 (6 + 1) from wth_inX (by decide) (by decide)]
    exact ⟨rfl, rfl⟩
  · refine ev_tableIn 40 dX7_isValue_1 (by decide) (by decide) rfl rfl ?_
    refine ev_iload_n dX7_isValue_40 rfl rfl ?_
    refine ev_iconst (nI 1) dX7_isValue_41 rfl ?_
    refine ev_bipush (nI 9) dX7_isValue_42 rfl ?_
    refine ev_callSP3 dX7_isValue_44 cal_X7_within lk_7_54 ⟨(Nat.le_of_ble_eq_true rfl), (Nat.le_of_ble_eq_true rfl)⟩ rfl (Nat.le_of_ble_eq_true rfl) (k_within t (nI 1) (nI 9)) ?_
    refine ev_zreturn dX7_isValue_47 rfl (by first | rfl | exact bI_nar _) (Or.inl rfl) (Nat.zero_le _) (Nat.zero_le _) ?_
    rw [show decide (nI 1 ≤ t ∧ t ≤ nI 9) = inX t 1 (9 + 1) from wth_inX (by decide) (by decide)]
    exact ⟨rfl, rfl⟩
  · refine ev_tableIn 48 dX7_isValue_1 (by decide) (by decide) rfl rfl ?_
    refine ev_iload_n dX7_isValue_48 rfl rfl ?_
    refine ev_iconst (nI 0) dX7_isValue_49 rfl ?_
    refine ev_bipush (nI 8) dX7_isValue_50 rfl ?_
    refine ev_callSP3 dX7_isValue_52 cal_X7_within lk_7_54 ⟨(Nat.le_of_ble_eq_true rfl), (Nat.le_of_ble_eq_true rfl)⟩ rfl (Nat.le_of_ble_eq_true rfl) (k_within t (nI 0) (nI 8)) ?_
    refine ev_zreturn dX7_isValue_55 rfl (by first | rfl | exact bI_nar _) (Or.inl rfl) (Nat.zero_le _) (Nat.zero_le _) ?_
    rw [show decide (nI 0 ≤ t ∧ t ≤ nI 8) = inX t 0 (8 + 1) from wth_inX (by decide) (by decide)]
    exact ⟨rfl, rfl⟩
  · refine ev_tableIn 32 dX7_isValue_1 (by decide) (by decide) rfl rfl ?_
    refine ev_iload_n dX7_isValue_32 rfl rfl ?_
    refine ev_iconst (nI 1) dX7_isValue_33 rfl ?_
    refine ev_bipush (nI 6) dX7_isValue_34 rfl ?_
    refine ev_callSP3 dX7_isValue_36 cal_X7_within lk_7_54 ⟨(Nat.le_of_ble_eq_true rfl), (Nat.le_of_ble_eq_true rfl)⟩ rfl (Nat.le_of_ble_eq_true rfl) (k_within t (nI 1) (nI 6)) ?_
    refine ev_zreturn dX7_isValue_39 rfl (by first | rfl | exact bI_nar _) (Or.inl rfl) (Nat.zero_le _) (Nat.zero_le _) ?_
    rw [show decide (nI 1 ≤ t ∧ t ≤ nI 6) = inX t 1 (6 + 1) from wth_inX (by decide) (by decide)]
    exact ⟨rfl, rfl⟩
  · refine ev_tableOut 56 dX7_isValue_1 (Or.inr (by decide)) rfl ?_
    refine ev_iload_n dX7_isValue_56 rfl rfl ?_
    refine ev_bipush (nI 6) dX7_isValue_57 rfl ?_
    refine ev_bipush (nI 20) dX7_isValue_59 rfl ?_
    refine ev_callSP3 dX7_isValue_61 cal_X7_within lk_7_54 ⟨(Nat.le_of_ble_eq_true rfl), (Nat.le_of_ble_eq_true rfl)⟩ rfl (Nat.le_of_ble_eq_true rfl) (k_within t (nI 6) (nI 20)) ?_
    refine ev_zreturn dX7_isValue_64 rfl (by first | rfl | exact bI_nar _) (Or.inl rfl) (Nat.zero_le _) (Nat.zero_le _) ?_
    rw [show decide (nI 6 ≤ t ∧ t ≤ nI 20) = inX t 6 (20 + 1) from wth_inX (by decide) (by decide)]
    exact ⟨rfl, rfl⟩
def unlM (gz : Nat → Nat) (t n : Nat) : Nat := ctN (fun k => decide (0 < gz (491 + k)) && hasM gz t k (gz (7 + t))) n
theorem and_tt {a b : Bool} (h1 : a = true) (h2 : b = true) : (a && b) = true := by rw [h1, h2]; rfl
theorem and_f1 {a b : Bool} (h1 : a = false) : (a && b) = false := by rw [h1]; rfl
theorem and_f2 {a b : Bool} (h2 : b = false) : (a && b) = false := by rw [h2, Bool.and_false]
set_option maxHeartbeats 4000000 in
set_option maxRecDepth 100000 in
theorem k_unlikePieces {X : mX} {h : mH} {gz : Nat → Nat} {gc : Nat → Int64} {gs : Nat} {gh : Nat → Nat} {gk : Nat → Int64} {gl : Nat} {gb : Nat → Nat} {gt : Nat} {gr : Nat → Nat} {gm : Nat} {gp : Nat → Int64} {gq : Nat → Nat} {ge : Nat → Nat} {gn : Nat} {go : Nat → Nat} {gu : Nat} {gi : Bool} {ga : Nat → Int64} {gv : Nat → Nat} {gw : Nat} {gx : Int64} (hm : MN h gz gc gs gh gk gl gb gt gr gm gp gq ge gn go gu gi ga gv gw gx) (hkp : KpB gz) (t : Nat) (ht : t < 4) (hx : TxB gz t) : CnP X m_X7_unlikePieces [.ref 270, .int (nI t)] h (some (.int (nI (unlM gz t 60)))) := by
  obtain ⟨m0, m1, m2, m3, m4, m5, m6, m7, m8, m9, m10, m11, m12⟩ := id hm
  refine cn_of_ev (L0 := [_, _, _, _]) (by decide +kernel) rfl rfl (Nat.le_of_ble_eq_true rfl) rfl ?_
  refine ev_iconst (nI 0) dX7_unlikePieces_0 rfl ?_
  refine ev_istore_n (L' := [_, _, _, _]) dX7_unlikePieces_1 rfl (Nat.le_of_ble_eq_true rfl) rfl ?_
  refine ev_iconst (nI 0) dX7_unlikePieces_2 rfl ?_
  refine ev_istore_n (L' := [_, _, _, _]) dX7_unlikePieces_3 rfl (Nat.le_of_ble_eq_true rfl) rfl ?_
  refine ev_pc (pc' := 4) rfl ?_
  have LP4 : ∀ (mz : Nat) (k : Nat), 60 - k = mz → (k ≤ 60) → Ev X m_X7_unlikePieces B0 4 [.ref 270, .int (nI t), .int (nI (unlM gz t k)), .int (nI k)] [] h (fun o h1 => o = .inl (some (.int (nI (unlM gz t 60)))) ∧ h1 = h) := by
    intro mz
    induction mz using Nat.strongRecOn with
    | _ mz ih =>
      intro k hmz hk
      have hkk := hkp k
      refine ev_iload_n dX7_unlikePieces_4 rfl rfl ?_
      refine ev_bipush (nI 60) dX7_unlikePieces_5 rfl ?_
      refine ev_icmp_geN 41 dX7_unlikePieces_7 rfl (by omega) (by omega) (fun hc7 => ?_) (fun hc7 => ?_)
      · refine ev_iload_n dX7_unlikePieces_41 rfl rfl ?_
        refine ev_ireturn dX7_unlikePieces_42 rfl (Or.inl rfl) (Nat.zero_le _) (Nat.zero_le _) ?_
        rw [show 60 = k by omega]
        exact ⟨rfl, rfl⟩
      · refine ev_iload_n dX7_unlikePieces_10 rfl rfl ?_
        refine ev_aload_n dX7_unlikePieces_11 rfl rfl ?_
        refine ev_iload_n dX7_unlikePieces_12 rfl rfl ?_
        refine ev_callVP1 dX7_unlikePieces_13 cal_X7_isKept lk_7_82 ⟨(Nat.le_of_ble_eq_true rfl), (Nat.le_of_ble_eq_true rfl)⟩ rfl m0 (Nat.le_of_ble_eq_true rfl) (k_isKept hm k (by omega) (by have := hkk (by omega); omega)) ?_
        refine ev_if_eqB 32 dX7_unlikePieces_16 rfl (fun hc16 => ?_) (fun hc16 => ?_)
        · refine ev_iconst (nI 0) dX7_unlikePieces_32 rfl ?_
          refine ev_pc (pc' := 33) rfl ?_
          first
            | (have e : unlM gz t (k + 1) = unlM gz t k + 1 := ctN_y (p := (fun k => decide (0 < gz (491 + k)) && hasM gz t k (gz (7 + t)))) (n := k) (and_tt hc16 hc25)
               refine ev_iaddN dX7_unlikePieces_33 ?_
               refine ev_L (st' := [.int (nI (unlM gz t (k + 1)))]) rfl (by first | (rw [e]; done) | (rw [e]; rfl)) ?_
               refine ev_istore_n (L' := [_, _, _, _]) dX7_unlikePieces_34 rfl (Nat.le_of_ble_eq_true rfl) rfl ?_
               refine ev_iincN (L' := [_, _, _, _]) 1 dX7_unlikePieces_35 rfl rfl ?_
               refine ev_goto 4 dX7_unlikePieces_38 rfl ?_
               refine ev_pc (pc' := 4) rfl ?_
               exact ih _ (by omega) (k + 1) rfl (by omega))
            | (have e : unlM gz t (k + 1) = unlM gz t k := ctN_n (p := (fun k => decide (0 < gz (491 + k)) && hasM gz t k (gz (7 + t)))) (n := k) ((by first | exact and_f1 hc16 | exact and_f2 hc25))
               refine ev_iaddN dX7_unlikePieces_33 ?_
               refine ev_L (st' := [.int (nI (unlM gz t (k + 1)))]) rfl (by first | (rw [e]; done) | (rw [e]; rfl)) ?_
               refine ev_istore_n (L' := [_, _, _, _]) dX7_unlikePieces_34 rfl (Nat.le_of_ble_eq_true rfl) rfl ?_
               refine ev_iincN (L' := [_, _, _, _]) 1 dX7_unlikePieces_35 rfl rfl ?_
               refine ev_goto 4 dX7_unlikePieces_38 rfl ?_
               refine ev_pc (pc' := 4) rfl ?_
               exact ih _ (by omega) (k + 1) rfl (by omega))
        · refine ev_aload_n dX7_unlikePieces_19 rfl rfl ?_
          refine ev_iload_n dX7_unlikePieces_20 rfl rfl ?_
          refine ev_iload_n dX7_unlikePieces_21 rfl rfl ?_
          refine ev_callVP2 dX7_unlikePieces_22 cal_X7_has lk_7_201 ⟨(Nat.le_of_ble_eq_true rfl), (Nat.le_of_ble_eq_true rfl)⟩ rfl m0 (Nat.le_of_ble_eq_true rfl) (k_has hm t ht hx k (by omega)) ?_
          refine ev_if_eqB 32 dX7_unlikePieces_25 rfl (fun hc25 => ?_) (fun hc25 => ?_)
          · refine ev_iconst (nI 0) dX7_unlikePieces_32 rfl ?_
            refine ev_pc (pc' := 33) rfl ?_
            first
              | (have e : unlM gz t (k + 1) = unlM gz t k + 1 := ctN_y (p := (fun k => decide (0 < gz (491 + k)) && hasM gz t k (gz (7 + t)))) (n := k) (and_tt hc16 hc25)
                 refine ev_iaddN dX7_unlikePieces_33 ?_
                 refine ev_L (st' := [.int (nI (unlM gz t (k + 1)))]) rfl (by first | (rw [e]; done) | (rw [e]; rfl)) ?_
                 refine ev_istore_n (L' := [_, _, _, _]) dX7_unlikePieces_34 rfl (Nat.le_of_ble_eq_true rfl) rfl ?_
                 refine ev_iincN (L' := [_, _, _, _]) 1 dX7_unlikePieces_35 rfl rfl ?_
                 refine ev_goto 4 dX7_unlikePieces_38 rfl ?_
                 refine ev_pc (pc' := 4) rfl ?_
                 exact ih _ (by omega) (k + 1) rfl (by omega))
              | (have e : unlM gz t (k + 1) = unlM gz t k := ctN_n (p := (fun k => decide (0 < gz (491 + k)) && hasM gz t k (gz (7 + t)))) (n := k) ((by first | exact and_f1 hc16 | exact and_f2 hc25))
                 refine ev_iaddN dX7_unlikePieces_33 ?_
                 refine ev_L (st' := [.int (nI (unlM gz t (k + 1)))]) rfl (by first | (rw [e]; done) | (rw [e]; rfl)) ?_
                 refine ev_istore_n (L' := [_, _, _, _]) dX7_unlikePieces_34 rfl (Nat.le_of_ble_eq_true rfl) rfl ?_
                 refine ev_iincN (L' := [_, _, _, _]) 1 dX7_unlikePieces_35 rfl rfl ?_
                 refine ev_goto 4 dX7_unlikePieces_38 rfl ?_
                 refine ev_pc (pc' := 4) rfl ?_
                 exact ih _ (by omega) (k + 1) rfl (by omega))
          · refine ev_iconst (nI 1) dX7_unlikePieces_28 rfl ?_
            refine ev_goto 33 dX7_unlikePieces_29 rfl ?_
            refine ev_pc (pc' := 33) rfl ?_
            first
              | (have e : unlM gz t (k + 1) = unlM gz t k + 1 := ctN_y (p := (fun k => decide (0 < gz (491 + k)) && hasM gz t k (gz (7 + t)))) (n := k) (and_tt hc16 hc25)
                 refine ev_iaddN dX7_unlikePieces_33 ?_
                 refine ev_L (st' := [.int (nI (unlM gz t (k + 1)))]) rfl (by first | (rw [e]; done) | (rw [e]; rfl)) ?_
                 refine ev_istore_n (L' := [_, _, _, _]) dX7_unlikePieces_34 rfl (Nat.le_of_ble_eq_true rfl) rfl ?_
                 refine ev_iincN (L' := [_, _, _, _]) 1 dX7_unlikePieces_35 rfl rfl ?_
                 refine ev_goto 4 dX7_unlikePieces_38 rfl ?_
                 refine ev_pc (pc' := 4) rfl ?_
                 exact ih _ (by omega) (k + 1) rfl (by omega))
              | (have e : unlM gz t (k + 1) = unlM gz t k := ctN_n (p := (fun k => decide (0 < gz (491 + k)) && hasM gz t k (gz (7 + t)))) (n := k) ((by first | exact and_f1 hc16 | exact and_f2 hc25))
                 refine ev_iaddN dX7_unlikePieces_33 ?_
                 refine ev_L (st' := [.int (nI (unlM gz t (k + 1)))]) rfl (by first | (rw [e]; done) | (rw [e]; rfl)) ?_
                 refine ev_istore_n (L' := [_, _, _, _]) dX7_unlikePieces_34 rfl (Nat.le_of_ble_eq_true rfl) rfl ?_
                 refine ev_iincN (L' := [_, _, _, _]) 1 dX7_unlikePieces_35 rfl rfl ?_
                 refine ev_goto 4 dX7_unlikePieces_38 rfl ?_
                 refine ev_pc (pc' := 4) rfl ?_
                 exact ih _ (by omega) (k + 1) rfl (by omega))
  exact LP4 _ 0 rfl (Nat.zero_le _)
