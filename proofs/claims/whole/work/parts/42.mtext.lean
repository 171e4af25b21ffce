def mkM (gz : Nat → Nat) (t j : Nat) : Nat := gz (171 + 40 * t + j)
def pcuM (gz : Nat → Nat) (t n : Nat) : Nat := ctN (fun j => decide (¬ gz (171 + 40 * t + j) = 0)) n
def frcM (gz : Nat → Nat) (t n : Nat) : Nat := ctN (fun j => decide (gz (171 + 40 * t + j) = 2)) n
def hasM (gz : Nat → Nat) (t k : Nat) (n : Nat) : Bool := exN (fun j => decide (gz (331 + 40 * t + j) = k)) n
def mskM (gz : Nat → Nat) (k n : Nat) : Nat := smN (fun t => if hasM gz t k (gz (7 + t)) = true then 2 ^ t else 0) n
theorem mskM_lt (gz : Nat → Nat) (k : Nat) : ∀ n, mskM gz k n < 2 ^ n
  | 0 => by show 0 < 1; omega
  | n + 1 => by
    have := mskM_lt gz k n
    show smN _ n + (if hasM gz n k (gz (7 + n)) = true then 2 ^ n else 0) < _
    rw [Nat.pow_succ]
    have h2 : smN (fun t => if hasM gz t k (gz (7 + t)) = true then 2 ^ t else 0) n < 2 ^ n := this
    split <;> omega
theorem decT {p : Prop} [Decidable p] (h : p) : decide p = true := decide_eq_true h
theorem decF {p : Prop} [Decidable p] (h : ¬ p) : decide p = false := decide_eq_false h
set_option maxHeartbeats 4000000 in
set_option maxRecDepth 100000 in
theorem k_piecesUpTo {X : mX} {h : mH} {gz : Nat → Nat} {gc : Nat → Int64} {gs : Nat} {gh : Nat → Nat} {gk : Nat → Int64} {gl : Nat} {gb : Nat → Nat} {gt : Nat} {gr : Nat → Nat} {gm : Nat} {gp : Nat → Int64} {gq : Nat → Nat} {ge : Nat → Nat} {gn : Nat} {go : Nat → Nat} {gu : Nat} {gi : Bool} {ga : Nat → Int64} {gv : Nat → Nat} {gw : Nat} {gx : Int64} (hm : MN h gz gc gs gh gk gl gb gt gr gm gp gq ge gn go gu gi ga gv gw gx)  (t : Nat) (ht : t < 4) (hx : TxB gz t) (n : Nat) (hn : n ≤ gz (7 + t)) : CnP X m_X7_piecesUpTo [.ref 270, .int (nI t), .int (nI n)] h (some (.int (nI (pcuM gz t n)))) := by
  obtain ⟨m0, m1, m2, m3, m4, m5, m6, m7, m8, m9, m10, m11, m12⟩ := id hm
  obtain ⟨hx1, hx2⟩ := hx
  refine cn_of_ev (L0 := [_, _, _, _, _]) (by decide +kernel) rfl rfl (Nat.le_of_ble_eq_true rfl) rfl ?_
  refine ev_iconst (nI 0) dX7_piecesUpTo_0 rfl ?_
  refine ev_istore_n (L' := [_, _, _, _, _]) dX7_piecesUpTo_1 rfl (Nat.le_of_ble_eq_true rfl) rfl ?_
  refine ev_iconst (nI 0) dX7_piecesUpTo_2 rfl ?_
  refine ev_istore (L' := [_, _, _, _, _]) dX7_piecesUpTo_3 (Nat.le_of_ble_eq_true rfl) rfl ?_
  refine ev_pc (pc' := 5) rfl ?_
  have LP5 : ∀ (mz : Nat) (k : Nat), n - k = mz → (k ≤ n) → Ev X m_X7_piecesUpTo B0 5 [.ref 270, .int (nI t), .int (nI n), .int (nI (pcuM gz t k)), .int (nI k)] [] h (fun o h1 => o = .inl (some (.int (nI (pcuM gz t n)))) ∧ h1 = h) := by
    intro mz
    induction mz using Nat.strongRecOn with
    | _ mz ih =>
      intro k hmz hk
      have hxk := hx2 k
      refine ev_iload dX7_piecesUpTo_5 rfl ?_
      refine ev_iload_n dX7_piecesUpTo_7 rfl rfl ?_
      refine ev_icmp_geN 35 dX7_piecesUpTo_8 rfl (by omega) (by omega) (fun hc8 => ?_) (fun hc8 => ?_)
      · refine ev_iload_n dX7_piecesUpTo_35 rfl rfl ?_
        refine ev_ireturn dX7_piecesUpTo_36 rfl (Or.inl rfl) (Nat.zero_le _) (Nat.zero_le _) ?_
        rw [show n = k by omega]
        exact ⟨rfl, rfl⟩
      · refine ev_iload_n dX7_piecesUpTo_11 rfl rfl ?_
        refine ev_aload_n dX7_piecesUpTo_12 rfl rfl ?_
        refine ev_iload_n dX7_piecesUpTo_13 rfl rfl ?_
        refine ev_iload dX7_piecesUpTo_14 rfl ?_
        refine ev_callVP2 dX7_piecesUpTo_16 cal_X7_markAt lk_7_92 ⟨(Nat.le_of_ble_eq_true rfl), (Nat.le_of_ble_eq_true rfl)⟩ rfl m0 (Nat.le_of_ble_eq_true rfl) (k_markAt hm t k ht (by omega)) ?_
        refine ev_if_neN 26 dX7_piecesUpTo_19 rfl (by omega) (fun hc19 => ?_) (fun hc19 => ?_)
        · refine ev_iconst (nI 1) dX7_piecesUpTo_26 rfl ?_
          refine ev_pc (pc' := 27) rfl ?_
          first
            | (have e : pcuM gz t (k + 1) = pcuM gz t k + 1 := ctN_y (p := (fun j => decide (¬ gz (171 + 40 * t + j) = 0))) (n := k) (decT hc19)
               refine ev_iaddN dX7_piecesUpTo_27 ?_
               refine ev_L (st' := [.int (nI (pcuM gz t (k + 1)))]) rfl (by first | (rw [e]; done) | (rw [e]; rfl)) ?_
               refine ev_istore_n (L' := [_, _, _, _, _]) dX7_piecesUpTo_28 rfl (Nat.le_of_ble_eq_true rfl) rfl ?_
               refine ev_iincN (L' := [_, _, _, _, _]) 1 dX7_piecesUpTo_29 rfl rfl ?_
               refine ev_goto 5 dX7_piecesUpTo_32 rfl ?_
               refine ev_pc (pc' := 5) rfl ?_
               exact ih _ (by omega) (k + 1) rfl (by omega))
            | (have e : pcuM gz t (k + 1) = pcuM gz t k := ctN_n (p := (fun j => decide (¬ gz (171 + 40 * t + j) = 0))) (n := k) (decF (fun z => z hc19))
               refine ev_iaddN dX7_piecesUpTo_27 ?_
               refine ev_L (st' := [.int (nI (pcuM gz t (k + 1)))]) rfl (by first | (rw [e]; done) | (rw [e]; rfl)) ?_
               refine ev_istore_n (L' := [_, _, _, _, _]) dX7_piecesUpTo_28 rfl (Nat.le_of_ble_eq_true rfl) rfl ?_
               refine ev_iincN (L' := [_, _, _, _, _]) 1 dX7_piecesUpTo_29 rfl rfl ?_
               refine ev_goto 5 dX7_piecesUpTo_32 rfl ?_
               refine ev_pc (pc' := 5) rfl ?_
               exact ih _ (by omega) (k + 1) rfl (by omega))
        · refine ev_iconst (nI 0) dX7_piecesUpTo_22 rfl ?_
          refine ev_goto 27 dX7_piecesUpTo_23 rfl ?_
          refine ev_pc (pc' := 27) rfl ?_
          first
            | (have e : pcuM gz t (k + 1) = pcuM gz t k + 1 := ctN_y (p := (fun j => decide (¬ gz (171 + 40 * t + j) = 0))) (n := k) (decT hc19)
               refine ev_iaddN dX7_piecesUpTo_27 ?_
               refine ev_L (st' := [.int (nI (pcuM gz t (k + 1)))]) rfl (by first | (rw [e]; done) | (rw [e]; rfl)) ?_
               refine ev_istore_n (L' := [_, _, _, _, _]) dX7_piecesUpTo_28 rfl (Nat.le_of_ble_eq_true rfl) rfl ?_
               refine ev_iincN (L' := [_, _, _, _, _]) 1 dX7_piecesUpTo_29 rfl rfl ?_
               refine ev_goto 5 dX7_piecesUpTo_32 rfl ?_
               refine ev_pc (pc' := 5) rfl ?_
               exact ih _ (by omega) (k + 1) rfl (by omega))
            | (have e : pcuM gz t (k + 1) = pcuM gz t k := ctN_n (p := (fun j => decide (¬ gz (171 + 40 * t + j) = 0))) (n := k) (decF (fun z => z hc19))
               refine ev_iaddN dX7_piecesUpTo_27 ?_
               refine ev_L (st' := [.int (nI (pcuM gz t (k + 1)))]) rfl (by first | (rw [e]; done) | (rw [e]; rfl)) ?_
               refine ev_istore_n (L' := [_, _, _, _, _]) dX7_piecesUpTo_28 rfl (Nat.le_of_ble_eq_true rfl) rfl ?_
               refine ev_iincN (L' := [_, _, _, _, _]) 1 dX7_piecesUpTo_29 rfl rfl ?_
               refine ev_goto 5 dX7_piecesUpTo_32 rfl ?_
               refine ev_pc (pc' := 5) rfl ?_
               exact ih _ (by omega) (k + 1) rfl (by omega))
  exact LP5 _ 0 rfl (Nat.zero_le _)
set_option maxHeartbeats 4000000 in
set_option maxRecDepth 100000 in
theorem k_piecesOf {X : mX} {h : mH} {gz : Nat → Nat} {gc : Nat → Int64} {gs : Nat} {gh : Nat → Nat} {gk : Nat → Int64} {gl : Nat} {gb : Nat → Nat} {gt : Nat} {gr : Nat → Nat} {gm : Nat} {gp : Nat → Int64} {gq : Nat → Nat} {ge : Nat → Nat} {gn : Nat} {go : Nat → Nat} {gu : Nat} {gi : Bool} {ga : Nat → Int64} {gv : Nat → Nat} {gw : Nat} {gx : Int64} (hm : MN h gz gc gs gh gk gl gb gt gr gm gp gq ge gn go gu gi ga gv gw gx)  (t : Nat) (ht : t < 4) (hx : TxB gz t) : CnP X m_X7_piecesOf [.ref 270, .int (nI t)] h (some (.int (nI (pcuM gz t (gz (7 + t)))))) := by
  obtain ⟨m0, m1, m2, m3, m4, m5, m6, m7, m8, m9, m10, m11, m12⟩ := id hm
  refine cn_of_ev (L0 := [_, _]) (by decide +kernel) rfl rfl (Nat.le_of_ble_eq_true rfl) rfl ?_
  refine ev_aload_n dX7_piecesOf_0 rfl rfl ?_
  refine ev_iload_n dX7_piecesOf_1 rfl rfl ?_
  refine ev_aload_n dX7_piecesOf_2 rfl rfl ?_
  refine ev_iload_n dX7_piecesOf_3 rfl rfl ?_
  refine ev_callVP1 dX7_piecesOf_4 cal_X7_signsOf lk_7_58 ⟨(Nat.le_of_ble_eq_true rfl), (Nat.le_of_ble_eq_true rfl)⟩ rfl m0 (Nat.le_of_ble_eq_true rfl) (k_signsOf hm t ht) ?_
  refine ev_callVP2 dX7_piecesOf_7 cal_X7_piecesUpTo lk_7_194 ⟨(Nat.le_of_ble_eq_true rfl), (Nat.le_of_ble_eq_true rfl)⟩ rfl m0 (Nat.le_of_ble_eq_true rfl) (k_piecesUpTo hm t ht hx _ (Nat.le_refl _)) ?_
  refine ev_ireturn dX7_piecesOf_10 rfl (Or.inl rfl) (Nat.zero_le _) (Nat.zero_le _) ?_
  exact ⟨rfl, rfl⟩
set_option maxHeartbeats 4000000 in
set_option maxRecDepth 100000 in
theorem k_forcedPieces {X : mX} {h : mH} {gz : Nat → Nat} {gc : Nat → Int64} {gs : Nat} {gh : Nat → Nat} {gk : Nat → Int64} {gl : Nat} {gb : Nat → Nat} {gt : Nat} {gr : Nat → Nat} {gm : Nat} {gp : Nat → Int64} {gq : Nat → Nat} {ge : Nat → Nat} {gn : Nat} {go : Nat → Nat} {gu : Nat} {gi : Bool} {ga : Nat → Int64} {gv : Nat → Nat} {gw : Nat} {gx : Int64} (hm : MN h gz gc gs gh gk gl gb gt gr gm gp gq ge gn go gu gi ga gv gw gx)  (t : Nat) (ht : t < 4) (hx : TxB gz t) : CnP X m_X7_forcedPieces [.ref 270, .int (nI t)] h (some (.int (nI (frcM gz t (gz (7 + t)))))) := by
  obtain ⟨m0, m1, m2, m3, m4, m5, m6, m7, m8, m9, m10, m11, m12⟩ := id hm
  obtain ⟨hx1, hx2⟩ := hx
  refine cn_of_ev (L0 := [_, _, _, _]) (by decide +kernel) rfl rfl (Nat.le_of_ble_eq_true rfl) rfl ?_
  refine ev_iconst (nI 0) dX7_forcedPieces_0 rfl ?_
  refine ev_istore_n (L' := [_, _, _, _]) dX7_forcedPieces_1 rfl (Nat.le_of_ble_eq_true rfl) rfl ?_
  refine ev_iconst (nI 0) dX7_forcedPieces_2 rfl ?_
  refine ev_istore_n (L' := [_, _, _, _]) dX7_forcedPieces_3 rfl (Nat.le_of_ble_eq_true rfl) rfl ?_
  refine ev_pc (pc' := 4) rfl ?_
  have LP4 : ∀ (mz : Nat) (k : Nat), gz (7 + t) - k = mz → (k ≤ gz (7 + t)) → Ev X m_X7_forcedPieces B0 4 [.ref 270, .int (nI t), .int (nI (frcM gz t k)), .int (nI k)] [] h (fun o h1 => o = .inl (some (.int (nI (frcM gz t (gz (7 + t)))))) ∧ h1 = h) := by
    intro mz
    induction mz using Nat.strongRecOn with
    | _ mz ih =>
      intro k hmz hk
      have hxk := hx2 k
      refine ev_iload_n dX7_forcedPieces_4 rfl rfl ?_
      refine ev_aload_n dX7_forcedPieces_5 rfl rfl ?_
      refine ev_iload_n dX7_forcedPieces_6 rfl rfl ?_
      refine ev_callVP1 dX7_forcedPieces_7 cal_X7_signsOf lk_7_58 ⟨(Nat.le_of_ble_eq_true rfl), (Nat.le_of_ble_eq_true rfl)⟩ rfl m0 (Nat.le_of_ble_eq_true rfl) (k_signsOf hm t ht) ?_
      refine ev_icmp_geN 37 dX7_forcedPieces_10 rfl (by omega) (by omega) (fun hc10 => ?_) (fun hc10 => ?_)
      · refine ev_iload_n dX7_forcedPieces_37 rfl rfl ?_
        refine ev_ireturn dX7_forcedPieces_38 rfl (Or.inl rfl) (Nat.zero_le _) (Nat.zero_le _) ?_
        rw [show gz (7 + t) = k by omega]
        exact ⟨rfl, rfl⟩
      · refine ev_iload_n dX7_forcedPieces_13 rfl rfl ?_
        refine ev_aload_n dX7_forcedPieces_14 rfl rfl ?_
        refine ev_iload_n dX7_forcedPieces_15 rfl rfl ?_
        refine ev_iload_n dX7_forcedPieces_16 rfl rfl ?_
        refine ev_callVP2 dX7_forcedPieces_17 cal_X7_markAt lk_7_92 ⟨(Nat.le_of_ble_eq_true rfl), (Nat.le_of_ble_eq_true rfl)⟩ rfl m0 (Nat.le_of_ble_eq_true rfl) (k_markAt hm t k ht (by omega)) ?_
        refine ev_iconst (nI 2) dX7_forcedPieces_20 rfl ?_
        refine ev_icmp_neN 28 dX7_forcedPieces_21 rfl (by omega) (by omega) (fun hc21 => ?_) (fun hc21 => ?_)
        · refine ev_iconst (nI 0) dX7_forcedPieces_28 rfl ?_
          refine ev_pc (pc' := 29) rfl ?_
          first
            | (have e : frcM gz t (k + 1) = frcM gz t k + 1 := ctN_y (p := (fun j => decide (gz (171 + 40 * t + j) = 2))) (n := k) (decT hc21)
               refine ev_iaddN dX7_forcedPieces_29 ?_
               refine ev_L (st' := [.int (nI (frcM gz t (k + 1)))]) rfl (by first | (rw [e]; done) | (rw [e]; rfl)) ?_
               refine ev_istore_n (L' := [_, _, _, _]) dX7_forcedPieces_30 rfl (Nat.le_of_ble_eq_true rfl) rfl ?_
               refine ev_iincN (L' := [_, _, _, _]) 1 dX7_forcedPieces_31 rfl rfl ?_
               refine ev_goto 4 dX7_forcedPieces_34 rfl ?_
               refine ev_pc (pc' := 4) rfl ?_
               exact ih _ (by omega) (k + 1) rfl (by omega))
            | (have e : frcM gz t (k + 1) = frcM gz t k := ctN_n (p := (fun j => decide (gz (171 + 40 * t + j) = 2))) (n := k) (decF hc21)
               refine ev_iaddN dX7_forcedPieces_29 ?_
               refine ev_L (st' := [.int (nI (frcM gz t (k + 1)))]) rfl (by first | (rw [e]; done) | (rw [e]; rfl)) ?_
               refine ev_istore_n (L' := [_, _, _, _]) dX7_forcedPieces_30 rfl (Nat.le_of_ble_eq_true rfl) rfl ?_
               refine ev_iincN (L' := [_, _, _, _]) 1 dX7_forcedPieces_31 rfl rfl ?_
               refine ev_goto 4 dX7_forcedPieces_34 rfl ?_
               refine ev_pc (pc' := 4) rfl ?_
               exact ih _ (by omega) (k + 1) rfl (by omega))
        · refine ev_iconst (nI 1) dX7_forcedPieces_24 rfl ?_
          refine ev_goto 29 dX7_forcedPieces_25 rfl ?_
          refine ev_pc (pc' := 29) rfl ?_
          first
            | (have e : frcM gz t (k + 1) = frcM gz t k + 1 := ctN_y (p := (fun j => decide (gz (171 + 40 * t + j) = 2))) (n := k) (decT hc21)
               refine ev_iaddN dX7_forcedPieces_29 ?_
               refine ev_L (st' := [.int (nI (frcM gz t (k + 1)))]) rfl (by first | (rw [e]; done) | (rw [e]; rfl)) ?_
               refine ev_istore_n (L' := [_, _, _, _]) dX7_forcedPieces_30 rfl (Nat.le_of_ble_eq_true rfl) rfl ?_
               refine ev_iincN (L' := [_, _, _, _]) 1 dX7_forcedPieces_31 rfl rfl ?_
               refine ev_goto 4 dX7_forcedPieces_34 rfl ?_
               refine ev_pc (pc' := 4) rfl ?_
               exact ih _ (by omega) (k + 1) rfl (by omega))
            | (have e : frcM gz t (k + 1) = frcM gz t k := ctN_n (p := (fun j => decide (gz (171 + 40 * t + j) = 2))) (n := k) (decF hc21)
               refine ev_iaddN dX7_forcedPieces_29 ?_
               refine ev_L (st' := [.int (nI (frcM gz t (k + 1)))]) rfl (by first | (rw [e]; done) | (rw [e]; rfl)) ?_
               refine ev_istore_n (L' := [_, _, _, _]) dX7_forcedPieces_30 rfl (Nat.le_of_ble_eq_true rfl) rfl ?_
               refine ev_iincN (L' := [_, _, _, _]) 1 dX7_forcedPieces_31 rfl rfl ?_
               refine ev_goto 4 dX7_forcedPieces_34 rfl ?_
               refine ev_pc (pc' := 4) rfl ?_
               exact ih _ (by omega) (k + 1) rfl (by omega))
  exact LP4 _ 0 rfl (Nat.zero_le _)
set_option maxHeartbeats 4000000 in
set_option maxRecDepth 100000 in
theorem k_has {X : mX} {h : mH} {gz : Nat → Nat} {gc : Nat → Int64} {gs : Nat} {gh : Nat → Nat} {gk : Nat → Int64} {gl : Nat} {gb : Nat → Nat} {gt : Nat} {gr : Nat → Nat} {gm : Nat} {gp : Nat → Int64} {gq : Nat → Nat} {ge : Nat → Nat} {gn : Nat} {go : Nat → Nat} {gu : Nat} {gi : Bool} {ga : Nat → Int64} {gv : Nat → Nat} {gw : Nat} {gx : Int64} (hm : MN h gz gc gs gh gk gl gb gt gr gm gp gq ge gn go gu gi ga gv gw gx)  (t : Nat) (ht : t < 4) (hx : TxB gz t) (q : Nat) (hq2 : q < 60) : CnP X m_X7_has [.ref 270, .int (nI t), .int (nI q)] h (some (.int (bI (hasM gz t q (gz (7 + t)))))) := by
  obtain ⟨m0, m1, m2, m3, m4, m5, m6, m7, m8, m9, m10, m11, m12⟩ := id hm
  obtain ⟨hx1, hx2⟩ := hx
  refine cn_of_ev (L0 := [_, _, _, _, _]) (by decide +kernel) rfl rfl (Nat.le_of_ble_eq_true rfl) rfl ?_
  refine ev_iconst (nI 0) dX7_has_0 rfl ?_
  refine ev_istore_n (L' := [_, _, _, _, _]) dX7_has_1 rfl (Nat.le_of_ble_eq_true rfl) rfl ?_
  refine ev_iconst (nI 0) dX7_has_2 rfl ?_
  refine ev_istore (L' := [_, _, _, _, _]) dX7_has_3 (Nat.le_of_ble_eq_true rfl) rfl ?_
  refine ev_pc (pc' := 5) rfl ?_
  have LP5 : ∀ (mz : Nat) (k : Nat), gz (7 + t) - k = mz → (k ≤ gz (7 + t)) → Ev X m_X7_has B0 5 [.ref 270, .int (nI t), .int (nI q), .int (bI (hasM gz t q k)), .int (nI k)] [] h (fun o h1 => o = .inl (some (.int (bI (hasM gz t q (gz (7 + t)))))) ∧ h1 = h) := by
    intro mz
    induction mz using Nat.strongRecOn with
    | _ mz ih =>
      intro k hmz hk
      have hxk := hx2 k
      refine ev_iload dX7_has_5 rfl ?_
      refine ev_aload_n dX7_has_7 rfl rfl ?_
      refine ev_iload_n dX7_has_8 rfl rfl ?_
      refine ev_callVP1 dX7_has_9 cal_X7_signsOf lk_7_58 ⟨(Nat.le_of_ble_eq_true rfl), (Nat.le_of_ble_eq_true rfl)⟩ rfl m0 (Nat.le_of_ble_eq_true rfl) (k_signsOf hm t ht) ?_
      refine ev_icmp_geN 42 dX7_has_12 rfl (by omega) (by omega) (fun hc12 => ?_) (fun hc12 => ?_)
      · refine ev_iload_n dX7_has_42 rfl rfl ?_
        refine ev_zreturn dX7_has_43 rfl (by first | rfl | exact bI_nar _) (Or.inl rfl) (Nat.zero_le _) (Nat.zero_le _) ?_
        rw [show gz (7 + t) = k by omega]
        exact ⟨rfl, rfl⟩
      · refine ev_iload_n dX7_has_15 rfl rfl ?_
        refine ev_if_neB 30 dX7_has_16 rfl (fun hc16 => ?_) (fun hc16 => ?_)
        · refine ev_iconst (nI 1) dX7_has_30 rfl ?_
          refine ev_goto 35 dX7_has_31 rfl ?_
          refine ev_pc (pc' := 35) rfl ?_
          have e : hasM gz t q (k + 1) = (hasM gz t q k || decide (gz (331 + 40 * t + k) = q)) := rfl
          first
            | rw [show nI 1 = bI (hasM gz t q (k + 1)) from by rw [e, hc16]; rfl]
            | rw [show nI 1 = bI (hasM gz t q (k + 1)) from by rw [e, decT hc27, Bool.or_true]; rfl]
            | rw [show nI 0 = bI (hasM gz t q (k + 1)) from by rw [e, hc16, decF hc27]; rfl]
          refine ev_istore_n (L' := [_, _, _, _, _]) dX7_has_35 rfl (Nat.le_of_ble_eq_true rfl) rfl ?_
          refine ev_iincN (L' := [_, _, _, _, _]) 1 dX7_has_36 rfl rfl ?_
          refine ev_goto 5 dX7_has_39 rfl ?_
          refine ev_pc (pc' := 5) rfl ?_
          exact ih _ (by omega) (k + 1) rfl (by omega)
        · refine ev_aload_n dX7_has_19 rfl rfl ?_
          refine ev_iload_n dX7_has_20 rfl rfl ?_
          refine ev_iload dX7_has_21 rfl ?_
          refine ev_callVP2 dX7_has_23 cal_X7_slotAt lk_7_95 ⟨(Nat.le_of_ble_eq_true rfl), (Nat.le_of_ble_eq_true rfl)⟩ rfl m0 (Nat.le_of_ble_eq_true rfl) (k_slotAt hm t k ht (by omega)) ?_
          refine ev_iload_n dX7_has_26 rfl rfl ?_
          refine ev_icmp_neN 34 dX7_has_27 rfl (by omega) (by omega) (fun hc27 => ?_) (fun hc27 => ?_)
          · refine ev_iconst (nI 0) dX7_has_34 rfl ?_
            refine ev_pc (pc' := 35) rfl ?_
            have e : hasM gz t q (k + 1) = (hasM gz t q k || decide (gz (331 + 40 * t + k) = q)) := rfl
            first
              | rw [show nI 1 = bI (hasM gz t q (k + 1)) from by rw [e, hc16]; rfl]
              | rw [show nI 1 = bI (hasM gz t q (k + 1)) from by rw [e, decT hc27, Bool.or_true]; rfl]
              | rw [show nI 0 = bI (hasM gz t q (k + 1)) from by rw [e, hc16, decF hc27]; rfl]
            refine ev_istore_n (L' := [_, _, _, _, _]) dX7_has_35 rfl (Nat.le_of_ble_eq_true rfl) rfl ?_
            refine ev_iincN (L' := [_, _, _, _, _]) 1 dX7_has_36 rfl rfl ?_
            refine ev_goto 5 dX7_has_39 rfl ?_
            refine ev_pc (pc' := 5) rfl ?_
            exact ih _ (by omega) (k + 1) rfl (by omega)
          · refine ev_iconst (nI 1) dX7_has_30 rfl ?_
            refine ev_goto 35 dX7_has_31 rfl ?_
            refine ev_pc (pc' := 35) rfl ?_
            have e : hasM gz t q (k + 1) = (hasM gz t q k || decide (gz (331 + 40 * t + k) = q)) := rfl
            first
              | rw [show nI 1 = bI (hasM gz t q (k + 1)) from by rw [e, hc16]; rfl]
              | rw [show nI 1 = bI (hasM gz t q (k + 1)) from by rw [e, decT hc27, Bool.or_true]; rfl]
              | rw [show nI 0 = bI (hasM gz t q (k + 1)) from by rw [e, hc16, decF hc27]; rfl]
            refine ev_istore_n (L' := [_, _, _, _, _]) dX7_has_35 rfl (Nat.le_of_ble_eq_true rfl) rfl ?_
            refine ev_iincN (L' := [_, _, _, _, _]) 1 dX7_has_36 rfl rfl ?_
            refine ev_goto 5 dX7_has_39 rfl ?_
            refine ev_pc (pc' := 5) rfl ?_
            exact ih _ (by omega) (k + 1) rfl (by omega)
  exact LP5 _ 0 rfl (Nat.zero_le _)
theorem or_0 (x : Int32) : x ||| nI 0 = x := Int32.or_zero
set_option maxHeartbeats 4000000 in
set_option maxRecDepth 100000 in
theorem k_textsWith {X : mX} {h : mH} {gz : Nat → Nat} {gc : Nat → Int64} {gs : Nat} {gh : Nat → Nat} {gk : Nat → Int64} {gl : Nat} {gb : Nat → Nat} {gt : Nat} {gr : Nat → Nat} {gm : Nat} {gp : Nat → Int64} {gq : Nat → Nat} {ge : Nat → Nat} {gn : Nat} {go : Nat → Nat} {gu : Nat} {gi : Bool} {ga : Nat → Int64} {gv : Nat → Nat} {gw : Nat} {gx : Int64} (hm : MN h gz gc gs gh gk gl gb gt gr gm gp gq ge gn go gu gi ga gv gw gx) (hxs : ∀ t, t < 4 → TxB gz t) (q : Nat) (hq2 : q < 60) : CnP X m_X7_textsWith [.ref 270, .int (nI q)] h (some (.int (nI (mskM gz q 4)))) := by
  obtain ⟨m0, m1, m2, m3, m4, m5, m6, m7, m8, m9, m10, m11, m12⟩ := id hm
  refine cn_of_ev (L0 := [_, _, _, _]) (by decide +kernel) rfl rfl (Nat.le_of_ble_eq_true rfl) rfl ?_
  refine ev_iconst (nI 0) dX7_textsWith_0 rfl ?_
  refine ev_istore_n (L' := [_, _, _, _]) dX7_textsWith_1 rfl (Nat.le_of_ble_eq_true rfl) rfl ?_
  refine ev_iconst (nI 0) dX7_textsWith_2 rfl ?_
  refine ev_istore_n (L' := [_, _, _, _]) dX7_textsWith_3 rfl (Nat.le_of_ble_eq_true rfl) rfl ?_
  refine ev_pc (pc' := 4) rfl ?_
  have LP4 : ∀ (mz : Nat) (k : Nat), 4 - k = mz → (k ≤ 4) → Ev X m_X7_textsWith B0 4 [.ref 270, .int (nI q), .int (nI (mskM gz q k)), .int (nI k)] [] h (fun o h1 => o = .inl (some (.int (nI (mskM gz q 4)))) ∧ h1 = h) := by
    intro mz
    induction mz using Nat.strongRecOn with
    | _ mz ih =>
      intro k hmz hk
      have hml := mskM_lt gz q k
      refine ev_iload_n dX7_textsWith_4 rfl rfl ?_
      refine ev_iconst (nI 4) dX7_textsWith_5 rfl ?_
      refine ev_icmp_geN 34 dX7_textsWith_6 rfl (by omega) (by omega) (fun hc6 => ?_) (fun hc6 => ?_)
      · refine ev_iload_n dX7_textsWith_34 rfl rfl ?_
        refine ev_ireturn dX7_textsWith_35 rfl (Or.inl rfl) (Nat.zero_le _) (Nat.zero_le _) ?_
        rw [show 4 = k by omega]
        exact ⟨rfl, rfl⟩
      · refine ev_iload_n dX7_textsWith_9 rfl rfl ?_
        refine ev_aload_n dX7_textsWith_10 rfl rfl ?_
        refine ev_iload_n dX7_textsWith_11 rfl rfl ?_
        refine ev_iload_n dX7_textsWith_12 rfl rfl ?_
        refine ev_callVP2 dX7_textsWith_13 cal_X7_has lk_7_201 ⟨(Nat.le_of_ble_eq_true rfl), (Nat.le_of_ble_eq_true rfl)⟩ rfl m0 (Nat.le_of_ble_eq_true rfl) (k_has hm k (by omega) (hxs k (by omega)) q hq2) ?_
        refine ev_if_eqB 25 dX7_textsWith_16 rfl (fun hc16 => ?_) (fun hc16 => ?_)
        · refine ev_pc (pc' := 25) rfl ?_
          have e : mskM gz q (k + 1) = mskM gz q k := (show smN _ k + (if hasM gz k q (gz (7 + k)) = true then 2 ^ k else 0) = _ from by rw [if_neg (by rw [hc16]; decide)]; rfl)
          refine ev_iconst (nI 0) dX7_textsWith_25 rfl ?_
          refine ev_ior dX7_textsWith_26 ?_
          rw [show nI (mskM gz q k) ||| nI 0 = nI (mskM gz q (k + 1)) from by rw [e]; exact or_0 _]
          refine ev_istore_n (L' := [_, _, _, _]) dX7_textsWith_27 rfl (Nat.le_of_ble_eq_true rfl) rfl ?_
          refine ev_iincN (L' := [_, _, _, _]) 1 dX7_textsWith_28 rfl rfl ?_
          refine ev_goto 4 dX7_textsWith_31 rfl ?_
          refine ev_pc (pc' := 4) rfl ?_
          exact ih _ (by omega) (k + 1) rfl (by omega)
        · refine ev_pc (pc' := 19) rfl ?_
          have e : mskM gz q (k + 1) = mskM gz q k + 2 ^ k := (show smN _ k + (if hasM gz k q (gz (7 + k)) = true then 2 ^ k else 0) = _ from by rw [if_pos hc16]; rfl)
          refine ev_iconst (nI 1) dX7_textsWith_19 rfl ?_
          refine ev_iload_n dX7_textsWith_20 rfl rfl ?_
          refine ev_ishl dX7_textsWith_21 ?_
          refine ev_goto 26 dX7_textsWith_22 rfl ?_
          refine ev_ior dX7_textsWith_26 ?_
          rw [msk_or k (by omega) _ hml, ← e]
          refine ev_istore_n (L' := [_, _, _, _]) dX7_textsWith_27 rfl (Nat.le_of_ble_eq_true rfl) rfl ?_
          refine ev_iincN (L' := [_, _, _, _]) 1 dX7_textsWith_28 rfl rfl ?_
          refine ev_goto 4 dX7_textsWith_31 rfl ?_
          refine ev_pc (pc' := 4) rfl ?_
          exact ih _ (by omega) (k + 1) rfl (by omega)
  exact LP4 _ 0 rfl (Nat.zero_le _)
set_option maxHeartbeats 4000000 in
set_option maxRecDepth 100000 in
theorem k_allSigns {X : mX} {h : mH} {gz : Nat → Nat} {gc : Nat → Int64} {gs : Nat} {gh : Nat → Nat} {gk : Nat → Int64} {gl : Nat} {gb : Nat → Nat} {gt : Nat} {gr : Nat → Nat} {gm : Nat} {gp : Nat → Int64} {gq : Nat → Nat} {ge : Nat → Nat} {gn : Nat} {go : Nat → Nat} {gu : Nat} {gi : Bool} {ga : Nat → Int64} {gv : Nat → Nat} {gw : Nat} {gx : Int64} (hm : MN h gz gc gs gh gk gl gb gt gr gm gp gq ge gn go gu gi ga gv gw gx)  : CnP X m_X7_allSigns [.ref 270] h (some (.int (nI (gz (7 + 0) + gz (7 + 1) + gz (7 + 2) + gz (7 + 3))))) := by
  obtain ⟨m0, m1, m2, m3, m4, m5, m6, m7, m8, m9, m10, m11, m12⟩ := id hm
  refine cn_of_ev (L0 := [_]) (by decide +kernel) rfl rfl (Nat.le_of_ble_eq_true rfl) rfl ?_
  refine ev_aload_n dX7_allSigns_0 rfl rfl ?_
  refine ev_iconst (nI 0) dX7_allSigns_1 rfl ?_
  refine ev_callVP1 dX7_allSigns_2 cal_X7_signsOf lk_7_58 ⟨(Nat.le_of_ble_eq_true rfl), (Nat.le_of_ble_eq_true rfl)⟩ rfl m0 (Nat.le_of_ble_eq_true rfl) (k_signsOf hm 0 (by decide)) ?_
  refine ev_aload_n dX7_allSigns_5 rfl rfl ?_
  refine ev_iconst (nI 1) dX7_allSigns_6 rfl ?_
  refine ev_callVP1 dX7_allSigns_7 cal_X7_signsOf lk_7_58 ⟨(Nat.le_of_ble_eq_true rfl), (Nat.le_of_ble_eq_true rfl)⟩ rfl m0 (Nat.le_of_ble_eq_true rfl) (k_signsOf hm 1 (by decide)) ?_
  refine ev_iaddN dX7_allSigns_10 ?_
  refine ev_aload_n dX7_allSigns_11 rfl rfl ?_
  refine ev_iconst (nI 2) dX7_allSigns_12 rfl ?_
  refine ev_callVP1 dX7_allSigns_13 cal_X7_signsOf lk_7_58 ⟨(Nat.le_of_ble_eq_true rfl), (Nat.le_of_ble_eq_true rfl)⟩ rfl m0 (Nat.le_of_ble_eq_true rfl) (k_signsOf hm 2 (by decide)) ?_
  refine ev_iaddN dX7_allSigns_16 ?_
  refine ev_aload_n dX7_allSigns_17 rfl rfl ?_
  refine ev_iconst (nI 3) dX7_allSigns_18 rfl ?_
  refine ev_callVP1 dX7_allSigns_19 cal_X7_signsOf lk_7_58 ⟨(Nat.le_of_ble_eq_true rfl), (Nat.le_of_ble_eq_true rfl)⟩ rfl m0 (Nat.le_of_ble_eq_true rfl) (k_signsOf hm 3 (by decide)) ?_
  refine ev_iaddN dX7_allSigns_22 ?_
  refine ev_ireturn dX7_allSigns_23 rfl (Or.inl rfl) (Nat.zero_le _) (Nat.zero_le _) ?_
  exact ⟨rfl, rfl⟩
