set_option maxHeartbeats 4000000 in
set_option maxRecDepth 100000 in
theorem c_hasAheadOf {X : mX} {h : mH} {c : Nat} {K : mCt} (hc : CutN h c K) (e : Nat) (he : e ≤ 40) (row : Int64) : CnP X m_X1_hasAheadOf [.ref c, .int (nI e), .long row] h (some (.int (bI (exN (fun p => kR K p == row) (min e (kN K)))))) := by
  obtain ⟨sg, st, le, fo, rr, ⟨x0, x1, x2, x3, x4, x5⟩, hL, hN, hS, hP⟩ := id hc
  refine cn_of_ev (L0 := [_, _, _, _, _]) (by decide +kernel) rfl rfl (Nat.le_of_ble_eq_true rfl) rfl ?_
  refine ev_iconst (nI 0) dX1_hasAheadOf_0 rfl ?_
  refine ev_istore (L' := [_, _, _, _, _]) dX1_hasAheadOf_1 (Nat.le_of_ble_eq_true rfl) rfl ?_
  refine ev_pc (pc' := 3) rfl ?_
  have LP3 : ∀ (n : Nat) (k : Nat), kN K - k = n → (k ≤ min e (kN K)) → (∀ q, q < k → ¬ kR K q = row) → Ev X m_X1_hasAheadOf B0 3 [.ref c, .int (nI e), .long row, jk, .int (nI k)] [] h (fun o h1 => o = .inl (some (.int (bI (exN (fun p => kR K p == row) (min e (kN K)))))) ∧ h1 = h) := by
    intro n
    induction n using Nat.strongRecOn with
    | _ n ih =>
      intro k hn hk hno
      refine ev_iload dX1_hasAheadOf_3 rfl ?_
      refine ev_iload_n dX1_hasAheadOf_5 rfl rfl ?_
      refine ev_icmp_geN 38 dX1_hasAheadOf_6 rfl (by omega) (by omega) (fun hc6 => ?_) (fun hc6 => ?_)
      · refine ev_iconst (nI 0) dX1_hasAheadOf_38 rfl ?_
        refine ev_zreturn dX1_hasAheadOf_39 rfl (by first | rfl | exact bI_nar _) (Or.inl rfl) (Nat.zero_le _) (Nat.zero_le _) ?_
        exact ⟨by rw [exN_no (fun q hq => by simpa using hno q (by omega))]; rfl, rfl⟩
      · refine ev_iload dX1_hasAheadOf_9 rfl ?_
        refine ev_aload_n dX1_hasAheadOf_11 rfl rfl ?_
        first | refine ev_getfield dX1_hasAheadOf_12 lf_1_32 (x0) rfl ?_ | refine ev_getfield dX1_hasAheadOf_12 lf_1_32 (x1) rfl ?_ | refine ev_getfield dX1_hasAheadOf_12 lf_1_32 (x2) rfl ?_ | refine ev_getfield dX1_hasAheadOf_12 lf_1_32 (x3) rfl ?_ | refine ev_getfield dX1_hasAheadOf_12 lf_1_32 (x4) rfl ?_ | refine ev_getfield dX1_hasAheadOf_12 lf_1_32 (x5) rfl ?_
        refine ev_icmp_geN 38 dX1_hasAheadOf_15 rfl (by omega) (by omega) (fun hc15 => ?_) (fun hc15 => ?_)
        · refine ev_iconst (nI 0) dX1_hasAheadOf_38 rfl ?_
          refine ev_zreturn dX1_hasAheadOf_39 rfl (by first | rfl | exact bI_nar _) (Or.inl rfl) (Nat.zero_le _) (Nat.zero_le _) ?_
          exact ⟨by rw [exN_no (fun q hq => by simpa using hno q (by omega))]; rfl, rfl⟩
        · refine ev_aload_n dX1_hasAheadOf_18 rfl rfl ?_
          first | refine ev_getfield dX1_hasAheadOf_19 lf_1_28 (x0) rfl ?_ | refine ev_getfield dX1_hasAheadOf_19 lf_1_28 (x1) rfl ?_ | refine ev_getfield dX1_hasAheadOf_19 lf_1_28 (x2) rfl ?_ | refine ev_getfield dX1_hasAheadOf_19 lf_1_28 (x3) rfl ?_ | refine ev_getfield dX1_hasAheadOf_19 lf_1_28 (x4) rfl ?_ | refine ev_getfield dX1_hasAheadOf_19 lf_1_28 (x5) rfl ?_
          refine ev_iload dX1_hasAheadOf_22 rfl ?_
          first | refine ev_laloadN dX1_hasAheadOf_24 (x0) (by omega) (by decide) ?_ | refine ev_laloadN dX1_hasAheadOf_24 (x1) (by omega) (by decide) ?_ | refine ev_laloadN dX1_hasAheadOf_24 (x2) (by omega) (by decide) ?_ | refine ev_laloadN dX1_hasAheadOf_24 (x3) (by omega) (by decide) ?_ | refine ev_laloadN dX1_hasAheadOf_24 (x4) (by omega) (by decide) ?_ | refine ev_laloadN dX1_hasAheadOf_24 (x5) (by omega) (by decide) ?_
          rw [(hP k (by omega)).2.2.2.1]
          refine ev_lload_n dX1_hasAheadOf_25 rfl rfl ?_
          refine ev_lcmp_ne 32 dX1_hasAheadOf_26 dX1_hasAheadOf_27 rfl (fun hc27 => ?_) (fun hc27 => ?_)
          · refine ev_iincN (L' := [_, _, _, _, _]) 1 dX1_hasAheadOf_32 rfl rfl ?_
            refine ev_goto 3 dX1_hasAheadOf_35 rfl ?_
            refine ev_pc (pc' := 3) rfl ?_
            exact ih _ (by omega) (k + 1) rfl (by omega) (fun q hq => by rcases Nat.lt_succ_iff_lt_or_eq.mp hq with z | z; exact hno q z; rw [z]; exact hc27)
          · refine ev_iconst (nI 1) dX1_hasAheadOf_30 rfl ?_
            refine ev_zreturn dX1_hasAheadOf_31 rfl (by first | rfl | exact bI_nar _) (Or.inl rfl) (Nat.zero_le _) (Nat.zero_le _) ?_
            exact ⟨by rw [exN_yes (k := k) (by omega) (by rw [hc27]; exact beq_self_eq_true _)]; rfl, rfl⟩
  exact LP3 _ 0 rfl (Nat.zero_le _) (fun q hq => by omega)
theorem c_ahead {X : mX} {h : mH} {c : Nat} {K : mCt} (hc : CutN h c K) (e : Nat) (he : e ≤ kN K) (row : Int64) : CnP X m_X1_hasAheadOf [.ref c, .int (nI e), .long row] h (some (.int (bI (exN (fun p => kR K p == row) e)))) := by
  obtain ⟨sg, st, le, fo, rr, -, hL, hN, hS, hP⟩ := id hc
  have := c_hasAheadOf (X := X) hc e (by omega) row
  rwa [Nat.min_eq_left he] at this
set_option maxHeartbeats 4000000 in
set_option maxRecDepth 100000 in
theorem c_has {X : mX} {h : mH} {c : Nat} {K : mCt} (hc : CutN h c K) (row : Int64) : CnP X m_X1_has [.ref c, .long row] h (some (.int (bI (exN (fun p => kR K p == row) (kN K))))) := by
  obtain ⟨sg, st, le, fo, rr, ⟨x0, x1, x2, x3, x4, x5⟩, hL, hN, hS, hP⟩ := id hc
  refine cn_of_ev (L0 := [_, _, _]) (by decide +kernel) rfl rfl (Nat.le_of_ble_eq_true rfl) rfl ?_
  refine ev_aload_n dX1_has_0 rfl rfl ?_
  refine ev_aload_n dX1_has_1 rfl rfl ?_
  first | refine ev_getfield dX1_has_2 lf_1_32 (x0) rfl ?_ | refine ev_getfield dX1_has_2 lf_1_32 (x1) rfl ?_ | refine ev_getfield dX1_has_2 lf_1_32 (x2) rfl ?_ | refine ev_getfield dX1_has_2 lf_1_32 (x3) rfl ?_ | refine ev_getfield dX1_has_2 lf_1_32 (x4) rfl ?_ | refine ev_getfield dX1_has_2 lf_1_32 (x5) rfl ?_
  refine ev_lload_n dX1_has_5 rfl rfl ?_
  first | refine ev_callVP2 dX1_has_6 cal_X1_hasAheadOf lk_1_73 ⟨(Nat.le_of_ble_eq_true rfl), (Nat.le_of_ble_eq_true rfl)⟩ rfl (x0) (Nat.le_of_ble_eq_true rfl) (c_ahead hc _ (Nat.le_refl _) row) ?_ | refine ev_callVP2 dX1_has_6 cal_X1_hasAheadOf lk_1_73 ⟨(Nat.le_of_ble_eq_true rfl), (Nat.le_of_ble_eq_true rfl)⟩ rfl (x1) (Nat.le_of_ble_eq_true rfl) (c_ahead hc _ (Nat.le_refl _) row) ?_ | refine ev_callVP2 dX1_has_6 cal_X1_hasAheadOf lk_1_73 ⟨(Nat.le_of_ble_eq_true rfl), (Nat.le_of_ble_eq_true rfl)⟩ rfl (x2) (Nat.le_of_ble_eq_true rfl) (c_ahead hc _ (Nat.le_refl _) row) ?_ | refine ev_callVP2 dX1_has_6 cal_X1_hasAheadOf lk_1_73 ⟨(Nat.le_of_ble_eq_true rfl), (Nat.le_of_ble_eq_true rfl)⟩ rfl (x3) (Nat.le_of_ble_eq_true rfl) (c_ahead hc _ (Nat.le_refl _) row) ?_ | refine ev_callVP2 dX1_has_6 cal_X1_hasAheadOf lk_1_73 ⟨(Nat.le_of_ble_eq_true rfl), (Nat.le_of_ble_eq_true rfl)⟩ rfl (x4) (Nat.le_of_ble_eq_true rfl) (c_ahead hc _ (Nat.le_refl _) row) ?_ | refine ev_callVP2 dX1_has_6 cal_X1_hasAheadOf lk_1_73 ⟨(Nat.le_of_ble_eq_true rfl), (Nat.le_of_ble_eq_true rfl)⟩ rfl (x5) (Nat.le_of_ble_eq_true rfl) (c_ahead hc _ (Nat.le_refl _) row) ?_
  refine ev_zreturn dX1_has_9 rfl (by first | rfl | exact bI_nar _) (Or.inl rfl) (Nat.zero_le _) (Nat.zero_le _) ?_
  exact ⟨rfl, rfl⟩
set_option maxHeartbeats 4000000 in
set_option maxRecDepth 100000 in
theorem c_unlikePiecesAlsoIn {X : mX} {h : mH} {c d : Nat} {K E : mCt} (hc : CutN h c K) (hd : CutN h d E) : CnP X m_X1_unlikePiecesAlsoIn [.ref c, .ref d] h (some (.int (nI (ctN (fun p => !(exN (fun q => kR K q == kR K p) p) && exN (fun q => kR E q == kR K p) (kN E)) (kN K))))) := by
  obtain ⟨sg, st, le, fo, rr, ⟨x0, x1, x2, x3, x4, x5⟩, hL, hN, hS, hP⟩ := id hc
  obtain ⟨sgy, sty, ley, foy, rry, ⟨y0, y1, y2, y3, y4, y5⟩, hLy, hNy, hSy, hPy⟩ := id hd
  refine cn_of_ev (L0 := [_, _, _, _]) (by decide +kernel) rfl rfl (Nat.le_of_ble_eq_true rfl) rfl ?_
  refine ev_iconst (nI 0) dX1_unlikePiecesAlsoIn_0 rfl ?_
  refine ev_istore_n (L' := [_, _, _, _]) dX1_unlikePiecesAlsoIn_1 rfl (Nat.le_of_ble_eq_true rfl) rfl ?_
  refine ev_iconst (nI 0) dX1_unlikePiecesAlsoIn_2 rfl ?_
  refine ev_istore_n (L' := [_, _, _, _]) dX1_unlikePiecesAlsoIn_3 rfl (Nat.le_of_ble_eq_true rfl) rfl ?_
  refine ev_pc (pc' := 4) rfl ?_
  have LP4 : ∀ (n : Nat) (k : Nat), kN K - k = n → (k ≤ kN K) → Ev X m_X1_unlikePiecesAlsoIn B0 4 [.ref c, .ref d, .int (nI (ctN (fun p => !(exN (fun q => kR K q == kR K p) p) && exN (fun q => kR E q == kR K p) (kN E)) k)), .int (nI k)] [] h (fun o h1 => o = .inl (some (.int (nI (ctN (fun p => !(exN (fun q => kR K q == kR K p) p) && exN (fun q => kR E q == kR K p) (kN E)) (kN K))))) ∧ h1 = h) := by
    intro n
    induction n using Nat.strongRecOn with
    | _ n ih =>
      intro k hn hk
      refine ev_iload_n dX1_unlikePiecesAlsoIn_4 rfl rfl ?_
      refine ev_aload_n dX1_unlikePiecesAlsoIn_5 rfl rfl ?_
      first | refine ev_getfield dX1_unlikePiecesAlsoIn_6 lf_1_32 (x0) rfl ?_ | refine ev_getfield dX1_unlikePiecesAlsoIn_6 lf_1_32 (x1) rfl ?_ | refine ev_getfield dX1_unlikePiecesAlsoIn_6 lf_1_32 (x2) rfl ?_ | refine ev_getfield dX1_unlikePiecesAlsoIn_6 lf_1_32 (x3) rfl ?_ | refine ev_getfield dX1_unlikePiecesAlsoIn_6 lf_1_32 (x4) rfl ?_ | refine ev_getfield dX1_unlikePiecesAlsoIn_6 lf_1_32 (x5) rfl ?_ | refine ev_getfield dX1_unlikePiecesAlsoIn_6 lf_1_32 (y0) rfl ?_ | refine ev_getfield dX1_unlikePiecesAlsoIn_6 lf_1_32 (y1) rfl ?_ | refine ev_getfield dX1_unlikePiecesAlsoIn_6 lf_1_32 (y2) rfl ?_ | refine ev_getfield dX1_unlikePiecesAlsoIn_6 lf_1_32 (y3) rfl ?_ | refine ev_getfield dX1_unlikePiecesAlsoIn_6 lf_1_32 (y4) rfl ?_ | refine ev_getfield dX1_unlikePiecesAlsoIn_6 lf_1_32 (y5) rfl ?_
      refine ev_icmp_geN 48 dX1_unlikePiecesAlsoIn_9 rfl (by omega) (by omega) (fun hc9 => ?_) (fun hc9 => ?_)
      · refine ev_iload_n dX1_unlikePiecesAlsoIn_48 rfl rfl ?_
        refine ev_ireturn dX1_unlikePiecesAlsoIn_49 rfl (Or.inl rfl) (Nat.zero_le _) (Nat.zero_le _) ?_
        rw [show k = kN K by omega]; exact ⟨rfl, rfl⟩
      · refine ev_aload_n dX1_unlikePiecesAlsoIn_12 rfl rfl ?_
        refine ev_iload_n dX1_unlikePiecesAlsoIn_13 rfl rfl ?_
        refine ev_aload_n dX1_unlikePiecesAlsoIn_14 rfl rfl ?_
        first | refine ev_getfield dX1_unlikePiecesAlsoIn_15 lf_1_28 (x0) rfl ?_ | refine ev_getfield dX1_unlikePiecesAlsoIn_15 lf_1_28 (x1) rfl ?_ | refine ev_getfield dX1_unlikePiecesAlsoIn_15 lf_1_28 (x2) rfl ?_ | refine ev_getfield dX1_unlikePiecesAlsoIn_15 lf_1_28 (x3) rfl ?_ | refine ev_getfield dX1_unlikePiecesAlsoIn_15 lf_1_28 (x4) rfl ?_ | refine ev_getfield dX1_unlikePiecesAlsoIn_15 lf_1_28 (x5) rfl ?_ | refine ev_getfield dX1_unlikePiecesAlsoIn_15 lf_1_28 (y0) rfl ?_ | refine ev_getfield dX1_unlikePiecesAlsoIn_15 lf_1_28 (y1) rfl ?_ | refine ev_getfield dX1_unlikePiecesAlsoIn_15 lf_1_28 (y2) rfl ?_ | refine ev_getfield dX1_unlikePiecesAlsoIn_15 lf_1_28 (y3) rfl ?_ | refine ev_getfield dX1_unlikePiecesAlsoIn_15 lf_1_28 (y4) rfl ?_ | refine ev_getfield dX1_unlikePiecesAlsoIn_15 lf_1_28 (y5) rfl ?_
        refine ev_iload_n dX1_unlikePiecesAlsoIn_18 rfl rfl ?_
        first | refine ev_laloadN dX1_unlikePiecesAlsoIn_19 (x0) (by omega) (by decide) ?_ | refine ev_laloadN dX1_unlikePiecesAlsoIn_19 (x1) (by omega) (by decide) ?_ | refine ev_laloadN dX1_unlikePiecesAlsoIn_19 (x2) (by omega) (by decide) ?_ | refine ev_laloadN dX1_unlikePiecesAlsoIn_19 (x3) (by omega) (by decide) ?_ | refine ev_laloadN dX1_unlikePiecesAlsoIn_19 (x4) (by omega) (by decide) ?_ | refine ev_laloadN dX1_unlikePiecesAlsoIn_19 (x5) (by omega) (by decide) ?_ | refine ev_laloadN dX1_unlikePiecesAlsoIn_19 (y0) (by omega) (by decide) ?_ | refine ev_laloadN dX1_unlikePiecesAlsoIn_19 (y1) (by omega) (by decide) ?_ | refine ev_laloadN dX1_unlikePiecesAlsoIn_19 (y2) (by omega) (by decide) ?_ | refine ev_laloadN dX1_unlikePiecesAlsoIn_19 (y3) (by omega) (by decide) ?_ | refine ev_laloadN dX1_unlikePiecesAlsoIn_19 (y4) (by omega) (by decide) ?_ | refine ev_laloadN dX1_unlikePiecesAlsoIn_19 (y5) (by omega) (by decide) ?_
        rw [(hP k (by omega)).2.2.2.1]
        first | refine ev_callVP2 dX1_unlikePiecesAlsoIn_20 cal_X1_hasAheadOf lk_1_73 ⟨(Nat.le_of_ble_eq_true rfl), (Nat.le_of_ble_eq_true rfl)⟩ rfl (x0) (Nat.le_of_ble_eq_true rfl) (c_ahead hc k (by omega) _) ?_ | refine ev_callVP2 dX1_unlikePiecesAlsoIn_20 cal_X1_hasAheadOf lk_1_73 ⟨(Nat.le_of_ble_eq_true rfl), (Nat.le_of_ble_eq_true rfl)⟩ rfl (x1) (Nat.le_of_ble_eq_true rfl) (c_ahead hc k (by omega) _) ?_ | refine ev_callVP2 dX1_unlikePiecesAlsoIn_20 cal_X1_hasAheadOf lk_1_73 ⟨(Nat.le_of_ble_eq_true rfl), (Nat.le_of_ble_eq_true rfl)⟩ rfl (x2) (Nat.le_of_ble_eq_true rfl) (c_ahead hc k (by omega) _) ?_ | refine ev_callVP2 dX1_unlikePiecesAlsoIn_20 cal_X1_hasAheadOf lk_1_73 ⟨(Nat.le_of_ble_eq_true rfl), (Nat.le_of_ble_eq_true rfl)⟩ rfl (x3) (Nat.le_of_ble_eq_true rfl) (c_ahead hc k (by omega) _) ?_ | refine ev_callVP2 dX1_unlikePiecesAlsoIn_20 cal_X1_hasAheadOf lk_1_73 ⟨(Nat.le_of_ble_eq_true rfl), (Nat.le_of_ble_eq_true rfl)⟩ rfl (x4) (Nat.le_of_ble_eq_true rfl) (c_ahead hc k (by omega) _) ?_ | refine ev_callVP2 dX1_unlikePiecesAlsoIn_20 cal_X1_hasAheadOf lk_1_73 ⟨(Nat.le_of_ble_eq_true rfl), (Nat.le_of_ble_eq_true rfl)⟩ rfl (x5) (Nat.le_of_ble_eq_true rfl) (c_ahead hc k (by omega) _) ?_ | refine ev_callVP2 dX1_unlikePiecesAlsoIn_20 cal_X1_hasAheadOf lk_1_73 ⟨(Nat.le_of_ble_eq_true rfl), (Nat.le_of_ble_eq_true rfl)⟩ rfl (y0) (Nat.le_of_ble_eq_true rfl) (c_ahead hc k (by omega) _) ?_ | refine ev_callVP2 dX1_unlikePiecesAlsoIn_20 cal_X1_hasAheadOf lk_1_73 ⟨(Nat.le_of_ble_eq_true rfl), (Nat.le_of_ble_eq_true rfl)⟩ rfl (y1) (Nat.le_of_ble_eq_true rfl) (c_ahead hc k (by omega) _) ?_ | refine ev_callVP2 dX1_unlikePiecesAlsoIn_20 cal_X1_hasAheadOf lk_1_73 ⟨(Nat.le_of_ble_eq_true rfl), (Nat.le_of_ble_eq_true rfl)⟩ rfl (y2) (Nat.le_of_ble_eq_true rfl) (c_ahead hc k (by omega) _) ?_ | refine ev_callVP2 dX1_unlikePiecesAlsoIn_20 cal_X1_hasAheadOf lk_1_73 ⟨(Nat.le_of_ble_eq_true rfl), (Nat.le_of_ble_eq_true rfl)⟩ rfl (y3) (Nat.le_of_ble_eq_true rfl) (c_ahead hc k (by omega) _) ?_ | refine ev_callVP2 dX1_unlikePiecesAlsoIn_20 cal_X1_hasAheadOf lk_1_73 ⟨(Nat.le_of_ble_eq_true rfl), (Nat.le_of_ble_eq_true rfl)⟩ rfl (y4) (Nat.le_of_ble_eq_true rfl) (c_ahead hc k (by omega) _) ?_ | refine ev_callVP2 dX1_unlikePiecesAlsoIn_20 cal_X1_hasAheadOf lk_1_73 ⟨(Nat.le_of_ble_eq_true rfl), (Nat.le_of_ble_eq_true rfl)⟩ rfl (y5) (Nat.le_of_ble_eq_true rfl) (c_ahead hc k (by omega) _) ?_
        refine ev_if_neB 42 dX1_unlikePiecesAlsoIn_23 rfl (fun hc23 => ?_) (fun hc23 => ?_)
        · refine ev_pc (pc' := 42) rfl ?_
          first | rw [show ctN (fun p => !(exN (fun q => kR K q == kR K p) p) && exN (fun q => kR E q == kR K p) (kN E)) k + 1 = ctN (fun p => !(exN (fun q => kR K q == kR K p) p) && exN (fun q => kR E q == kR K p) (kN E)) (k + 1) from by first | simp [ctN, hc23, hc36] | simp [ctN, hc36] | simp [ctN, hc23] | simp [ctN]] | rw [show ctN (fun p => !(exN (fun q => kR K q == kR K p) p) && exN (fun q => kR E q == kR K p) (kN E)) k = ctN (fun p => !(exN (fun q => kR K q == kR K p) p) && exN (fun q => kR E q == kR K p) (kN E)) (k + 1) from by first | simp [ctN, hc23, hc36] | simp [ctN, hc36] | simp [ctN, hc23] | simp [ctN]]
          refine ev_iincN (L' := [_, _, _, _]) 1 dX1_unlikePiecesAlsoIn_42 rfl rfl ?_
          refine ev_goto 4 dX1_unlikePiecesAlsoIn_45 rfl ?_
          refine ev_pc (pc' := 4) rfl ?_
          exact ih _ (by omega) (k + 1) rfl (by omega)
        · refine ev_aload_n dX1_unlikePiecesAlsoIn_26 rfl rfl ?_
          refine ev_aload_n dX1_unlikePiecesAlsoIn_27 rfl rfl ?_
          first | refine ev_getfield dX1_unlikePiecesAlsoIn_28 lf_1_28 (x0) rfl ?_ | refine ev_getfield dX1_unlikePiecesAlsoIn_28 lf_1_28 (x1) rfl ?_ | refine ev_getfield dX1_unlikePiecesAlsoIn_28 lf_1_28 (x2) rfl ?_ | refine ev_getfield dX1_unlikePiecesAlsoIn_28 lf_1_28 (x3) rfl ?_ | refine ev_getfield dX1_unlikePiecesAlsoIn_28 lf_1_28 (x4) rfl ?_ | refine ev_getfield dX1_unlikePiecesAlsoIn_28 lf_1_28 (x5) rfl ?_ | refine ev_getfield dX1_unlikePiecesAlsoIn_28 lf_1_28 (y0) rfl ?_ | refine ev_getfield dX1_unlikePiecesAlsoIn_28 lf_1_28 (y1) rfl ?_ | refine ev_getfield dX1_unlikePiecesAlsoIn_28 lf_1_28 (y2) rfl ?_ | refine ev_getfield dX1_unlikePiecesAlsoIn_28 lf_1_28 (y3) rfl ?_ | refine ev_getfield dX1_unlikePiecesAlsoIn_28 lf_1_28 (y4) rfl ?_ | refine ev_getfield dX1_unlikePiecesAlsoIn_28 lf_1_28 (y5) rfl ?_
          refine ev_iload_n dX1_unlikePiecesAlsoIn_31 rfl rfl ?_
          first | refine ev_laloadN dX1_unlikePiecesAlsoIn_32 (x0) (by omega) (by decide) ?_ | refine ev_laloadN dX1_unlikePiecesAlsoIn_32 (x1) (by omega) (by decide) ?_ | refine ev_laloadN dX1_unlikePiecesAlsoIn_32 (x2) (by omega) (by decide) ?_ | refine ev_laloadN dX1_unlikePiecesAlsoIn_32 (x3) (by omega) (by decide) ?_ | refine ev_laloadN dX1_unlikePiecesAlsoIn_32 (x4) (by omega) (by decide) ?_ | refine ev_laloadN dX1_unlikePiecesAlsoIn_32 (x5) (by omega) (by decide) ?_ | refine ev_laloadN dX1_unlikePiecesAlsoIn_32 (y0) (by omega) (by decide) ?_ | refine ev_laloadN dX1_unlikePiecesAlsoIn_32 (y1) (by omega) (by decide) ?_ | refine ev_laloadN dX1_unlikePiecesAlsoIn_32 (y2) (by omega) (by decide) ?_ | refine ev_laloadN dX1_unlikePiecesAlsoIn_32 (y3) (by omega) (by decide) ?_ | refine ev_laloadN dX1_unlikePiecesAlsoIn_32 (y4) (by omega) (by decide) ?_ | refine ev_laloadN dX1_unlikePiecesAlsoIn_32 (y5) (by omega) (by decide) ?_
          rw [(hP k (by omega)).2.2.2.1]
          first | refine ev_callVP1 dX1_unlikePiecesAlsoIn_33 cal_X1_has lk_1_81 ⟨(Nat.le_of_ble_eq_true rfl), (Nat.le_of_ble_eq_true rfl)⟩ rfl (x0) (Nat.le_of_ble_eq_true rfl) (c_has hd _) ?_ | refine ev_callVP1 dX1_unlikePiecesAlsoIn_33 cal_X1_has lk_1_81 ⟨(Nat.le_of_ble_eq_true rfl), (Nat.le_of_ble_eq_true rfl)⟩ rfl (x1) (Nat.le_of_ble_eq_true rfl) (c_has hd _) ?_ | refine ev_callVP1 dX1_unlikePiecesAlsoIn_33 cal_X1_has lk_1_81 ⟨(Nat.le_of_ble_eq_true rfl), (Nat.le_of_ble_eq_true rfl)⟩ rfl (x2) (Nat.le_of_ble_eq_true rfl) (c_has hd _) ?_ | refine ev_callVP1 dX1_unlikePiecesAlsoIn_33 cal_X1_has lk_1_81 ⟨(Nat.le_of_ble_eq_true rfl), (Nat.le_of_ble_eq_true rfl)⟩ rfl (x3) (Nat.le_of_ble_eq_true rfl) (c_has hd _) ?_ | refine ev_callVP1 dX1_unlikePiecesAlsoIn_33 cal_X1_has lk_1_81 ⟨(Nat.le_of_ble_eq_true rfl), (Nat.le_of_ble_eq_true rfl)⟩ rfl (x4) (Nat.le_of_ble_eq_true rfl) (c_has hd _) ?_ | refine ev_callVP1 dX1_unlikePiecesAlsoIn_33 cal_X1_has lk_1_81 ⟨(Nat.le_of_ble_eq_true rfl), (Nat.le_of_ble_eq_true rfl)⟩ rfl (x5) (Nat.le_of_ble_eq_true rfl) (c_has hd _) ?_ | refine ev_callVP1 dX1_unlikePiecesAlsoIn_33 cal_X1_has lk_1_81 ⟨(Nat.le_of_ble_eq_true rfl), (Nat.le_of_ble_eq_true rfl)⟩ rfl (y0) (Nat.le_of_ble_eq_true rfl) (c_has hd _) ?_ | refine ev_callVP1 dX1_unlikePiecesAlsoIn_33 cal_X1_has lk_1_81 ⟨(Nat.le_of_ble_eq_true rfl), (Nat.le_of_ble_eq_true rfl)⟩ rfl (y1) (Nat.le_of_ble_eq_true rfl) (c_has hd _) ?_ | refine ev_callVP1 dX1_unlikePiecesAlsoIn_33 cal_X1_has lk_1_81 ⟨(Nat.le_of_ble_eq_true rfl), (Nat.le_of_ble_eq_true rfl)⟩ rfl (y2) (Nat.le_of_ble_eq_true rfl) (c_has hd _) ?_ | refine ev_callVP1 dX1_unlikePiecesAlsoIn_33 cal_X1_has lk_1_81 ⟨(Nat.le_of_ble_eq_true rfl), (Nat.le_of_ble_eq_true rfl)⟩ rfl (y3) (Nat.le_of_ble_eq_true rfl) (c_has hd _) ?_ | refine ev_callVP1 dX1_unlikePiecesAlsoIn_33 cal_X1_has lk_1_81 ⟨(Nat.le_of_ble_eq_true rfl), (Nat.le_of_ble_eq_true rfl)⟩ rfl (y4) (Nat.le_of_ble_eq_true rfl) (c_has hd _) ?_ | refine ev_callVP1 dX1_unlikePiecesAlsoIn_33 cal_X1_has lk_1_81 ⟨(Nat.le_of_ble_eq_true rfl), (Nat.le_of_ble_eq_true rfl)⟩ rfl (y5) (Nat.le_of_ble_eq_true rfl) (c_has hd _) ?_
          refine ev_if_eqB 42 dX1_unlikePiecesAlsoIn_36 rfl (fun hc36 => ?_) (fun hc36 => ?_)
          · refine ev_pc (pc' := 42) rfl ?_
            first | rw [show ctN (fun p => !(exN (fun q => kR K q == kR K p) p) && exN (fun q => kR E q == kR K p) (kN E)) k + 1 = ctN (fun p => !(exN (fun q => kR K q == kR K p) p) && exN (fun q => kR E q == kR K p) (kN E)) (k + 1) from by first | simp [ctN, hc23, hc36] | simp [ctN, hc36] | simp [ctN, hc23] | simp [ctN]] | rw [show ctN (fun p => !(exN (fun q => kR K q == kR K p) p) && exN (fun q => kR E q == kR K p) (kN E)) k = ctN (fun p => !(exN (fun q => kR K q == kR K p) p) && exN (fun q => kR E q == kR K p) (kN E)) (k + 1) from by first | simp [ctN, hc23, hc36] | simp [ctN, hc36] | simp [ctN, hc23] | simp [ctN]]
            refine ev_iincN (L' := [_, _, _, _]) 1 dX1_unlikePiecesAlsoIn_42 rfl rfl ?_
            refine ev_goto 4 dX1_unlikePiecesAlsoIn_45 rfl ?_
            refine ev_pc (pc' := 4) rfl ?_
            exact ih _ (by omega) (k + 1) rfl (by omega)
          · refine ev_iincN (L' := [_, _, _, _]) 1 dX1_unlikePiecesAlsoIn_39 rfl rfl ?_
            refine ev_pc (pc' := 42) rfl ?_
            first | rw [show ctN (fun p => !(exN (fun q => kR K q == kR K p) p) && exN (fun q => kR E q == kR K p) (kN E)) k + 1 = ctN (fun p => !(exN (fun q => kR K q == kR K p) p) && exN (fun q => kR E q == kR K p) (kN E)) (k + 1) from by first | simp [ctN, hc23, hc36] | simp [ctN, hc36] | simp [ctN, hc23] | simp [ctN]] | rw [show ctN (fun p => !(exN (fun q => kR K q == kR K p) p) && exN (fun q => kR E q == kR K p) (kN E)) k = ctN (fun p => !(exN (fun q => kR K q == kR K p) p) && exN (fun q => kR E q == kR K p) (kN E)) (k + 1) from by first | simp [ctN, hc23, hc36] | simp [ctN, hc36] | simp [ctN, hc23] | simp [ctN]]
            refine ev_iincN (L' := [_, _, _, _]) 1 dX1_unlikePiecesAlsoIn_42 rfl rfl ?_
            refine ev_goto 4 dX1_unlikePiecesAlsoIn_45 rfl ?_
            refine ev_pc (pc' := 4) rfl ?_
            exact ih _ (by omega) (k + 1) rfl (by omega)
  exact LP4 _ 0 rfl (Nat.zero_le _)
set_option maxHeartbeats 4000000 in
set_option maxRecDepth 100000 in
theorem c_unlikePieces {X : mX} {h : mH} {c : Nat} {K : mCt} (hc : CutN h c K) : CnP X m_X1_unlikePieces [.ref c] h (some (.int (nI (ctN (fun p => !(exN (fun q => kR K q == kR K p) p) && exN (fun q => kR K q == kR K p) (kN K)) (kN K))))) := by
  obtain ⟨sg, st, le, fo, rr, ⟨x0, x1, x2, x3, x4, x5⟩, hL, hN, hS, hP⟩ := id hc
  refine cn_of_ev (L0 := [_]) (by decide +kernel) rfl rfl (Nat.le_of_ble_eq_true rfl) rfl ?_
  refine ev_aload_n dX1_unlikePieces_0 rfl rfl ?_
  refine ev_aload_n dX1_unlikePieces_1 rfl rfl ?_
  first | refine ev_callVP1 dX1_unlikePieces_2 cal_X1_unlikePiecesAlsoIn lk_1_77 ⟨(Nat.le_of_ble_eq_true rfl), (Nat.le_of_ble_eq_true rfl)⟩ rfl (x0) (Nat.le_of_ble_eq_true rfl) (c_unlikePiecesAlsoIn hc hc) ?_ | refine ev_callVP1 dX1_unlikePieces_2 cal_X1_unlikePiecesAlsoIn lk_1_77 ⟨(Nat.le_of_ble_eq_true rfl), (Nat.le_of_ble_eq_true rfl)⟩ rfl (x1) (Nat.le_of_ble_eq_true rfl) (c_unlikePiecesAlsoIn hc hc) ?_ | refine ev_callVP1 dX1_unlikePieces_2 cal_X1_unlikePiecesAlsoIn lk_1_77 ⟨(Nat.le_of_ble_eq_true rfl), (Nat.le_of_ble_eq_true rfl)⟩ rfl (x2) (Nat.le_of_ble_eq_true rfl) (c_unlikePiecesAlsoIn hc hc) ?_ | refine ev_callVP1 dX1_unlikePieces_2 cal_X1_unlikePiecesAlsoIn lk_1_77 ⟨(Nat.le_of_ble_eq_true rfl), (Nat.le_of_ble_eq_true rfl)⟩ rfl (x3) (Nat.le_of_ble_eq_true rfl) (c_unlikePiecesAlsoIn hc hc) ?_ | refine ev_callVP1 dX1_unlikePieces_2 cal_X1_unlikePiecesAlsoIn lk_1_77 ⟨(Nat.le_of_ble_eq_true rfl), (Nat.le_of_ble_eq_true rfl)⟩ rfl (x4) (Nat.le_of_ble_eq_true rfl) (c_unlikePiecesAlsoIn hc hc) ?_ | refine ev_callVP1 dX1_unlikePieces_2 cal_X1_unlikePiecesAlsoIn lk_1_77 ⟨(Nat.le_of_ble_eq_true rfl), (Nat.le_of_ble_eq_true rfl)⟩ rfl (x5) (Nat.le_of_ble_eq_true rfl) (c_unlikePiecesAlsoIn hc hc) ?_
  refine ev_ireturn dX1_unlikePieces_5 rfl (Or.inl rfl) (Nat.zero_le _) (Nat.zero_le _) ?_
  exact ⟨rfl, rfl⟩
/-- up to the first number below n at which p fails -/
def upTo (p : Nat → Bool) : Nat → Nat
  | 0 => 0
  | n + 1 => if upTo p n < n then upTo p n else if p n then n + 1 else n
theorem upTo_le (p : Nat → Bool) : ∀ n, upTo p n ≤ n
  | 0 => Nat.le_refl _
  | n + 1 => by
    have := upTo_le p n
    rw [upTo]
    split
    · omega
    · split <;> omega
theorem upTo_all {p : Nat → Bool} {n : Nat} (h : ∀ k, k < n → p k = true) : upTo p n = n := by
  induction n with
  | zero => rfl
  | succ n ih =>
    rw [upTo, ih (fun k hk => h k (by omega)), if_neg (Nat.lt_irrefl _), h n (by omega)]
    rfl
theorem upTo_stop {p : Nat → Bool} {k n : Nat} (hk : k < n) (h : ∀ j, j < k → p j = true) (h2 : p k = false) : upTo p n = k := by
  induction n with
  | zero => omega
  | succ n ih =>
    by_cases e : k = n
    · subst e
      rw [upTo, upTo_all h, if_neg (Nat.lt_irrefl _), h2]
      rfl
    · rw [upTo, ih (by omega), if_pos (by omega)]
set_option maxHeartbeats 4000000 in
set_option maxRecDepth 100000 in
theorem c_forcedPieces {X : mX} {h : mH} {c : Nat} {K : mCt} (hc : CutN h c K) : CnP X m_X1_forcedPieces [.ref c] h (some (.int (nI (smN (fun p => b2n (kF K p)) (kN K))))) := by
  obtain ⟨sg, st, le, fo, rr, ⟨x0, x1, x2, x3, x4, x5⟩, hL, hN, hS, hP⟩ := id hc
  refine cn_of_ev (L0 := [_, _, _]) (by decide +kernel) rfl rfl (Nat.le_of_ble_eq_true rfl) rfl ?_
  refine ev_iconst (nI 0) dX1_forcedPieces_0 rfl ?_
  refine ev_istore_n (L' := [_, _, _]) dX1_forcedPieces_1 rfl (Nat.le_of_ble_eq_true rfl) rfl ?_
  refine ev_iconst (nI 0) dX1_forcedPieces_2 rfl ?_
  refine ev_istore_n (L' := [_, _, _]) dX1_forcedPieces_3 rfl (Nat.le_of_ble_eq_true rfl) rfl ?_
  refine ev_pc (pc' := 4) rfl ?_
  have LP4 : ∀ (n : Nat) (k : Nat), kN K - k = n → (k ≤ kN K) → Ev X m_X1_forcedPieces B0 4 [.ref c, .int (nI (smN (fun p => b2n (kF K p)) k)), .int (nI k)] [] h (fun o h1 => o = .inl (some (.int (nI (smN (fun p => b2n (kF K p)) (kN K))))) ∧ h1 = h) := by
    intro n
    induction n using Nat.strongRecOn with
    | _ n ih =>
      intro k hn hk
      refine ev_iload_n dX1_forcedPieces_4 rfl rfl ?_
      refine ev_aload_n dX1_forcedPieces_5 rfl rfl ?_
      first | refine ev_getfield dX1_forcedPieces_6 lf_1_32 (x0) rfl ?_ | refine ev_getfield dX1_forcedPieces_6 lf_1_32 (x1) rfl ?_ | refine ev_getfield dX1_forcedPieces_6 lf_1_32 (x2) rfl ?_ | refine ev_getfield dX1_forcedPieces_6 lf_1_32 (x3) rfl ?_ | refine ev_getfield dX1_forcedPieces_6 lf_1_32 (x4) rfl ?_ | refine ev_getfield dX1_forcedPieces_6 lf_1_32 (x5) rfl ?_
      refine ev_icmp_geN 27 dX1_forcedPieces_9 rfl (by omega) (by omega) (fun hc9 => ?_) (fun hc9 => ?_)
      · refine ev_iload_n dX1_forcedPieces_27 rfl rfl ?_
        refine ev_ireturn dX1_forcedPieces_28 rfl (Or.inl rfl) (Nat.zero_le _) (Nat.zero_le _) ?_
        rw [show k = kN K by omega]; exact ⟨rfl, rfl⟩
      · refine ev_iload_n dX1_forcedPieces_12 rfl rfl ?_
        refine ev_aload_n dX1_forcedPieces_13 rfl rfl ?_
        first | refine ev_getfield dX1_forcedPieces_14 lf_1_25 (x0) rfl ?_ | refine ev_getfield dX1_forcedPieces_14 lf_1_25 (x1) rfl ?_ | refine ev_getfield dX1_forcedPieces_14 lf_1_25 (x2) rfl ?_ | refine ev_getfield dX1_forcedPieces_14 lf_1_25 (x3) rfl ?_ | refine ev_getfield dX1_forcedPieces_14 lf_1_25 (x4) rfl ?_ | refine ev_getfield dX1_forcedPieces_14 lf_1_25 (x5) rfl ?_
        refine ev_iload_n dX1_forcedPieces_17 rfl rfl ?_
        first | refine ev_ialoadF dX1_forcedPieces_18 (x0) (by omega) (by decide) ?_ | refine ev_ialoadF dX1_forcedPieces_18 (x1) (by omega) (by decide) ?_ | refine ev_ialoadF dX1_forcedPieces_18 (x2) (by omega) (by decide) ?_ | refine ev_ialoadF dX1_forcedPieces_18 (x3) (by omega) (by decide) ?_ | refine ev_ialoadF dX1_forcedPieces_18 (x4) (by omega) (by decide) ?_ | refine ev_ialoadF dX1_forcedPieces_18 (x5) (by omega) (by decide) ?_
        rw [(hP k (by omega)).2.2.1]
        refine ev_iaddN dX1_forcedPieces_19 ?_
        refine ev_istore_n (L' := [_, _, _]) dX1_forcedPieces_20 rfl (Nat.le_of_ble_eq_true rfl) rfl ?_
        refine ev_iincN (L' := [_, _, _]) 1 dX1_forcedPieces_21 rfl rfl ?_
        refine ev_goto 4 dX1_forcedPieces_24 rfl ?_
        refine ev_pc (pc' := 4) rfl ?_
        exact ih _ (by omega) (k + 1) rfl (by omega)
  exact LP4 _ 0 rfl (Nat.zero_le _)
set_option maxHeartbeats 4000000 in
set_option maxRecDepth 100000 in
theorem c_longestPiece {X : mX} {h : mH} {c : Nat} {K : mCt} (hc : CutN h c K) : CnP X m_X1_longestPiece [.ref c] h (some (.int (nI (mxN (kQ K) (kN K))))) := by
  obtain ⟨sg, st, le, fo, rr, ⟨x0, x1, x2, x3, x4, x5⟩, hL, hN, hS, hP⟩ := id hc
  refine cn_of_ev (L0 := [_, _, _]) (by decide +kernel) rfl rfl (Nat.le_of_ble_eq_true rfl) rfl ?_
  refine ev_iconst (nI 0) dX1_longestPiece_0 rfl ?_
  refine ev_istore_n (L' := [_, _, _]) dX1_longestPiece_1 rfl (Nat.le_of_ble_eq_true rfl) rfl ?_
  refine ev_iconst (nI 0) dX1_longestPiece_2 rfl ?_
  refine ev_istore_n (L' := [_, _, _]) dX1_longestPiece_3 rfl (Nat.le_of_ble_eq_true rfl) rfl ?_
  refine ev_pc (pc' := 4) rfl ?_
  have LP4 : ∀ (n : Nat) (k : Nat), kN K - k = n → (k ≤ kN K) → Ev X m_X1_longestPiece B0 4 [.ref c, .int (nI (mxN (kQ K) k)), .int (nI k)] [] h (fun o h1 => o = .inl (some (.int (nI (mxN (kQ K) (kN K))))) ∧ h1 = h) := by
    intro n
    induction n using Nat.strongRecOn with
    | _ n ih =>
      intro k hn hk
      have hmx : mxN (kQ K) k ≤ 40 := mxN_le (fun q hq => (hP q (by omega)).2.2.2.2.2)
      refine ev_iload_n dX1_longestPiece_4 rfl rfl ?_
      refine ev_aload_n dX1_longestPiece_5 rfl rfl ?_
      first | refine ev_getfield dX1_longestPiece_6 lf_1_32 (x0) rfl ?_ | refine ev_getfield dX1_longestPiece_6 lf_1_32 (x1) rfl ?_ | refine ev_getfield dX1_longestPiece_6 lf_1_32 (x2) rfl ?_ | refine ev_getfield dX1_longestPiece_6 lf_1_32 (x3) rfl ?_ | refine ev_getfield dX1_longestPiece_6 lf_1_32 (x4) rfl ?_ | refine ev_getfield dX1_longestPiece_6 lf_1_32 (x5) rfl ?_
      refine ev_icmp_geN 29 dX1_longestPiece_9 rfl (by omega) (by omega) (fun hc9 => ?_) (fun hc9 => ?_)
      · refine ev_iload_n dX1_longestPiece_29 rfl rfl ?_
        refine ev_ireturn dX1_longestPiece_30 rfl (Or.inl rfl) (Nat.zero_le _) (Nat.zero_le _) ?_
        rw [show k = kN K by omega]; exact ⟨rfl, rfl⟩
      · refine ev_iload_n dX1_longestPiece_12 rfl rfl ?_
        refine ev_aload_n dX1_longestPiece_13 rfl rfl ?_
        first | refine ev_getfield dX1_longestPiece_14 lf_1_22 (x0) rfl ?_ | refine ev_getfield dX1_longestPiece_14 lf_1_22 (x1) rfl ?_ | refine ev_getfield dX1_longestPiece_14 lf_1_22 (x2) rfl ?_ | refine ev_getfield dX1_longestPiece_14 lf_1_22 (x3) rfl ?_ | refine ev_getfield dX1_longestPiece_14 lf_1_22 (x4) rfl ?_ | refine ev_getfield dX1_longestPiece_14 lf_1_22 (x5) rfl ?_
        refine ev_iload_n dX1_longestPiece_17 rfl rfl ?_
        first | refine ev_ialoadF dX1_longestPiece_18 (x0) (by omega) (by decide) ?_ | refine ev_ialoadF dX1_longestPiece_18 (x1) (by omega) (by decide) ?_ | refine ev_ialoadF dX1_longestPiece_18 (x2) (by omega) (by decide) ?_ | refine ev_ialoadF dX1_longestPiece_18 (x3) (by omega) (by decide) ?_ | refine ev_ialoadF dX1_longestPiece_18 (x4) (by omega) (by decide) ?_ | refine ev_ialoadF dX1_longestPiece_18 (x5) (by omega) (by decide) ?_
        have hq40 := (hP k (by omega)).2.2.2.2.2
        rw [(hP k (by omega)).2.1]
        refine ev_maxN dX1_longestPiece_19 lk_1_85 w_ms w_mi w_mc (Nat.le_of_ble_eq_true rfl) (Nat.le_of_ble_eq_true rfl) (Nat.zero_le _) (Nat.zero_le _) (by omega) (by omega) ?_
        refine ev_istore_n (L' := [_, _, _]) dX1_longestPiece_22 rfl (Nat.le_of_ble_eq_true rfl) rfl ?_
        refine ev_iincN (L' := [_, _, _]) 1 dX1_longestPiece_23 rfl rfl ?_
        refine ev_goto 4 dX1_longestPiece_26 rfl ?_
        refine ev_pc (pc' := 4) rfl ?_
        exact ih _ (by omega) (k + 1) rfl (by omega)
  exact LP4 _ 0 rfl (Nat.zero_le _)
theorem sub1_le {n k : Nat} (hn : n < 2 ^ 30) (hk : k < 2 ^ 30) : nI n - nI 1 ≤ nI k ↔ n ≤ k + 1 := by
  rw [Int32.le_iff_toInt_le, pk_sub_toInt hn (by omega), nI_toInt (by omega)]
  omega
set_option maxHeartbeats 4000000 in
set_option maxRecDepth 100000 in
theorem c_pieceAt {X : mX} {h : mH} {c : Nat} {K : mCt} (hc : CutN h c K) (j : Nat) (hj : j < 40) : CnP X m_X1_pieceAt [.ref c, .int (nI j)] h (some (.int (nI (upTo (fun q => decide (kP K q + kQ K q ≤ j)) (kN K - 1))))) := by
  obtain ⟨sg, st, le, fo, rr, ⟨x0, x1, x2, x3, x4, x5⟩, hL, hN, hS, hP⟩ := id hc
  refine cn_of_ev (L0 := [_, _, _]) (by decide +kernel) rfl rfl (Nat.le_of_ble_eq_true rfl) rfl ?_
  refine ev_iconst (nI 0) dX1_pieceAt_0 rfl ?_
  refine ev_istore_n (L' := [_, _, _]) dX1_pieceAt_1 rfl (Nat.le_of_ble_eq_true rfl) rfl ?_
  refine ev_pc (pc' := 2) rfl ?_
  have LP2 : ∀ (n : Nat) (k : Nat), kN K - 1 - k = n → (k ≤ kN K - 1) → (∀ q, q < k → kP K q + kQ K q ≤ j) → Ev X m_X1_pieceAt B0 2 [.ref c, .int (nI j), .int (nI k)] [] h (fun o h1 => o = .inl (some (.int (nI (upTo (fun q => decide (kP K q + kQ K q ≤ j)) (kN K - 1))))) ∧ h1 = h) := by
    intro n
    induction n using Nat.strongRecOn with
    | _ n ih =>
      intro k hn hk hal
      refine ev_iload_n dX1_pieceAt_2 rfl rfl ?_
      refine ev_aload_n dX1_pieceAt_3 rfl rfl ?_
      first | refine ev_getfield dX1_pieceAt_4 lf_1_32 (x0) rfl ?_ | refine ev_getfield dX1_pieceAt_4 lf_1_32 (x1) rfl ?_ | refine ev_getfield dX1_pieceAt_4 lf_1_32 (x2) rfl ?_ | refine ev_getfield dX1_pieceAt_4 lf_1_32 (x3) rfl ?_ | refine ev_getfield dX1_pieceAt_4 lf_1_32 (x4) rfl ?_ | refine ev_getfield dX1_pieceAt_4 lf_1_32 (x5) rfl ?_
      refine ev_iconst (nI 1) dX1_pieceAt_7 rfl ?_
      refine ev_isub dX1_pieceAt_8 ?_
      refine ev_icmp_ge 35 dX1_pieceAt_9 rfl (fun hc9 => ?_) (fun hc9 => ?_)
      · refine ev_pc (pc' := 35) rfl ?_
        have hc9k : kN K ≤ k + 1 := (sub1_le (by omega) (by omega)).mp hc9
        refine ev_iload_n dX1_pieceAt_35 rfl rfl ?_
        refine ev_ireturn dX1_pieceAt_36 rfl (Or.inl rfl) (Nat.zero_le _) (Nat.zero_le _) ?_
        first | (rw [upTo_stop (k := k) (by omega) (fun q hq => by simpa using hal q hq) (by simpa using hc26)]; exact ⟨rfl, rfl⟩) | (rw [show kN K - 1 = k by omega, upTo_all (fun q hq => by simpa using hal q hq)]; exact ⟨rfl, rfl⟩)
      · refine ev_pc (pc' := 12) rfl ?_
        have hc9k : k + 1 < kN K := Nat.not_le.mp (fun z => hc9 ((sub1_le (by omega) (by omega)).mpr z))
        refine ev_iload_n dX1_pieceAt_12 rfl rfl ?_
        refine ev_aload_n dX1_pieceAt_13 rfl rfl ?_
        first | refine ev_getfield dX1_pieceAt_14 lf_1_19 (x0) rfl ?_ | refine ev_getfield dX1_pieceAt_14 lf_1_19 (x1) rfl ?_ | refine ev_getfield dX1_pieceAt_14 lf_1_19 (x2) rfl ?_ | refine ev_getfield dX1_pieceAt_14 lf_1_19 (x3) rfl ?_ | refine ev_getfield dX1_pieceAt_14 lf_1_19 (x4) rfl ?_ | refine ev_getfield dX1_pieceAt_14 lf_1_19 (x5) rfl ?_
        refine ev_iload_n dX1_pieceAt_17 rfl rfl ?_
        first | refine ev_ialoadF dX1_pieceAt_18 (x0) (by omega) (by decide) ?_ | refine ev_ialoadF dX1_pieceAt_18 (x1) (by omega) (by decide) ?_ | refine ev_ialoadF dX1_pieceAt_18 (x2) (by omega) (by decide) ?_ | refine ev_ialoadF dX1_pieceAt_18 (x3) (by omega) (by decide) ?_ | refine ev_ialoadF dX1_pieceAt_18 (x4) (by omega) (by decide) ?_ | refine ev_ialoadF dX1_pieceAt_18 (x5) (by omega) (by decide) ?_
        have hq40 := (hP k (by omega)).2.2.2.2
        rw [(hP k (by omega)).1]
        refine ev_aload_n dX1_pieceAt_19 rfl rfl ?_
        first | refine ev_getfield dX1_pieceAt_20 lf_1_22 (x0) rfl ?_ | refine ev_getfield dX1_pieceAt_20 lf_1_22 (x1) rfl ?_ | refine ev_getfield dX1_pieceAt_20 lf_1_22 (x2) rfl ?_ | refine ev_getfield dX1_pieceAt_20 lf_1_22 (x3) rfl ?_ | refine ev_getfield dX1_pieceAt_20 lf_1_22 (x4) rfl ?_ | refine ev_getfield dX1_pieceAt_20 lf_1_22 (x5) rfl ?_
        refine ev_iload_n dX1_pieceAt_23 rfl rfl ?_
        first | refine ev_ialoadF dX1_pieceAt_24 (x0) (by omega) (by decide) ?_ | refine ev_ialoadF dX1_pieceAt_24 (x1) (by omega) (by decide) ?_ | refine ev_ialoadF dX1_pieceAt_24 (x2) (by omega) (by decide) ?_ | refine ev_ialoadF dX1_pieceAt_24 (x3) (by omega) (by decide) ?_ | refine ev_ialoadF dX1_pieceAt_24 (x4) (by omega) (by decide) ?_ | refine ev_ialoadF dX1_pieceAt_24 (x5) (by omega) (by decide) ?_
        rw [(hP k (by omega)).2.1]
        refine ev_iaddN dX1_pieceAt_25 ?_
        refine ev_icmp_ltN 35 dX1_pieceAt_26 rfl (by omega) (by omega) (fun hc26 => ?_) (fun hc26 => ?_)
        · refine ev_iload_n dX1_pieceAt_35 rfl rfl ?_
          refine ev_ireturn dX1_pieceAt_36 rfl (Or.inl rfl) (Nat.zero_le _) (Nat.zero_le _) ?_
          first | (rw [upTo_stop (k := k) (by omega) (fun q hq => by simpa using hal q hq) (by simpa using hc26)]; exact ⟨rfl, rfl⟩) | (rw [show kN K - 1 = k by omega, upTo_all (fun q hq => by simpa using hal q hq)]; exact ⟨rfl, rfl⟩)
        · refine ev_iincN (L' := [_, _, _]) 1 dX1_pieceAt_29 rfl rfl ?_
          refine ev_goto 2 dX1_pieceAt_32 rfl ?_
          refine ev_pc (pc' := 2) rfl ?_
          exact ih _ (by omega) (k + 1) rfl (by omega) (fun q hq => by rcases Nat.lt_succ_iff_lt_or_eq.mp hq with z | z; exact hal q z; rw [z]; exact hc26)
  exact LP2 _ 0 rfl (Nat.zero_le _) (fun q hq => by omega)
set_option maxHeartbeats 4000000 in
set_option maxRecDepth 100000 in
theorem c_endsBehind {X : mX} {h : mH} {c : Nat} {K : mCt} (hc : CutN h c K) (j : Nat) (hj : j < 40) (hq : ∀ p, p < kN K → 1 ≤ kP K p + kQ K p) : CnP X m_X1_endsBehind [.ref c, .int (nI j)] h (some (.int (bI (decide (upTo (fun q => decide (kP K q + kQ K q ≤ j)) (kN K - 1) < kN K ∧ j + 1 = kP K (upTo (fun q => decide (kP K q + kQ K q ≤ j)) (kN K - 1)) + kQ K (upTo (fun q => decide (kP K q + kQ K q ≤ j)) (kN K - 1))))))) := by
  obtain ⟨sg, st, le, fo, rr, ⟨x0, x1, x2, x3, x4, x5⟩, hL, hN, hS, hP⟩ := id hc
  refine cn_of_ev (L0 := [_, _, _]) (by decide +kernel) rfl rfl (Nat.le_of_ble_eq_true rfl) rfl ?_
  generalize hu : upTo (fun q => decide (kP K q + kQ K q ≤ j)) (kN K - 1) = u
  have hu2 : u ≤ kN K - 1 := by rw [← hu]; exact upTo_le _ _
  refine ev_aload_n dX1_endsBehind_0 rfl rfl ?_
  refine ev_iload_n dX1_endsBehind_1 rfl rfl ?_
  first | refine ev_callVP1 dX1_endsBehind_2 cal_X1_pieceAt lk_1_69 ⟨(Nat.le_of_ble_eq_true rfl), (Nat.le_of_ble_eq_true rfl)⟩ rfl (x0) (Nat.le_of_ble_eq_true rfl) ((show CnP X m_X1_pieceAt [.ref c, .int (nI j)] h (some (.int (nI u))) from by rw [← hu]; exact c_pieceAt hc j hj)) ?_ | refine ev_callVP1 dX1_endsBehind_2 cal_X1_pieceAt lk_1_69 ⟨(Nat.le_of_ble_eq_true rfl), (Nat.le_of_ble_eq_true rfl)⟩ rfl (x1) (Nat.le_of_ble_eq_true rfl) ((show CnP X m_X1_pieceAt [.ref c, .int (nI j)] h (some (.int (nI u))) from by rw [← hu]; exact c_pieceAt hc j hj)) ?_ | refine ev_callVP1 dX1_endsBehind_2 cal_X1_pieceAt lk_1_69 ⟨(Nat.le_of_ble_eq_true rfl), (Nat.le_of_ble_eq_true rfl)⟩ rfl (x2) (Nat.le_of_ble_eq_true rfl) ((show CnP X m_X1_pieceAt [.ref c, .int (nI j)] h (some (.int (nI u))) from by rw [← hu]; exact c_pieceAt hc j hj)) ?_ | refine ev_callVP1 dX1_endsBehind_2 cal_X1_pieceAt lk_1_69 ⟨(Nat.le_of_ble_eq_true rfl), (Nat.le_of_ble_eq_true rfl)⟩ rfl (x3) (Nat.le_of_ble_eq_true rfl) ((show CnP X m_X1_pieceAt [.ref c, .int (nI j)] h (some (.int (nI u))) from by rw [← hu]; exact c_pieceAt hc j hj)) ?_ | refine ev_callVP1 dX1_endsBehind_2 cal_X1_pieceAt lk_1_69 ⟨(Nat.le_of_ble_eq_true rfl), (Nat.le_of_ble_eq_true rfl)⟩ rfl (x4) (Nat.le_of_ble_eq_true rfl) ((show CnP X m_X1_pieceAt [.ref c, .int (nI j)] h (some (.int (nI u))) from by rw [← hu]; exact c_pieceAt hc j hj)) ?_ | refine ev_callVP1 dX1_endsBehind_2 cal_X1_pieceAt lk_1_69 ⟨(Nat.le_of_ble_eq_true rfl), (Nat.le_of_ble_eq_true rfl)⟩ rfl (x5) (Nat.le_of_ble_eq_true rfl) ((show CnP X m_X1_pieceAt [.ref c, .int (nI j)] h (some (.int (nI u))) from by rw [← hu]; exact c_pieceAt hc j hj)) ?_
  refine ev_istore_n (L' := [_, _, _]) dX1_endsBehind_5 rfl (Nat.le_of_ble_eq_true rfl) rfl ?_
  refine ev_iload_n dX1_endsBehind_6 rfl rfl ?_
  refine ev_aload_n dX1_endsBehind_7 rfl rfl ?_
  first | refine ev_getfield dX1_endsBehind_8 lf_1_32 (x0) rfl ?_ | refine ev_getfield dX1_endsBehind_8 lf_1_32 (x1) rfl ?_ | refine ev_getfield dX1_endsBehind_8 lf_1_32 (x2) rfl ?_ | refine ev_getfield dX1_endsBehind_8 lf_1_32 (x3) rfl ?_ | refine ev_getfield dX1_endsBehind_8 lf_1_32 (x4) rfl ?_ | refine ev_getfield dX1_endsBehind_8 lf_1_32 (x5) rfl ?_
  refine ev_icmp_geN 37 dX1_endsBehind_11 rfl (by omega) (by omega) (fun hc11 => ?_) (fun hc11 => ?_)
  · refine ev_iconst (nI 0) dX1_endsBehind_37 rfl ?_
    refine ev_zreturn dX1_endsBehind_38 rfl (by first | rfl | exact bI_nar _) (Or.inl rfl) (Nat.zero_le _) (Nat.zero_le _) ?_
    first | (rw [decide_eq_true (by omega)]; exact ⟨rfl, rfl⟩) | (rw [decide_eq_false (by omega)]; exact ⟨rfl, rfl⟩)
  · refine ev_iload_n dX1_endsBehind_14 rfl rfl ?_
    refine ev_aload_n dX1_endsBehind_15 rfl rfl ?_
    first | refine ev_getfield dX1_endsBehind_16 lf_1_19 (x0) rfl ?_ | refine ev_getfield dX1_endsBehind_16 lf_1_19 (x1) rfl ?_ | refine ev_getfield dX1_endsBehind_16 lf_1_19 (x2) rfl ?_ | refine ev_getfield dX1_endsBehind_16 lf_1_19 (x3) rfl ?_ | refine ev_getfield dX1_endsBehind_16 lf_1_19 (x4) rfl ?_ | refine ev_getfield dX1_endsBehind_16 lf_1_19 (x5) rfl ?_
    refine ev_iload_n dX1_endsBehind_19 rfl rfl ?_
    first | refine ev_ialoadF dX1_endsBehind_20 (x0) (by omega) (by decide) ?_ | refine ev_ialoadF dX1_endsBehind_20 (x1) (by omega) (by decide) ?_ | refine ev_ialoadF dX1_endsBehind_20 (x2) (by omega) (by decide) ?_ | refine ev_ialoadF dX1_endsBehind_20 (x3) (by omega) (by decide) ?_ | refine ev_ialoadF dX1_endsBehind_20 (x4) (by omega) (by decide) ?_ | refine ev_ialoadF dX1_endsBehind_20 (x5) (by omega) (by decide) ?_
    have hq40 := (hP u (by omega)).2.2.2.2
    have hq1 := hq u (by omega)
    rw [(hP u (by omega)).1]
    refine ev_aload_n dX1_endsBehind_21 rfl rfl ?_
    first | refine ev_getfield dX1_endsBehind_22 lf_1_22 (x0) rfl ?_ | refine ev_getfield dX1_endsBehind_22 lf_1_22 (x1) rfl ?_ | refine ev_getfield dX1_endsBehind_22 lf_1_22 (x2) rfl ?_ | refine ev_getfield dX1_endsBehind_22 lf_1_22 (x3) rfl ?_ | refine ev_getfield dX1_endsBehind_22 lf_1_22 (x4) rfl ?_ | refine ev_getfield dX1_endsBehind_22 lf_1_22 (x5) rfl ?_
    refine ev_iload_n dX1_endsBehind_25 rfl rfl ?_
    first | refine ev_ialoadF dX1_endsBehind_26 (x0) (by omega) (by decide) ?_ | refine ev_ialoadF dX1_endsBehind_26 (x1) (by omega) (by decide) ?_ | refine ev_ialoadF dX1_endsBehind_26 (x2) (by omega) (by decide) ?_ | refine ev_ialoadF dX1_endsBehind_26 (x3) (by omega) (by decide) ?_ | refine ev_ialoadF dX1_endsBehind_26 (x4) (by omega) (by decide) ?_ | refine ev_ialoadF dX1_endsBehind_26 (x5) (by omega) (by decide) ?_
    rw [(hP u (by omega)).2.1]
    refine ev_iaddN dX1_endsBehind_27 ?_
    refine ev_iconst (nI 1) dX1_endsBehind_28 rfl ?_
    refine ev_isubN dX1_endsBehind_29 (by omega) ?_
    refine ev_icmp_neN 37 dX1_endsBehind_30 rfl (by omega) (by omega) (fun hc30 => ?_) (fun hc30 => ?_)
    · refine ev_iconst (nI 0) dX1_endsBehind_37 rfl ?_
      refine ev_zreturn dX1_endsBehind_38 rfl (by first | rfl | exact bI_nar _) (Or.inl rfl) (Nat.zero_le _) (Nat.zero_le _) ?_
      first | (rw [decide_eq_true (by omega)]; exact ⟨rfl, rfl⟩) | (rw [decide_eq_false (by omega)]; exact ⟨rfl, rfl⟩)
    · refine ev_iconst (nI 1) dX1_endsBehind_33 rfl ?_
      refine ev_goto 38 dX1_endsBehind_34 rfl ?_
      refine ev_zreturn dX1_endsBehind_38 rfl (by first | rfl | exact bI_nar _) (Or.inl rfl) (Nat.zero_le _) (Nat.zero_le _) ?_
      first | (rw [decide_eq_true (by omega)]; exact ⟨rfl, rfl⟩) | (rw [decide_eq_false (by omega)]; exact ⟨rfl, rfl⟩)
def sumN (s : Nat → Nat) (w j : Nat) : Nat := smN (fun b => s (j - b) * (b + 1)) (min w (j + 1))
theorem sumN_le {s : Nat → Nat} {w j : Nat} (hw : w ≤ 6) (hs : ∀ i, i ≤ j → s i ≤ 8) : sumN s w j ≤ 6 * 48 := by
  refine Nat.le_trans (smN_le (c := 48) (fun k hk => ?_)) (Nat.mul_le_mul_right _ (by omega))
  have h1 := hs (j - k) (by omega)
  have h2 := Nat.mul_le_mul h1 (show k + 1 ≤ 6 by omega)
  exact h2
set_option maxHeartbeats 4000000 in
set_option maxRecDepth 100000 in
theorem c_sumAt {X : mX} {h : mH} {g c : Nat} {v : Nat → Nat} {K : mCt} (hg : SetN h g v) (hc : CutN h c K) (j : Nat) (hj : j < kL K) : CnP X m_X3_sumAt [.ref g, .ref c, .int (nI j)] h (some (.int (nI (sumN (kS K) (v 0) j)))) := by
  obtain ⟨sg, st, le, fo, rr, ⟨x0, x1, x2, x3, x4, x5⟩, hL, hN, hS, hP⟩ := id hc
  obtain ⟨⟨z0, w, z1, hw⟩, hv0, hv1, hv2, hv3, hv4⟩ := id hg
  refine cn_of_ev (L0 := [_, _, _, _, _]) (by decide +kernel) rfl rfl (Nat.le_of_ble_eq_true rfl) rfl ?_
  have hw0 := hw 0 (by omega)
  refine ev_iconst (nI 0) dX3_sumAt_0 rfl ?_
  refine ev_istore_n (L' := [_, _, _, _, _]) dX3_sumAt_1 rfl (Nat.le_of_ble_eq_true rfl) rfl ?_
  refine ev_iconst (nI 0) dX3_sumAt_2 rfl ?_
  refine ev_istore (L' := [_, _, _, _, _]) dX3_sumAt_3 (Nat.le_of_ble_eq_true rfl) rfl ?_
  refine ev_pc (pc' := 5) rfl ?_
  have LP5 : ∀ (n : Nat) (k : Nat), v 0 - k = n → (k ≤ min (v 0) (j + 1)) → Ev X m_X3_sumAt B0 5 [.ref g, .ref c, .int (nI j), .int (nI (smN (fun b => kS K (j - b) * (b + 1)) k)), .int (nI k)] [] h (fun o h1 => o = .inl (some (.int (nI (sumN (kS K) (v 0) j)))) ∧ h1 = h) := by
    intro n
    induction n using Nat.strongRecOn with
    | _ n ih =>
      intro k hn hk
      refine ev_iload dX3_sumAt_5 rfl ?_
      refine ev_aload_n dX3_sumAt_7 rfl rfl ?_
      first | refine ev_getfield dX3_sumAt_8 lf_3_18 (x0) rfl ?_ | refine ev_getfield dX3_sumAt_8 lf_3_18 (x1) rfl ?_ | refine ev_getfield dX3_sumAt_8 lf_3_18 (x2) rfl ?_ | refine ev_getfield dX3_sumAt_8 lf_3_18 (x3) rfl ?_ | refine ev_getfield dX3_sumAt_8 lf_3_18 (x4) rfl ?_ | refine ev_getfield dX3_sumAt_8 lf_3_18 (x5) rfl ?_ | refine ev_getfield dX3_sumAt_8 lf_3_18 (z0) rfl ?_ | refine ev_getfield dX3_sumAt_8 lf_3_18 (z1) rfl ?_
      refine ev_iconst (nI 0) dX3_sumAt_11 rfl ?_
      first | refine ev_ialoadF dX3_sumAt_12 (x0) (by omega) (by decide) ?_ | refine ev_ialoadF dX3_sumAt_12 (x1) (by omega) (by decide) ?_ | refine ev_ialoadF dX3_sumAt_12 (x2) (by omega) (by decide) ?_ | refine ev_ialoadF dX3_sumAt_12 (x3) (by omega) (by decide) ?_ | refine ev_ialoadF dX3_sumAt_12 (x4) (by omega) (by decide) ?_ | refine ev_ialoadF dX3_sumAt_12 (x5) (by omega) (by decide) ?_ | refine ev_ialoadF dX3_sumAt_12 (z0) (by omega) (by decide) ?_ | refine ev_ialoadF dX3_sumAt_12 (z1) (by omega) (by decide) ?_
      rw [hw0]
      refine ev_icmp_geN 45 dX3_sumAt_13 rfl (by omega) (by omega) (fun hc13 => ?_) (fun hc13 => ?_)
      · refine ev_iload_n dX3_sumAt_45 rfl rfl ?_
        refine ev_ireturn dX3_sumAt_46 rfl (Or.inl rfl) (Nat.zero_le _) (Nat.zero_le _) ?_
        rw [sumN, show min (v 0) (j + 1) = k by omega]; exact ⟨rfl, rfl⟩
      · refine ev_iload dX3_sumAt_16 rfl ?_
        refine ev_iload_n dX3_sumAt_18 rfl rfl ?_
        refine ev_icmp_gtN 45 dX3_sumAt_19 rfl (by omega) (by omega) (fun hc19 => ?_) (fun hc19 => ?_)
        · refine ev_iload_n dX3_sumAt_45 rfl rfl ?_
          refine ev_ireturn dX3_sumAt_46 rfl (Or.inl rfl) (Nat.zero_le _) (Nat.zero_le _) ?_
          rw [sumN, show min (v 0) (j + 1) = k by omega]; exact ⟨rfl, rfl⟩
        · refine ev_iload_n dX3_sumAt_22 rfl rfl ?_
          refine ev_aload_n dX3_sumAt_23 rfl rfl ?_
          first | refine ev_getfield dX3_sumAt_24 lf_3_29 (x0) rfl ?_ | refine ev_getfield dX3_sumAt_24 lf_3_29 (x1) rfl ?_ | refine ev_getfield dX3_sumAt_24 lf_3_29 (x2) rfl ?_ | refine ev_getfield dX3_sumAt_24 lf_3_29 (x3) rfl ?_ | refine ev_getfield dX3_sumAt_24 lf_3_29 (x4) rfl ?_ | refine ev_getfield dX3_sumAt_24 lf_3_29 (x5) rfl ?_ | refine ev_getfield dX3_sumAt_24 lf_3_29 (z0) rfl ?_ | refine ev_getfield dX3_sumAt_24 lf_3_29 (z1) rfl ?_
          refine ev_iload_n dX3_sumAt_27 rfl rfl ?_
          refine ev_iload dX3_sumAt_28 rfl ?_
          refine ev_isubN dX3_sumAt_30 (by omega) ?_
          first | refine ev_ialoadF dX3_sumAt_31 (x0) (by omega) (by decide) ?_ | refine ev_ialoadF dX3_sumAt_31 (x1) (by omega) (by decide) ?_ | refine ev_ialoadF dX3_sumAt_31 (x2) (by omega) (by decide) ?_ | refine ev_ialoadF dX3_sumAt_31 (x3) (by omega) (by decide) ?_ | refine ev_ialoadF dX3_sumAt_31 (x4) (by omega) (by decide) ?_ | refine ev_ialoadF dX3_sumAt_31 (x5) (by omega) (by decide) ?_ | refine ev_ialoadF dX3_sumAt_31 (z0) (by omega) (by decide) ?_ | refine ev_ialoadF dX3_sumAt_31 (z1) (by omega) (by decide) ?_
          rw [(hS (j - k) (by omega)).1]
          refine ev_iload dX3_sumAt_32 rfl ?_
          refine ev_iconst (nI 1) dX3_sumAt_34 rfl ?_
          refine ev_iaddN dX3_sumAt_35 ?_
          refine ev_imulN dX3_sumAt_36 ?_
          refine ev_iaddN dX3_sumAt_37 ?_
          refine ev_istore_n (L' := [_, _, _, _, _]) dX3_sumAt_38 rfl (Nat.le_of_ble_eq_true rfl) rfl ?_
          refine ev_iincN (L' := [_, _, _, _, _]) 1 dX3_sumAt_39 rfl rfl ?_
          refine ev_goto 5 dX3_sumAt_42 rfl ?_
          refine ev_pc (pc' := 5) rfl ?_
          exact ih _ (by omega) (k + 1) rfl (by omega)
  exact LP5 _ 0 rfl (Nat.zero_le _)
set_option maxHeartbeats 4000000 in
set_option maxRecDepth 100000 in
theorem c_endPieceAt {X : mX} {h : mH} {g c : Nat} {v : Nat → Nat} {K : mCt} (hg : SetN h g v) (hc : CutN h c K) (j : Nat) (hj : j < kL K) : CnP X m_X3_endPieceAt [.ref g, .ref c, .int (nI j)] h (some (.int (bI (decide (sumN (kS K) (v 0) j % v 1 = v 2))))) := by
  obtain ⟨sg, st, le, fo, rr, ⟨x0, x1, x2, x3, x4, x5⟩, hL, hN, hS, hP⟩ := id hc
  obtain ⟨⟨z0, w, z1, hw⟩, hv0, hv1, hv2, hv3, hv4⟩ := id hg
  refine cn_of_ev (L0 := [_, _, _, _]) (by decide +kernel) rfl rfl (Nat.le_of_ble_eq_true rfl) rfl ?_
  have hw1 := hw 1 (by omega)
  have hw2 := hw 2 (by omega)
  have hsm := sumN_le (s := kS K) (w := v 0) (j := j) hv0.2 (fun i hi => (hS i (by omega)).2)
  have hmod := Nat.mod_lt (sumN (kS K) (v 0) j) (show 0 < v 1 by omega)
  refine ev_aload_n dX3_endPieceAt_0 rfl rfl ?_
  first | refine ev_getfield dX3_endPieceAt_1 lf_3_18 (x0) rfl ?_ | refine ev_getfield dX3_endPieceAt_1 lf_3_18 (x1) rfl ?_ | refine ev_getfield dX3_endPieceAt_1 lf_3_18 (x2) rfl ?_ | refine ev_getfield dX3_endPieceAt_1 lf_3_18 (x3) rfl ?_ | refine ev_getfield dX3_endPieceAt_1 lf_3_18 (x4) rfl ?_ | refine ev_getfield dX3_endPieceAt_1 lf_3_18 (x5) rfl ?_ | refine ev_getfield dX3_endPieceAt_1 lf_3_18 (z0) rfl ?_ | refine ev_getfield dX3_endPieceAt_1 lf_3_18 (z1) rfl ?_
  refine ev_iconst (nI 1) dX3_endPieceAt_4 rfl ?_
  first | refine ev_ialoadF dX3_endPieceAt_5 (x0) (by omega) (by decide) ?_ | refine ev_ialoadF dX3_endPieceAt_5 (x1) (by omega) (by decide) ?_ | refine ev_ialoadF dX3_endPieceAt_5 (x2) (by omega) (by decide) ?_ | refine ev_ialoadF dX3_endPieceAt_5 (x3) (by omega) (by decide) ?_ | refine ev_ialoadF dX3_endPieceAt_5 (x4) (by omega) (by decide) ?_ | refine ev_ialoadF dX3_endPieceAt_5 (x5) (by omega) (by decide) ?_ | refine ev_ialoadF dX3_endPieceAt_5 (z0) (by omega) (by decide) ?_ | refine ev_ialoadF dX3_endPieceAt_5 (z1) (by omega) (by decide) ?_
  rw [hw1]
  refine ev_istore_n (L' := [_, _, _, _]) dX3_endPieceAt_6 rfl (Nat.le_of_ble_eq_true rfl) rfl ?_
  refine ev_iload_n dX3_endPieceAt_7 rfl rfl ?_
  refine ev_if_leN 32 dX3_endPieceAt_8 rfl (by omega) (fun hc8 => ?_) (fun hc8 => ?_)
  · refine ev_iconst (nI 0) dX3_endPieceAt_32 rfl ?_
    refine ev_zreturn dX3_endPieceAt_33 rfl (by first | rfl | exact bI_nar _) (Or.inl rfl) (Nat.zero_le _) (Nat.zero_le _) ?_
    first | (rw [decide_eq_true (by omega)]; exact ⟨rfl, rfl⟩) | (rw [decide_eq_false (by omega)]; exact ⟨rfl, rfl⟩)
  · refine ev_aload_n dX3_endPieceAt_11 rfl rfl ?_
    refine ev_aload_n dX3_endPieceAt_12 rfl rfl ?_
    refine ev_iload_n dX3_endPieceAt_13 rfl rfl ?_
    first | refine ev_callVP2 dX3_endPieceAt_14 cal_X3_sumAt lk_3_34 ⟨(Nat.le_of_ble_eq_true rfl), (Nat.le_of_ble_eq_true rfl)⟩ rfl (x0) (Nat.le_of_ble_eq_true rfl) (c_sumAt hg hc j hj) ?_ | refine ev_callVP2 dX3_endPieceAt_14 cal_X3_sumAt lk_3_34 ⟨(Nat.le_of_ble_eq_true rfl), (Nat.le_of_ble_eq_true rfl)⟩ rfl (x1) (Nat.le_of_ble_eq_true rfl) (c_sumAt hg hc j hj) ?_ | refine ev_callVP2 dX3_endPieceAt_14 cal_X3_sumAt lk_3_34 ⟨(Nat.le_of_ble_eq_true rfl), (Nat.le_of_ble_eq_true rfl)⟩ rfl (x2) (Nat.le_of_ble_eq_true rfl) (c_sumAt hg hc j hj) ?_ | refine ev_callVP2 dX3_endPieceAt_14 cal_X3_sumAt lk_3_34 ⟨(Nat.le_of_ble_eq_true rfl), (Nat.le_of_ble_eq_true rfl)⟩ rfl (x3) (Nat.le_of_ble_eq_true rfl) (c_sumAt hg hc j hj) ?_ | refine ev_callVP2 dX3_endPieceAt_14 cal_X3_sumAt lk_3_34 ⟨(Nat.le_of_ble_eq_true rfl), (Nat.le_of_ble_eq_true rfl)⟩ rfl (x4) (Nat.le_of_ble_eq_true rfl) (c_sumAt hg hc j hj) ?_ | refine ev_callVP2 dX3_endPieceAt_14 cal_X3_sumAt lk_3_34 ⟨(Nat.le_of_ble_eq_true rfl), (Nat.le_of_ble_eq_true rfl)⟩ rfl (x5) (Nat.le_of_ble_eq_true rfl) (c_sumAt hg hc j hj) ?_ | refine ev_callVP2 dX3_endPieceAt_14 cal_X3_sumAt lk_3_34 ⟨(Nat.le_of_ble_eq_true rfl), (Nat.le_of_ble_eq_true rfl)⟩ rfl (z0) (Nat.le_of_ble_eq_true rfl) (c_sumAt hg hc j hj) ?_ | refine ev_callVP2 dX3_endPieceAt_14 cal_X3_sumAt lk_3_34 ⟨(Nat.le_of_ble_eq_true rfl), (Nat.le_of_ble_eq_true rfl)⟩ rfl (z1) (Nat.le_of_ble_eq_true rfl) (c_sumAt hg hc j hj) ?_
    refine ev_iload_n dX3_endPieceAt_17 rfl rfl ?_
    refine ev_iremN dX3_endPieceAt_18 (by omega) (by omega) (by omega) ?_
    refine ev_aload_n dX3_endPieceAt_19 rfl rfl ?_
    first | refine ev_getfield dX3_endPieceAt_20 lf_3_18 (x0) rfl ?_ | refine ev_getfield dX3_endPieceAt_20 lf_3_18 (x1) rfl ?_ | refine ev_getfield dX3_endPieceAt_20 lf_3_18 (x2) rfl ?_ | refine ev_getfield dX3_endPieceAt_20 lf_3_18 (x3) rfl ?_ | refine ev_getfield dX3_endPieceAt_20 lf_3_18 (x4) rfl ?_ | refine ev_getfield dX3_endPieceAt_20 lf_3_18 (x5) rfl ?_ | refine ev_getfield dX3_endPieceAt_20 lf_3_18 (z0) rfl ?_ | refine ev_getfield dX3_endPieceAt_20 lf_3_18 (z1) rfl ?_
    refine ev_iconst (nI 2) dX3_endPieceAt_23 rfl ?_
    first | refine ev_ialoadF dX3_endPieceAt_24 (x0) (by omega) (by decide) ?_ | refine ev_ialoadF dX3_endPieceAt_24 (x1) (by omega) (by decide) ?_ | refine ev_ialoadF dX3_endPieceAt_24 (x2) (by omega) (by decide) ?_ | refine ev_ialoadF dX3_endPieceAt_24 (x3) (by omega) (by decide) ?_ | refine ev_ialoadF dX3_endPieceAt_24 (x4) (by omega) (by decide) ?_ | refine ev_ialoadF dX3_endPieceAt_24 (x5) (by omega) (by decide) ?_ | refine ev_ialoadF dX3_endPieceAt_24 (z0) (by omega) (by decide) ?_ | refine ev_ialoadF dX3_endPieceAt_24 (z1) (by omega) (by decide) ?_
    rw [hw2]
    refine ev_icmp_neN 32 dX3_endPieceAt_25 rfl (by omega) (by omega) (fun hc25 => ?_) (fun hc25 => ?_)
    · refine ev_iconst (nI 0) dX3_endPieceAt_32 rfl ?_
      refine ev_zreturn dX3_endPieceAt_33 rfl (by first | rfl | exact bI_nar _) (Or.inl rfl) (Nat.zero_le _) (Nat.zero_le _) ?_
      first | (rw [decide_eq_true (by omega)]; exact ⟨rfl, rfl⟩) | (rw [decide_eq_false (by omega)]; exact ⟨rfl, rfl⟩)
    · refine ev_iconst (nI 1) dX3_endPieceAt_28 rfl ?_
      refine ev_goto 33 dX3_endPieceAt_29 rfl ?_
      refine ev_zreturn dX3_endPieceAt_33 rfl (by first | rfl | exact bI_nar _) (Or.inl rfl) (Nat.zero_le _) (Nat.zero_le _) ?_
      first | (rw [decide_eq_true (by omega)]; exact ⟨rfl, rfl⟩) | (rw [decide_eq_false (by omega)]; exact ⟨rfl, rfl⟩)
