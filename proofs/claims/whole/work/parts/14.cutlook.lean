set_option maxHeartbeats 4000000 in
set_option maxRecDepth 100000 in
theorem c_hasAheadOf {X : mX} {h : mH} {c : Nat} {K : mCt} (hc : CutN h c K) (e : Nat) (he : e ≤ 40) (row : Int64) : CnP X m_X1_hasAheadOf [.ref c, .int (nI e), .long row] h (some (.int (bI (exN (fun p => kR K p == row) (min e (kN K)))))) := by
  obtain ⟨sg, st, le, fo, rr, ⟨x0, x1, x2, x3, x4, x5⟩, hL, hN, hS, hP⟩ := hc
  refine cn_of_ev (L0 := [_, _, _, _, _]) (by decide +kernel) rfl rfl (Nat.le_of_ble_eq_true rfl) rfl ?_
  refine ev_iconst (nI 0) dX1_hasAheadOf_0 rfl ?_
  refine ev_istore (L' := [_, _, _, _, _]) dX1_hasAheadOf_1 (Nat.le_of_ble_eq_true rfl) rfl ?_
  refine ev_pc (pc' := 3) rfl ?_
  have LP3 : ∀ (n : Nat) (k : Nat), kN K - k = n → (k ≤ min e (kN K)) → (∀ q, q < k → ¬ kR K q = row) → Ev X m_X1_hasAheadOf B0 3 [.ref c, .int (nI e), .long row, jk, .int (nI k)] [] h (fun o h1 => o = .inl (some (.int (bI (exN (fun p => kR K p == row) (min e (kN K)))))) ∧ h1 = h) := by
    intro n
    induction n using Nat.strongRecOn with
    | _ n ih =>
      intro k hn hk hno
      refine ev_iload dX1_hasAheadOf_3 rfl ?_
      refine ev_iload_n dX1_hasAheadOf_5 rfl rfl ?_
      first | refine ev_icmp_geN 38 dX1_hasAheadOf_6 rfl (by omega) (by omega) (fun hc6 => ?_) (fun hc6 => ?_) | refine ev_icmp_ge 38 dX1_hasAheadOf_6 rfl (fun hc6 => ?_) (fun hc6 => ?_)
      · refine ev_iconst (nI 0) dX1_hasAheadOf_38 rfl ?_
        refine ev_zreturn dX1_hasAheadOf_39 rfl (by first | rfl | exact bI_nar _) (Or.inl rfl) (Nat.zero_le _) (Nat.zero_le _) ?_
        exact ⟨by rw [exN_no (fun q hq => by simpa using hno q (by omega))]; rfl, rfl⟩
      · refine ev_iload dX1_hasAheadOf_9 rfl ?_
        refine ev_aload_n dX1_hasAheadOf_11 rfl rfl ?_
        first | refine ev_getfield dX1_hasAheadOf_12 lf_1_32 (x0) rfl ?_ | refine ev_getfield dX1_hasAheadOf_12 lf_1_32 (x1) rfl ?_ | refine ev_getfield dX1_hasAheadOf_12 lf_1_32 (x2) rfl ?_ | refine ev_getfield dX1_hasAheadOf_12 lf_1_32 (x3) rfl ?_ | refine ev_getfield dX1_hasAheadOf_12 lf_1_32 (x4) rfl ?_ | refine ev_getfield dX1_hasAheadOf_12 lf_1_32 (x5) rfl ?_
        first | refine ev_icmp_geN 38 dX1_hasAheadOf_15 rfl (by omega) (by omega) (fun hc15 => ?_) (fun hc15 => ?_) | refine ev_icmp_ge 38 dX1_hasAheadOf_15 rfl (fun hc15 => ?_) (fun hc15 => ?_)
        · refine ev_iconst (nI 0) dX1_hasAheadOf_38 rfl ?_
          refine ev_zreturn dX1_hasAheadOf_39 rfl (by first | rfl | exact bI_nar _) (Or.inl rfl) (Nat.zero_le _) (Nat.zero_le _) ?_
          exact ⟨by rw [exN_no (fun q hq => by simpa using hno q (by omega))]; rfl, rfl⟩
        · refine ev_aload_n dX1_hasAheadOf_18 rfl rfl ?_
          first | refine ev_getfield dX1_hasAheadOf_19 lf_1_28 (x0) rfl ?_ | refine ev_getfield dX1_hasAheadOf_19 lf_1_28 (x1) rfl ?_ | refine ev_getfield dX1_hasAheadOf_19 lf_1_28 (x2) rfl ?_ | refine ev_getfield dX1_hasAheadOf_19 lf_1_28 (x3) rfl ?_ | refine ev_getfield dX1_hasAheadOf_19 lf_1_28 (x4) rfl ?_ | refine ev_getfield dX1_hasAheadOf_19 lf_1_28 (x5) rfl ?_
          refine ev_iload dX1_hasAheadOf_22 rfl ?_
          first | refine ev_laloadN dX1_hasAheadOf_24 (x0) (by omega) (by decide) ?_ | refine ev_laloadN dX1_hasAheadOf_24 (x1) (by omega) (by decide) ?_ | refine ev_laloadN dX1_hasAheadOf_24 (x2) (by omega) (by decide) ?_ | refine ev_laloadN dX1_hasAheadOf_24 (x3) (by omega) (by decide) ?_ | refine ev_laloadN dX1_hasAheadOf_24 (x4) (by omega) (by decide) ?_ | refine ev_laloadN dX1_hasAheadOf_24 (x5) (by omega) (by decide) ?_
          refine ev_lload_n dX1_hasAheadOf_25 rfl rfl ?_
          refine ev_lcmp_ne 32 dX1_hasAheadOf_26 dX1_hasAheadOf_27 rfl (fun hc27 => ?_) (fun hc27 => ?_)
          · refine ev_iincN (L' := [_, _, _, _, _]) 1 dX1_hasAheadOf_32 rfl rfl ?_
            refine ev_goto 3 dX1_hasAheadOf_35 rfl ?_
            refine ev_pc (pc' := 3) rfl ?_
            exact ih _ (by omega) (k + 1) rfl (by omega) (fun q hq => by rcases Nat.lt_succ_iff_lt_or_eq.mp hq with z | z; exact hno q z; rw [z, ← (hP k (by omega)).2.2.2.1]; exact hc27)
          · refine ev_iconst (nI 1) dX1_hasAheadOf_30 rfl ?_
            refine ev_zreturn dX1_hasAheadOf_31 rfl (by first | rfl | exact bI_nar _) (Or.inl rfl) (Nat.zero_le _) (Nat.zero_le _) ?_
            exact ⟨by rw [exN_yes (k := k) (by omega) (by rw [← (hP k (by omega)).2.2.2.1, hc27]; exact beq_self_eq_true _)]; rfl, rfl⟩
  exact LP3 _ 0 rfl (Nat.zero_le _) (fun q hq => by omega)
