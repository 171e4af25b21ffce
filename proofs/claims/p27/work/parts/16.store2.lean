theorem ev_fgt {X : mX} {M : mMD} {B : mB} {pc : Nat} {L L' st : List Value} {h : mH} {Q : mO → mH → Prop} (i : Nat) (hL' : L.set i jk = L') (k : Ev X M B pc L' st h Q) : Ev X M B pc L st h Q := by
  subst hL'
  intro p e s m args below meth c H locs ls R C hc hs hW hS hL T hT Y
  refine k p e s m args below meth c H locs ls R C hc hs hW hS ?_ T hT Y
  obtain ⟨a1, a2, a3, a4⟩ := hL
  refine ⟨a1, by rw [List.length_set]; exact a2, a3, fun j v hj hv => a4 j v ?_ hv⟩
  rw [List.getElem?_set] at hj
  split at hj
  · split at hj
    · cases hj; exact absurd rfl hv
    · cases hj
  · exact hj
def isIn (S : mSo) (w : Int64) : Bool := decide (slU S w < 60)
/-- a piece that is the first such of the cut, and that the store lacks -/
def isMiss (S : mSo) (K : mCt) (p : Nat) : Bool := !(exN (fun q => kR K q == kR K p) p) && !(isIn S (kR K p))
def ndS (S : mSo) (K : mCt) : Nat := ctN (isMiss S K) (kN K)
def ndR (S : mSo) (K : mCt) : Nat := smN (fun p => if isMiss S K p = true then kQ K p else 0) (kN K)
def pcS (S : mSo) : Nat := ctN (fun k => !(isF S k)) 60
def szS (S : mSo) : Nat := smN (fun k => if isF S k = true then 0 else rl (sR S k)) 60
def fitS (S : mSo) (K : mCt) : Bool := decide (ndS S K ≤ 60 - pcS S ∧ ndR S K ≤ 150 - szS S)
theorem isMiss_y {S : mSo} {K : mCt} {p : Nat} (h1 : exN (fun q => kR K q == kR K p) p = false) (h2 : slI (slU S (kR K p)) = -1) : isMiss S K p = true := by simp [isMiss, isIn, h1, slI_eq h2]
theorem isMiss_n1 {S : mSo} {K : mCt} {p : Nat} (h1 : exN (fun q => kR K q == kR K p) p = true) : isMiss S K p = false := by simp [isMiss, h1]
theorem isMiss_n2 {S : mSo} {K : mCt} {p : Nat} (h2 : ¬ slI (slU S (kR K p)) = -1) : isMiss S K p = false := by simp [isMiss, isIn, slI_ne h2]
theorem ndR_le {S : mSo} {K : mCt} (h : ∀ p, p < kN K → kQ K p ≤ 40) : ndR S K ≤ kN K * 40 := smN_le (fun k hk => by
  split
  · exact h k hk
  · exact Nat.zero_le _)
set_option maxHeartbeats 4000000 in
set_option maxRecDepth 100000 in
theorem c_slotsNeededBy {X : mX} {h : mH} {c d : Nat} {S : mSo} {K : mCt} (hs : StoreN h d S) (hc : CutN h c K) : CnP X m_X5_slotsNeededBy [.ref d, .ref c] h (some (.int (nI (ndS S K)))) := by
  obtain ⟨rr, ln, ow, ⟨y0, y1, y2, y3⟩, hV⟩ := id hs
  obtain ⟨sg, st, le, fo, rk, ⟨x0, x1, x2, x3, x4, x5⟩, hL, hN, hS, hP⟩ := id hc
  refine cn_of_ev (L0 := [_, _, _, _]) (by decide +kernel) rfl rfl (Nat.le_of_ble_eq_true rfl) rfl ?_
  refine ev_iconst (nI 0) dX5_slotsNeededBy_0 rfl ?_
  refine ev_istore_n (L' := [_, _, _, _]) dX5_slotsNeededBy_1 rfl (Nat.le_of_ble_eq_true rfl) rfl ?_
  refine ev_iconst (nI 0) dX5_slotsNeededBy_2 rfl ?_
  refine ev_istore_n (L' := [_, _, _, _]) dX5_slotsNeededBy_3 rfl (Nat.le_of_ble_eq_true rfl) rfl ?_
  refine ev_pc (pc' := 4) rfl ?_
  have LP4 : ∀ (n : Nat) (k : Nat), kN K - k = n → (k ≤ kN K) → Ev X m_X5_slotsNeededBy B0 4 [.ref d, .ref c, .int (nI (ctN (isMiss S K) k)), .int (nI k)] [] h (fun o h1 => o = .inl (some (.int (nI (ndS S K)))) ∧ h1 = h) := by
    intro n
    induction n using Nat.strongRecOn with
    | _ n ih =>
      intro k hn hk
      refine ev_iload_n dX5_slotsNeededBy_4 rfl rfl ?_
      refine ev_aload_n dX5_slotsNeededBy_5 rfl rfl ?_
      first | refine ev_getfield dX5_slotsNeededBy_6 lf_5_37 (x0) rfl ?_ | refine ev_getfield dX5_slotsNeededBy_6 lf_5_37 (x1) rfl ?_ | refine ev_getfield dX5_slotsNeededBy_6 lf_5_37 (x2) rfl ?_ | refine ev_getfield dX5_slotsNeededBy_6 lf_5_37 (x3) rfl ?_ | refine ev_getfield dX5_slotsNeededBy_6 lf_5_37 (x4) rfl ?_ | refine ev_getfield dX5_slotsNeededBy_6 lf_5_37 (x5) rfl ?_ | refine ev_getfield dX5_slotsNeededBy_6 lf_5_37 (y0) rfl ?_ | refine ev_getfield dX5_slotsNeededBy_6 lf_5_37 (y1) rfl ?_ | refine ev_getfield dX5_slotsNeededBy_6 lf_5_37 (y2) rfl ?_ | refine ev_getfield dX5_slotsNeededBy_6 lf_5_37 (y3) rfl ?_
      refine ev_icmp_geN 49 dX5_slotsNeededBy_9 rfl (by omega) (by omega) (fun hc9 => ?_) (fun hc9 => ?_)
      · refine ev_iload_n dX5_slotsNeededBy_49 rfl rfl ?_
        refine ev_ireturn dX5_slotsNeededBy_50 rfl (Or.inl rfl) (Nat.zero_le _) (Nat.zero_le _) ?_
        rw [show k = kN K by omega]; exact ⟨rfl, rfl⟩
      · refine ev_aload_n dX5_slotsNeededBy_12 rfl rfl ?_
        refine ev_iload_n dX5_slotsNeededBy_13 rfl rfl ?_
        refine ev_aload_n dX5_slotsNeededBy_14 rfl rfl ?_
        first | refine ev_getfield dX5_slotsNeededBy_15 lf_5_42 (x0) rfl ?_ | refine ev_getfield dX5_slotsNeededBy_15 lf_5_42 (x1) rfl ?_ | refine ev_getfield dX5_slotsNeededBy_15 lf_5_42 (x2) rfl ?_ | refine ev_getfield dX5_slotsNeededBy_15 lf_5_42 (x3) rfl ?_ | refine ev_getfield dX5_slotsNeededBy_15 lf_5_42 (x4) rfl ?_ | refine ev_getfield dX5_slotsNeededBy_15 lf_5_42 (x5) rfl ?_ | refine ev_getfield dX5_slotsNeededBy_15 lf_5_42 (y0) rfl ?_ | refine ev_getfield dX5_slotsNeededBy_15 lf_5_42 (y1) rfl ?_ | refine ev_getfield dX5_slotsNeededBy_15 lf_5_42 (y2) rfl ?_ | refine ev_getfield dX5_slotsNeededBy_15 lf_5_42 (y3) rfl ?_
        refine ev_iload_n dX5_slotsNeededBy_18 rfl rfl ?_
        first | refine ev_laloadN dX5_slotsNeededBy_19 (x0) (by omega) (by decide) ?_ | refine ev_laloadN dX5_slotsNeededBy_19 (x1) (by omega) (by decide) ?_ | refine ev_laloadN dX5_slotsNeededBy_19 (x2) (by omega) (by decide) ?_ | refine ev_laloadN dX5_slotsNeededBy_19 (x3) (by omega) (by decide) ?_ | refine ev_laloadN dX5_slotsNeededBy_19 (x4) (by omega) (by decide) ?_ | refine ev_laloadN dX5_slotsNeededBy_19 (x5) (by omega) (by decide) ?_ | refine ev_laloadN dX5_slotsNeededBy_19 (y0) (by omega) (by decide) ?_ | refine ev_laloadN dX5_slotsNeededBy_19 (y1) (by omega) (by decide) ?_ | refine ev_laloadN dX5_slotsNeededBy_19 (y2) (by omega) (by decide) ?_ | refine ev_laloadN dX5_slotsNeededBy_19 (y3) (by omega) (by decide) ?_
        rw [(hP k (by omega)).2.2.2.1]
        first | refine ev_callVP2 dX5_slotsNeededBy_20 cal_X1_hasAheadOf lk_5_73 ⟨(Nat.le_of_ble_eq_true rfl), (Nat.le_of_ble_eq_true rfl)⟩ rfl (x0) (Nat.le_of_ble_eq_true rfl) (c_ahead hc k (by omega) _) ?_ | refine ev_callVP2 dX5_slotsNeededBy_20 cal_X1_hasAheadOf lk_5_73 ⟨(Nat.le_of_ble_eq_true rfl), (Nat.le_of_ble_eq_true rfl)⟩ rfl (x1) (Nat.le_of_ble_eq_true rfl) (c_ahead hc k (by omega) _) ?_ | refine ev_callVP2 dX5_slotsNeededBy_20 cal_X1_hasAheadOf lk_5_73 ⟨(Nat.le_of_ble_eq_true rfl), (Nat.le_of_ble_eq_true rfl)⟩ rfl (x2) (Nat.le_of_ble_eq_true rfl) (c_ahead hc k (by omega) _) ?_ | refine ev_callVP2 dX5_slotsNeededBy_20 cal_X1_hasAheadOf lk_5_73 ⟨(Nat.le_of_ble_eq_true rfl), (Nat.le_of_ble_eq_true rfl)⟩ rfl (x3) (Nat.le_of_ble_eq_true rfl) (c_ahead hc k (by omega) _) ?_ | refine ev_callVP2 dX5_slotsNeededBy_20 cal_X1_hasAheadOf lk_5_73 ⟨(Nat.le_of_ble_eq_true rfl), (Nat.le_of_ble_eq_true rfl)⟩ rfl (x4) (Nat.le_of_ble_eq_true rfl) (c_ahead hc k (by omega) _) ?_ | refine ev_callVP2 dX5_slotsNeededBy_20 cal_X1_hasAheadOf lk_5_73 ⟨(Nat.le_of_ble_eq_true rfl), (Nat.le_of_ble_eq_true rfl)⟩ rfl (x5) (Nat.le_of_ble_eq_true rfl) (c_ahead hc k (by omega) _) ?_ | refine ev_callVP2 dX5_slotsNeededBy_20 cal_X1_hasAheadOf lk_5_73 ⟨(Nat.le_of_ble_eq_true rfl), (Nat.le_of_ble_eq_true rfl)⟩ rfl (y0) (Nat.le_of_ble_eq_true rfl) (c_ahead hc k (by omega) _) ?_ | refine ev_callVP2 dX5_slotsNeededBy_20 cal_X1_hasAheadOf lk_5_73 ⟨(Nat.le_of_ble_eq_true rfl), (Nat.le_of_ble_eq_true rfl)⟩ rfl (y1) (Nat.le_of_ble_eq_true rfl) (c_ahead hc k (by omega) _) ?_ | refine ev_callVP2 dX5_slotsNeededBy_20 cal_X1_hasAheadOf lk_5_73 ⟨(Nat.le_of_ble_eq_true rfl), (Nat.le_of_ble_eq_true rfl)⟩ rfl (y2) (Nat.le_of_ble_eq_true rfl) (c_ahead hc k (by omega) _) ?_ | refine ev_callVP2 dX5_slotsNeededBy_20 cal_X1_hasAheadOf lk_5_73 ⟨(Nat.le_of_ble_eq_true rfl), (Nat.le_of_ble_eq_true rfl)⟩ rfl (y3) (Nat.le_of_ble_eq_true rfl) (c_ahead hc k (by omega) _) ?_
        refine ev_if_neB 43 dX5_slotsNeededBy_23 rfl (fun hc23 => ?_) (fun hc23 => ?_)
        · refine ev_pc (pc' := 43) rfl ?_
          first | (have e := isMiss_y (S := S) (K := K) (p := k) hc23 hc37; rw [show ctN (isMiss S K) k + 1 = ctN (isMiss S K) (k + 1) from by simp [ctN, e]]) | (have e := isMiss_n1 (S := S) (K := K) (p := k) hc23; rw [show ctN (isMiss S K) k = ctN (isMiss S K) (k + 1) from by simp [ctN, e]]) | (have e := isMiss_n2 (S := S) (K := K) (p := k) hc37; rw [show ctN (isMiss S K) k = ctN (isMiss S K) (k + 1) from by simp [ctN, e]])
          refine ev_iincN (L' := [_, _, _, _]) 1 dX5_slotsNeededBy_43 rfl rfl ?_
          refine ev_goto 4 dX5_slotsNeededBy_46 rfl ?_
          refine ev_pc (pc' := 4) rfl ?_
          exact ih _ (by omega) (k + 1) rfl (by omega)
        · refine ev_aload_n dX5_slotsNeededBy_26 rfl rfl ?_
          refine ev_aload_n dX5_slotsNeededBy_27 rfl rfl ?_
          first | refine ev_getfield dX5_slotsNeededBy_28 lf_5_42 (x0) rfl ?_ | refine ev_getfield dX5_slotsNeededBy_28 lf_5_42 (x1) rfl ?_ | refine ev_getfield dX5_slotsNeededBy_28 lf_5_42 (x2) rfl ?_ | refine ev_getfield dX5_slotsNeededBy_28 lf_5_42 (x3) rfl ?_ | refine ev_getfield dX5_slotsNeededBy_28 lf_5_42 (x4) rfl ?_ | refine ev_getfield dX5_slotsNeededBy_28 lf_5_42 (x5) rfl ?_ | refine ev_getfield dX5_slotsNeededBy_28 lf_5_42 (y0) rfl ?_ | refine ev_getfield dX5_slotsNeededBy_28 lf_5_42 (y1) rfl ?_ | refine ev_getfield dX5_slotsNeededBy_28 lf_5_42 (y2) rfl ?_ | refine ev_getfield dX5_slotsNeededBy_28 lf_5_42 (y3) rfl ?_
          refine ev_iload_n dX5_slotsNeededBy_31 rfl rfl ?_
          first | refine ev_laloadN dX5_slotsNeededBy_32 (x0) (by omega) (by decide) ?_ | refine ev_laloadN dX5_slotsNeededBy_32 (x1) (by omega) (by decide) ?_ | refine ev_laloadN dX5_slotsNeededBy_32 (x2) (by omega) (by decide) ?_ | refine ev_laloadN dX5_slotsNeededBy_32 (x3) (by omega) (by decide) ?_ | refine ev_laloadN dX5_slotsNeededBy_32 (x4) (by omega) (by decide) ?_ | refine ev_laloadN dX5_slotsNeededBy_32 (x5) (by omega) (by decide) ?_ | refine ev_laloadN dX5_slotsNeededBy_32 (y0) (by omega) (by decide) ?_ | refine ev_laloadN dX5_slotsNeededBy_32 (y1) (by omega) (by decide) ?_ | refine ev_laloadN dX5_slotsNeededBy_32 (y2) (by omega) (by decide) ?_ | refine ev_laloadN dX5_slotsNeededBy_32 (y3) (by omega) (by decide) ?_
          rw [(hP k (by omega)).2.2.2.1]
          first | refine ev_callVP1 dX5_slotsNeededBy_33 cal_X5_slotOf lk_5_43 ⟨(Nat.le_of_ble_eq_true rfl), (Nat.le_of_ble_eq_true rfl)⟩ rfl (x0) (Nat.le_of_ble_eq_true rfl) (c_slotOf hs _) ?_ | refine ev_callVP1 dX5_slotsNeededBy_33 cal_X5_slotOf lk_5_43 ⟨(Nat.le_of_ble_eq_true rfl), (Nat.le_of_ble_eq_true rfl)⟩ rfl (x1) (Nat.le_of_ble_eq_true rfl) (c_slotOf hs _) ?_ | refine ev_callVP1 dX5_slotsNeededBy_33 cal_X5_slotOf lk_5_43 ⟨(Nat.le_of_ble_eq_true rfl), (Nat.le_of_ble_eq_true rfl)⟩ rfl (x2) (Nat.le_of_ble_eq_true rfl) (c_slotOf hs _) ?_ | refine ev_callVP1 dX5_slotsNeededBy_33 cal_X5_slotOf lk_5_43 ⟨(Nat.le_of_ble_eq_true rfl), (Nat.le_of_ble_eq_true rfl)⟩ rfl (x3) (Nat.le_of_ble_eq_true rfl) (c_slotOf hs _) ?_ | refine ev_callVP1 dX5_slotsNeededBy_33 cal_X5_slotOf lk_5_43 ⟨(Nat.le_of_ble_eq_true rfl), (Nat.le_of_ble_eq_true rfl)⟩ rfl (x4) (Nat.le_of_ble_eq_true rfl) (c_slotOf hs _) ?_ | refine ev_callVP1 dX5_slotsNeededBy_33 cal_X5_slotOf lk_5_43 ⟨(Nat.le_of_ble_eq_true rfl), (Nat.le_of_ble_eq_true rfl)⟩ rfl (x5) (Nat.le_of_ble_eq_true rfl) (c_slotOf hs _) ?_ | refine ev_callVP1 dX5_slotsNeededBy_33 cal_X5_slotOf lk_5_43 ⟨(Nat.le_of_ble_eq_true rfl), (Nat.le_of_ble_eq_true rfl)⟩ rfl (y0) (Nat.le_of_ble_eq_true rfl) (c_slotOf hs _) ?_ | refine ev_callVP1 dX5_slotsNeededBy_33 cal_X5_slotOf lk_5_43 ⟨(Nat.le_of_ble_eq_true rfl), (Nat.le_of_ble_eq_true rfl)⟩ rfl (y1) (Nat.le_of_ble_eq_true rfl) (c_slotOf hs _) ?_ | refine ev_callVP1 dX5_slotsNeededBy_33 cal_X5_slotOf lk_5_43 ⟨(Nat.le_of_ble_eq_true rfl), (Nat.le_of_ble_eq_true rfl)⟩ rfl (y2) (Nat.le_of_ble_eq_true rfl) (c_slotOf hs _) ?_ | refine ev_callVP1 dX5_slotsNeededBy_33 cal_X5_slotOf lk_5_43 ⟨(Nat.le_of_ble_eq_true rfl), (Nat.le_of_ble_eq_true rfl)⟩ rfl (y3) (Nat.le_of_ble_eq_true rfl) (c_slotOf hs _) ?_
          refine ev_iconst (-1) dX5_slotsNeededBy_36 rfl ?_
          refine ev_icmp_ne 43 dX5_slotsNeededBy_37 rfl (fun hc37 => ?_) (fun hc37 => ?_)
          · refine ev_pc (pc' := 43) rfl ?_
            first | (have e := isMiss_y (S := S) (K := K) (p := k) hc23 hc37; rw [show ctN (isMiss S K) k + 1 = ctN (isMiss S K) (k + 1) from by simp [ctN, e]]) | (have e := isMiss_n1 (S := S) (K := K) (p := k) hc23; rw [show ctN (isMiss S K) k = ctN (isMiss S K) (k + 1) from by simp [ctN, e]]) | (have e := isMiss_n2 (S := S) (K := K) (p := k) hc37; rw [show ctN (isMiss S K) k = ctN (isMiss S K) (k + 1) from by simp [ctN, e]])
            refine ev_iincN (L' := [_, _, _, _]) 1 dX5_slotsNeededBy_43 rfl rfl ?_
            refine ev_goto 4 dX5_slotsNeededBy_46 rfl ?_
            refine ev_pc (pc' := 4) rfl ?_
            exact ih _ (by omega) (k + 1) rfl (by omega)
          · refine ev_iincN (L' := [_, _, _, _]) 1 dX5_slotsNeededBy_40 rfl rfl ?_
            refine ev_pc (pc' := 43) rfl ?_
            first | (have e := isMiss_y (S := S) (K := K) (p := k) hc23 hc37; rw [show ctN (isMiss S K) k + 1 = ctN (isMiss S K) (k + 1) from by simp [ctN, e]]) | (have e := isMiss_n1 (S := S) (K := K) (p := k) hc23; rw [show ctN (isMiss S K) k = ctN (isMiss S K) (k + 1) from by simp [ctN, e]]) | (have e := isMiss_n2 (S := S) (K := K) (p := k) hc37; rw [show ctN (isMiss S K) k = ctN (isMiss S K) (k + 1) from by simp [ctN, e]])
            refine ev_iincN (L' := [_, _, _, _]) 1 dX5_slotsNeededBy_43 rfl rfl ?_
            refine ev_goto 4 dX5_slotsNeededBy_46 rfl ?_
            refine ev_pc (pc' := 4) rfl ?_
            exact ih _ (by omega) (k + 1) rfl (by omega)
  exact LP4 _ 0 rfl (Nat.zero_le _)
set_option maxHeartbeats 4000000 in
set_option maxRecDepth 100000 in
theorem c_roomNeededBy {X : mX} {h : mH} {c d : Nat} {S : mSo} {K : mCt} (hs : StoreN h d S) (hc : CutN h c K) : CnP X m_X5_roomNeededBy [.ref d, .ref c] h (some (.int (nI (ndR S K)))) := by
  obtain ⟨rr, ln, ow, ⟨y0, y1, y2, y3⟩, hV⟩ := id hs
  obtain ⟨sg, st, le, fo, rk, ⟨x0, x1, x2, x3, x4, x5⟩, hL, hN, hS, hP⟩ := id hc
  refine cn_of_ev (L0 := [_, _, _, _]) (by decide +kernel) rfl rfl (Nat.le_of_ble_eq_true rfl) rfl ?_
  refine ev_iconst (nI 0) dX5_roomNeededBy_0 rfl ?_
  refine ev_istore_n (L' := [_, _, _, _]) dX5_roomNeededBy_1 rfl (Nat.le_of_ble_eq_true rfl) rfl ?_
  refine ev_iconst (nI 0) dX5_roomNeededBy_2 rfl ?_
  refine ev_istore_n (L' := [_, _, _, _]) dX5_roomNeededBy_3 rfl (Nat.le_of_ble_eq_true rfl) rfl ?_
  refine ev_pc (pc' := 4) rfl ?_
  have LP4 : ∀ (n : Nat) (k : Nat), kN K - k = n → (k ≤ kN K) → Ev X m_X5_roomNeededBy B0 4 [.ref d, .ref c, .int (nI (smN (fun p => if isMiss S K p = true then kQ K p else 0) k)), .int (nI k)] [] h (fun o h1 => o = .inl (some (.int (nI (ndR S K)))) ∧ h1 = h) := by
    intro n
    induction n using Nat.strongRecOn with
    | _ n ih =>
      intro k hn hk
      refine ev_iload_n dX5_roomNeededBy_4 rfl rfl ?_
      refine ev_aload_n dX5_roomNeededBy_5 rfl rfl ?_
      first | refine ev_getfield dX5_roomNeededBy_6 lf_5_37 (x0) rfl ?_ | refine ev_getfield dX5_roomNeededBy_6 lf_5_37 (x1) rfl ?_ | refine ev_getfield dX5_roomNeededBy_6 lf_5_37 (x2) rfl ?_ | refine ev_getfield dX5_roomNeededBy_6 lf_5_37 (x3) rfl ?_ | refine ev_getfield dX5_roomNeededBy_6 lf_5_37 (x4) rfl ?_ | refine ev_getfield dX5_roomNeededBy_6 lf_5_37 (x5) rfl ?_ | refine ev_getfield dX5_roomNeededBy_6 lf_5_37 (y0) rfl ?_ | refine ev_getfield dX5_roomNeededBy_6 lf_5_37 (y1) rfl ?_ | refine ev_getfield dX5_roomNeededBy_6 lf_5_37 (y2) rfl ?_ | refine ev_getfield dX5_roomNeededBy_6 lf_5_37 (y3) rfl ?_
      refine ev_icmp_geN 55 dX5_roomNeededBy_9 rfl (by omega) (by omega) (fun hc9 => ?_) (fun hc9 => ?_)
      · refine ev_iload_n dX5_roomNeededBy_55 rfl rfl ?_
        refine ev_ireturn dX5_roomNeededBy_56 rfl (Or.inl rfl) (Nat.zero_le _) (Nat.zero_le _) ?_
        rw [show k = kN K by omega]; exact ⟨rfl, rfl⟩
      · refine ev_aload_n dX5_roomNeededBy_12 rfl rfl ?_
        refine ev_iload_n dX5_roomNeededBy_13 rfl rfl ?_
        refine ev_aload_n dX5_roomNeededBy_14 rfl rfl ?_
        first | refine ev_getfield dX5_roomNeededBy_15 lf_5_42 (x0) rfl ?_ | refine ev_getfield dX5_roomNeededBy_15 lf_5_42 (x1) rfl ?_ | refine ev_getfield dX5_roomNeededBy_15 lf_5_42 (x2) rfl ?_ | refine ev_getfield dX5_roomNeededBy_15 lf_5_42 (x3) rfl ?_ | refine ev_getfield dX5_roomNeededBy_15 lf_5_42 (x4) rfl ?_ | refine ev_getfield dX5_roomNeededBy_15 lf_5_42 (x5) rfl ?_ | refine ev_getfield dX5_roomNeededBy_15 lf_5_42 (y0) rfl ?_ | refine ev_getfield dX5_roomNeededBy_15 lf_5_42 (y1) rfl ?_ | refine ev_getfield dX5_roomNeededBy_15 lf_5_42 (y2) rfl ?_ | refine ev_getfield dX5_roomNeededBy_15 lf_5_42 (y3) rfl ?_
        refine ev_iload_n dX5_roomNeededBy_18 rfl rfl ?_
        first | refine ev_laloadN dX5_roomNeededBy_19 (x0) (by omega) (by decide) ?_ | refine ev_laloadN dX5_roomNeededBy_19 (x1) (by omega) (by decide) ?_ | refine ev_laloadN dX5_roomNeededBy_19 (x2) (by omega) (by decide) ?_ | refine ev_laloadN dX5_roomNeededBy_19 (x3) (by omega) (by decide) ?_ | refine ev_laloadN dX5_roomNeededBy_19 (x4) (by omega) (by decide) ?_ | refine ev_laloadN dX5_roomNeededBy_19 (x5) (by omega) (by decide) ?_ | refine ev_laloadN dX5_roomNeededBy_19 (y0) (by omega) (by decide) ?_ | refine ev_laloadN dX5_roomNeededBy_19 (y1) (by omega) (by decide) ?_ | refine ev_laloadN dX5_roomNeededBy_19 (y2) (by omega) (by decide) ?_ | refine ev_laloadN dX5_roomNeededBy_19 (y3) (by omega) (by decide) ?_
        rw [(hP k (by omega)).2.2.2.1]
        first | refine ev_callVP2 dX5_roomNeededBy_20 cal_X1_hasAheadOf lk_5_73 ⟨(Nat.le_of_ble_eq_true rfl), (Nat.le_of_ble_eq_true rfl)⟩ rfl (x0) (Nat.le_of_ble_eq_true rfl) (c_ahead hc k (by omega) _) ?_ | refine ev_callVP2 dX5_roomNeededBy_20 cal_X1_hasAheadOf lk_5_73 ⟨(Nat.le_of_ble_eq_true rfl), (Nat.le_of_ble_eq_true rfl)⟩ rfl (x1) (Nat.le_of_ble_eq_true rfl) (c_ahead hc k (by omega) _) ?_ | refine ev_callVP2 dX5_roomNeededBy_20 cal_X1_hasAheadOf lk_5_73 ⟨(Nat.le_of_ble_eq_true rfl), (Nat.le_of_ble_eq_true rfl)⟩ rfl (x2) (Nat.le_of_ble_eq_true rfl) (c_ahead hc k (by omega) _) ?_ | refine ev_callVP2 dX5_roomNeededBy_20 cal_X1_hasAheadOf lk_5_73 ⟨(Nat.le_of_ble_eq_true rfl), (Nat.le_of_ble_eq_true rfl)⟩ rfl (x3) (Nat.le_of_ble_eq_true rfl) (c_ahead hc k (by omega) _) ?_ | refine ev_callVP2 dX5_roomNeededBy_20 cal_X1_hasAheadOf lk_5_73 ⟨(Nat.le_of_ble_eq_true rfl), (Nat.le_of_ble_eq_true rfl)⟩ rfl (x4) (Nat.le_of_ble_eq_true rfl) (c_ahead hc k (by omega) _) ?_ | refine ev_callVP2 dX5_roomNeededBy_20 cal_X1_hasAheadOf lk_5_73 ⟨(Nat.le_of_ble_eq_true rfl), (Nat.le_of_ble_eq_true rfl)⟩ rfl (x5) (Nat.le_of_ble_eq_true rfl) (c_ahead hc k (by omega) _) ?_ | refine ev_callVP2 dX5_roomNeededBy_20 cal_X1_hasAheadOf lk_5_73 ⟨(Nat.le_of_ble_eq_true rfl), (Nat.le_of_ble_eq_true rfl)⟩ rfl (y0) (Nat.le_of_ble_eq_true rfl) (c_ahead hc k (by omega) _) ?_ | refine ev_callVP2 dX5_roomNeededBy_20 cal_X1_hasAheadOf lk_5_73 ⟨(Nat.le_of_ble_eq_true rfl), (Nat.le_of_ble_eq_true rfl)⟩ rfl (y1) (Nat.le_of_ble_eq_true rfl) (c_ahead hc k (by omega) _) ?_ | refine ev_callVP2 dX5_roomNeededBy_20 cal_X1_hasAheadOf lk_5_73 ⟨(Nat.le_of_ble_eq_true rfl), (Nat.le_of_ble_eq_true rfl)⟩ rfl (y2) (Nat.le_of_ble_eq_true rfl) (c_ahead hc k (by omega) _) ?_ | refine ev_callVP2 dX5_roomNeededBy_20 cal_X1_hasAheadOf lk_5_73 ⟨(Nat.le_of_ble_eq_true rfl), (Nat.le_of_ble_eq_true rfl)⟩ rfl (y3) (Nat.le_of_ble_eq_true rfl) (c_ahead hc k (by omega) _) ?_
        refine ev_if_neB 49 dX5_roomNeededBy_23 rfl (fun hc23 => ?_) (fun hc23 => ?_)
        · refine ev_pc (pc' := 49) rfl ?_
          first | (have e := isMiss_y (S := S) (K := K) (p := k) hc23 hc37; rw [show smN (fun p => if isMiss S K p = true then kQ K p else 0) k + kQ K k = smN (fun p => if isMiss S K p = true then kQ K p else 0) (k + 1) from by simp [smN, e]]) | (have e := isMiss_n1 (S := S) (K := K) (p := k) hc23; rw [show smN (fun p => if isMiss S K p = true then kQ K p else 0) k = smN (fun p => if isMiss S K p = true then kQ K p else 0) (k + 1) from by simp [smN, e]]) | (have e := isMiss_n2 (S := S) (K := K) (p := k) hc37; rw [show smN (fun p => if isMiss S K p = true then kQ K p else 0) k = smN (fun p => if isMiss S K p = true then kQ K p else 0) (k + 1) from by simp [smN, e]])
          refine ev_iincN (L' := [_, _, _, _]) 1 dX5_roomNeededBy_49 rfl rfl ?_
          refine ev_goto 4 dX5_roomNeededBy_52 rfl ?_
          refine ev_pc (pc' := 4) rfl ?_
          exact ih _ (by omega) (k + 1) rfl (by omega)
        · refine ev_aload_n dX5_roomNeededBy_26 rfl rfl ?_
          refine ev_aload_n dX5_roomNeededBy_27 rfl rfl ?_
          first | refine ev_getfield dX5_roomNeededBy_28 lf_5_42 (x0) rfl ?_ | refine ev_getfield dX5_roomNeededBy_28 lf_5_42 (x1) rfl ?_ | refine ev_getfield dX5_roomNeededBy_28 lf_5_42 (x2) rfl ?_ | refine ev_getfield dX5_roomNeededBy_28 lf_5_42 (x3) rfl ?_ | refine ev_getfield dX5_roomNeededBy_28 lf_5_42 (x4) rfl ?_ | refine ev_getfield dX5_roomNeededBy_28 lf_5_42 (x5) rfl ?_ | refine ev_getfield dX5_roomNeededBy_28 lf_5_42 (y0) rfl ?_ | refine ev_getfield dX5_roomNeededBy_28 lf_5_42 (y1) rfl ?_ | refine ev_getfield dX5_roomNeededBy_28 lf_5_42 (y2) rfl ?_ | refine ev_getfield dX5_roomNeededBy_28 lf_5_42 (y3) rfl ?_
          refine ev_iload_n dX5_roomNeededBy_31 rfl rfl ?_
          first | refine ev_laloadN dX5_roomNeededBy_32 (x0) (by omega) (by decide) ?_ | refine ev_laloadN dX5_roomNeededBy_32 (x1) (by omega) (by decide) ?_ | refine ev_laloadN dX5_roomNeededBy_32 (x2) (by omega) (by decide) ?_ | refine ev_laloadN dX5_roomNeededBy_32 (x3) (by omega) (by decide) ?_ | refine ev_laloadN dX5_roomNeededBy_32 (x4) (by omega) (by decide) ?_ | refine ev_laloadN dX5_roomNeededBy_32 (x5) (by omega) (by decide) ?_ | refine ev_laloadN dX5_roomNeededBy_32 (y0) (by omega) (by decide) ?_ | refine ev_laloadN dX5_roomNeededBy_32 (y1) (by omega) (by decide) ?_ | refine ev_laloadN dX5_roomNeededBy_32 (y2) (by omega) (by decide) ?_ | refine ev_laloadN dX5_roomNeededBy_32 (y3) (by omega) (by decide) ?_
          rw [(hP k (by omega)).2.2.2.1]
          first | refine ev_callVP1 dX5_roomNeededBy_33 cal_X5_slotOf lk_5_43 ⟨(Nat.le_of_ble_eq_true rfl), (Nat.le_of_ble_eq_true rfl)⟩ rfl (x0) (Nat.le_of_ble_eq_true rfl) (c_slotOf hs _) ?_ | refine ev_callVP1 dX5_roomNeededBy_33 cal_X5_slotOf lk_5_43 ⟨(Nat.le_of_ble_eq_true rfl), (Nat.le_of_ble_eq_true rfl)⟩ rfl (x1) (Nat.le_of_ble_eq_true rfl) (c_slotOf hs _) ?_ | refine ev_callVP1 dX5_roomNeededBy_33 cal_X5_slotOf lk_5_43 ⟨(Nat.le_of_ble_eq_true rfl), (Nat.le_of_ble_eq_true rfl)⟩ rfl (x2) (Nat.le_of_ble_eq_true rfl) (c_slotOf hs _) ?_ | refine ev_callVP1 dX5_roomNeededBy_33 cal_X5_slotOf lk_5_43 ⟨(Nat.le_of_ble_eq_true rfl), (Nat.le_of_ble_eq_true rfl)⟩ rfl (x3) (Nat.le_of_ble_eq_true rfl) (c_slotOf hs _) ?_ | refine ev_callVP1 dX5_roomNeededBy_33 cal_X5_slotOf lk_5_43 ⟨(Nat.le_of_ble_eq_true rfl), (Nat.le_of_ble_eq_true rfl)⟩ rfl (x4) (Nat.le_of_ble_eq_true rfl) (c_slotOf hs _) ?_ | refine ev_callVP1 dX5_roomNeededBy_33 cal_X5_slotOf lk_5_43 ⟨(Nat.le_of_ble_eq_true rfl), (Nat.le_of_ble_eq_true rfl)⟩ rfl (x5) (Nat.le_of_ble_eq_true rfl) (c_slotOf hs _) ?_ | refine ev_callVP1 dX5_roomNeededBy_33 cal_X5_slotOf lk_5_43 ⟨(Nat.le_of_ble_eq_true rfl), (Nat.le_of_ble_eq_true rfl)⟩ rfl (y0) (Nat.le_of_ble_eq_true rfl) (c_slotOf hs _) ?_ | refine ev_callVP1 dX5_roomNeededBy_33 cal_X5_slotOf lk_5_43 ⟨(Nat.le_of_ble_eq_true rfl), (Nat.le_of_ble_eq_true rfl)⟩ rfl (y1) (Nat.le_of_ble_eq_true rfl) (c_slotOf hs _) ?_ | refine ev_callVP1 dX5_roomNeededBy_33 cal_X5_slotOf lk_5_43 ⟨(Nat.le_of_ble_eq_true rfl), (Nat.le_of_ble_eq_true rfl)⟩ rfl (y2) (Nat.le_of_ble_eq_true rfl) (c_slotOf hs _) ?_ | refine ev_callVP1 dX5_roomNeededBy_33 cal_X5_slotOf lk_5_43 ⟨(Nat.le_of_ble_eq_true rfl), (Nat.le_of_ble_eq_true rfl)⟩ rfl (y3) (Nat.le_of_ble_eq_true rfl) (c_slotOf hs _) ?_
          refine ev_iconst (-1) dX5_roomNeededBy_36 rfl ?_
          refine ev_icmp_ne 49 dX5_roomNeededBy_37 rfl (fun hc37 => ?_) (fun hc37 => ?_)
          · refine ev_pc (pc' := 49) rfl ?_
            first | (have e := isMiss_y (S := S) (K := K) (p := k) hc23 hc37; rw [show smN (fun p => if isMiss S K p = true then kQ K p else 0) k + kQ K k = smN (fun p => if isMiss S K p = true then kQ K p else 0) (k + 1) from by simp [smN, e]]) | (have e := isMiss_n1 (S := S) (K := K) (p := k) hc23; rw [show smN (fun p => if isMiss S K p = true then kQ K p else 0) k = smN (fun p => if isMiss S K p = true then kQ K p else 0) (k + 1) from by simp [smN, e]]) | (have e := isMiss_n2 (S := S) (K := K) (p := k) hc37; rw [show smN (fun p => if isMiss S K p = true then kQ K p else 0) k = smN (fun p => if isMiss S K p = true then kQ K p else 0) (k + 1) from by simp [smN, e]])
            refine ev_iincN (L' := [_, _, _, _]) 1 dX5_roomNeededBy_49 rfl rfl ?_
            refine ev_goto 4 dX5_roomNeededBy_52 rfl ?_
            refine ev_pc (pc' := 4) rfl ?_
            exact ih _ (by omega) (k + 1) rfl (by omega)
          · refine ev_iload_n dX5_roomNeededBy_40 rfl rfl ?_
            refine ev_aload_n dX5_roomNeededBy_41 rfl rfl ?_
            first | refine ev_getfield dX5_roomNeededBy_42 lf_5_47 (x0) rfl ?_ | refine ev_getfield dX5_roomNeededBy_42 lf_5_47 (x1) rfl ?_ | refine ev_getfield dX5_roomNeededBy_42 lf_5_47 (x2) rfl ?_ | refine ev_getfield dX5_roomNeededBy_42 lf_5_47 (x3) rfl ?_ | refine ev_getfield dX5_roomNeededBy_42 lf_5_47 (x4) rfl ?_ | refine ev_getfield dX5_roomNeededBy_42 lf_5_47 (x5) rfl ?_ | refine ev_getfield dX5_roomNeededBy_42 lf_5_47 (y0) rfl ?_ | refine ev_getfield dX5_roomNeededBy_42 lf_5_47 (y1) rfl ?_ | refine ev_getfield dX5_roomNeededBy_42 lf_5_47 (y2) rfl ?_ | refine ev_getfield dX5_roomNeededBy_42 lf_5_47 (y3) rfl ?_
            refine ev_iload_n dX5_roomNeededBy_45 rfl rfl ?_
            first | refine ev_ialoadF dX5_roomNeededBy_46 (x0) (by omega) (by decide) ?_ | refine ev_ialoadF dX5_roomNeededBy_46 (x1) (by omega) (by decide) ?_ | refine ev_ialoadF dX5_roomNeededBy_46 (x2) (by omega) (by decide) ?_ | refine ev_ialoadF dX5_roomNeededBy_46 (x3) (by omega) (by decide) ?_ | refine ev_ialoadF dX5_roomNeededBy_46 (x4) (by omega) (by decide) ?_ | refine ev_ialoadF dX5_roomNeededBy_46 (x5) (by omega) (by decide) ?_ | refine ev_ialoadF dX5_roomNeededBy_46 (y0) (by omega) (by decide) ?_ | refine ev_ialoadF dX5_roomNeededBy_46 (y1) (by omega) (by decide) ?_ | refine ev_ialoadF dX5_roomNeededBy_46 (y2) (by omega) (by decide) ?_ | refine ev_ialoadF dX5_roomNeededBy_46 (y3) (by omega) (by decide) ?_
            rw [(hP k (by omega)).2.1]
            refine ev_iaddN dX5_roomNeededBy_47 ?_
            refine ev_istore_n (L' := [_, _, _, _]) dX5_roomNeededBy_48 rfl (Nat.le_of_ble_eq_true rfl) rfl ?_
            refine ev_pc (pc' := 49) rfl ?_
            first | (have e := isMiss_y (S := S) (K := K) (p := k) hc23 hc37; rw [show smN (fun p => if isMiss S K p = true then kQ K p else 0) k + kQ K k = smN (fun p => if isMiss S K p = true then kQ K p else 0) (k + 1) from by simp [smN, e]]) | (have e := isMiss_n1 (S := S) (K := K) (p := k) hc23; rw [show smN (fun p => if isMiss S K p = true then kQ K p else 0) k = smN (fun p => if isMiss S K p = true then kQ K p else 0) (k + 1) from by simp [smN, e]]) | (have e := isMiss_n2 (S := S) (K := K) (p := k) hc37; rw [show smN (fun p => if isMiss S K p = true then kQ K p else 0) k = smN (fun p => if isMiss S K p = true then kQ K p else 0) (k + 1) from by simp [smN, e]])
            refine ev_iincN (L' := [_, _, _, _]) 1 dX5_roomNeededBy_49 rfl rfl ?_
            refine ev_goto 4 dX5_roomNeededBy_52 rfl ?_
            refine ev_pc (pc' := 4) rfl ?_
            exact ih _ (by omega) (k + 1) rfl (by omega)
  exact LP4 _ 0 rfl (Nat.zero_le _)
set_option maxHeartbeats 4000000 in
set_option maxRecDepth 100000 in
theorem c_hasRoomFor {X : mX} {h : mH} {c d : Nat} {S : mSo} {K : mCt} (hs : StoreN h d S) (hc : CutN h c K) (hB : SoB S) (hz : szS S ≤ 150) : CnP X m_X5_hasRoomFor [.ref d, .ref c] h (some (.int (bI (fitS S K)))) := by
  obtain ⟨rr, ln, ow, ⟨y0, y1, y2, y3⟩, hV⟩ := id hs
  obtain ⟨sg, st, le, fo, rk, ⟨x0, x1, x2, x3, x4, x5⟩, hL, hN, hS, hP⟩ := id hc
  refine cn_of_ev (L0 := [_, _]) (by decide +kernel) rfl rfl (Nat.le_of_ble_eq_true rfl) rfl ?_
  have h1 : ndS S K ≤ kN K := ctN_le _ _
  have h2 : ndR S K ≤ kN K * 40 := ndR_le (fun p hp => (hP p hp).2.2.2.2.2)
  have h3 : pcS S ≤ 60 := ctN_le _ _
  have h4 : ndR S K ≤ 1600 := by omega
  refine ev_aload_n dX5_hasRoomFor_0 rfl rfl ?_
  refine ev_aload_n dX5_hasRoomFor_1 rfl rfl ?_
  first | refine ev_callVP1 dX5_hasRoomFor_2 cal_X5_slotsNeededBy lk_5_60 ⟨(Nat.le_of_ble_eq_true rfl), (Nat.le_of_ble_eq_true rfl)⟩ rfl (x0) (Nat.le_of_ble_eq_true rfl) (c_slotsNeededBy hs hc) ?_ | refine ev_callVP1 dX5_hasRoomFor_2 cal_X5_slotsNeededBy lk_5_60 ⟨(Nat.le_of_ble_eq_true rfl), (Nat.le_of_ble_eq_true rfl)⟩ rfl (x1) (Nat.le_of_ble_eq_true rfl) (c_slotsNeededBy hs hc) ?_ | refine ev_callVP1 dX5_hasRoomFor_2 cal_X5_slotsNeededBy lk_5_60 ⟨(Nat.le_of_ble_eq_true rfl), (Nat.le_of_ble_eq_true rfl)⟩ rfl (x2) (Nat.le_of_ble_eq_true rfl) (c_slotsNeededBy hs hc) ?_ | refine ev_callVP1 dX5_hasRoomFor_2 cal_X5_slotsNeededBy lk_5_60 ⟨(Nat.le_of_ble_eq_true rfl), (Nat.le_of_ble_eq_true rfl)⟩ rfl (x3) (Nat.le_of_ble_eq_true rfl) (c_slotsNeededBy hs hc) ?_ | refine ev_callVP1 dX5_hasRoomFor_2 cal_X5_slotsNeededBy lk_5_60 ⟨(Nat.le_of_ble_eq_true rfl), (Nat.le_of_ble_eq_true rfl)⟩ rfl (x4) (Nat.le_of_ble_eq_true rfl) (c_slotsNeededBy hs hc) ?_ | refine ev_callVP1 dX5_hasRoomFor_2 cal_X5_slotsNeededBy lk_5_60 ⟨(Nat.le_of_ble_eq_true rfl), (Nat.le_of_ble_eq_true rfl)⟩ rfl (x5) (Nat.le_of_ble_eq_true rfl) (c_slotsNeededBy hs hc) ?_ | refine ev_callVP1 dX5_hasRoomFor_2 cal_X5_slotsNeededBy lk_5_60 ⟨(Nat.le_of_ble_eq_true rfl), (Nat.le_of_ble_eq_true rfl)⟩ rfl (y0) (Nat.le_of_ble_eq_true rfl) (c_slotsNeededBy hs hc) ?_ | refine ev_callVP1 dX5_hasRoomFor_2 cal_X5_slotsNeededBy lk_5_60 ⟨(Nat.le_of_ble_eq_true rfl), (Nat.le_of_ble_eq_true rfl)⟩ rfl (y1) (Nat.le_of_ble_eq_true rfl) (c_slotsNeededBy hs hc) ?_ | refine ev_callVP1 dX5_hasRoomFor_2 cal_X5_slotsNeededBy lk_5_60 ⟨(Nat.le_of_ble_eq_true rfl), (Nat.le_of_ble_eq_true rfl)⟩ rfl (y2) (Nat.le_of_ble_eq_true rfl) (c_slotsNeededBy hs hc) ?_ | refine ev_callVP1 dX5_hasRoomFor_2 cal_X5_slotsNeededBy lk_5_60 ⟨(Nat.le_of_ble_eq_true rfl), (Nat.le_of_ble_eq_true rfl)⟩ rfl (y3) (Nat.le_of_ble_eq_true rfl) (c_slotsNeededBy hs hc) ?_
  refine ev_bipush (nI 60) dX5_hasRoomFor_5 rfl ?_
  refine ev_aload_n dX5_hasRoomFor_7 rfl rfl ?_
  first | refine ev_callVP0 dX5_hasRoomFor_8 cal_X5_pieces lk_5_64 ⟨(Nat.le_of_ble_eq_true rfl), (Nat.le_of_ble_eq_true rfl)⟩ rfl (x0) (Nat.le_of_ble_eq_true rfl) ((show CnP X m_X5_pieces [.ref d] h (some (.int (nI (pcS S)))) from c_pieces hs hB)) ?_ | refine ev_callVP0 dX5_hasRoomFor_8 cal_X5_pieces lk_5_64 ⟨(Nat.le_of_ble_eq_true rfl), (Nat.le_of_ble_eq_true rfl)⟩ rfl (x1) (Nat.le_of_ble_eq_true rfl) ((show CnP X m_X5_pieces [.ref d] h (some (.int (nI (pcS S)))) from c_pieces hs hB)) ?_ | refine ev_callVP0 dX5_hasRoomFor_8 cal_X5_pieces lk_5_64 ⟨(Nat.le_of_ble_eq_true rfl), (Nat.le_of_ble_eq_true rfl)⟩ rfl (x2) (Nat.le_of_ble_eq_true rfl) ((show CnP X m_X5_pieces [.ref d] h (some (.int (nI (pcS S)))) from c_pieces hs hB)) ?_ | refine ev_callVP0 dX5_hasRoomFor_8 cal_X5_pieces lk_5_64 ⟨(Nat.le_of_ble_eq_true rfl), (Nat.le_of_ble_eq_true rfl)⟩ rfl (x3) (Nat.le_of_ble_eq_true rfl) ((show CnP X m_X5_pieces [.ref d] h (some (.int (nI (pcS S)))) from c_pieces hs hB)) ?_ | refine ev_callVP0 dX5_hasRoomFor_8 cal_X5_pieces lk_5_64 ⟨(Nat.le_of_ble_eq_true rfl), (Nat.le_of_ble_eq_true rfl)⟩ rfl (x4) (Nat.le_of_ble_eq_true rfl) ((show CnP X m_X5_pieces [.ref d] h (some (.int (nI (pcS S)))) from c_pieces hs hB)) ?_ | refine ev_callVP0 dX5_hasRoomFor_8 cal_X5_pieces lk_5_64 ⟨(Nat.le_of_ble_eq_true rfl), (Nat.le_of_ble_eq_true rfl)⟩ rfl (x5) (Nat.le_of_ble_eq_true rfl) ((show CnP X m_X5_pieces [.ref d] h (some (.int (nI (pcS S)))) from c_pieces hs hB)) ?_ | refine ev_callVP0 dX5_hasRoomFor_8 cal_X5_pieces lk_5_64 ⟨(Nat.le_of_ble_eq_true rfl), (Nat.le_of_ble_eq_true rfl)⟩ rfl (y0) (Nat.le_of_ble_eq_true rfl) ((show CnP X m_X5_pieces [.ref d] h (some (.int (nI (pcS S)))) from c_pieces hs hB)) ?_ | refine ev_callVP0 dX5_hasRoomFor_8 cal_X5_pieces lk_5_64 ⟨(Nat.le_of_ble_eq_true rfl), (Nat.le_of_ble_eq_true rfl)⟩ rfl (y1) (Nat.le_of_ble_eq_true rfl) ((show CnP X m_X5_pieces [.ref d] h (some (.int (nI (pcS S)))) from c_pieces hs hB)) ?_ | refine ev_callVP0 dX5_hasRoomFor_8 cal_X5_pieces lk_5_64 ⟨(Nat.le_of_ble_eq_true rfl), (Nat.le_of_ble_eq_true rfl)⟩ rfl (y2) (Nat.le_of_ble_eq_true rfl) ((show CnP X m_X5_pieces [.ref d] h (some (.int (nI (pcS S)))) from c_pieces hs hB)) ?_ | refine ev_callVP0 dX5_hasRoomFor_8 cal_X5_pieces lk_5_64 ⟨(Nat.le_of_ble_eq_true rfl), (Nat.le_of_ble_eq_true rfl)⟩ rfl (y3) (Nat.le_of_ble_eq_true rfl) ((show CnP X m_X5_pieces [.ref d] h (some (.int (nI (pcS S)))) from c_pieces hs hB)) ?_
  refine ev_isubN dX5_hasRoomFor_11 (by omega) ?_
  refine ev_icmp_gtN 35 dX5_hasRoomFor_12 rfl (by omega) (by omega) (fun hc12 => ?_) (fun hc12 => ?_)
  · refine ev_iconst (nI 0) dX5_hasRoomFor_35 rfl ?_
    refine ev_zreturn dX5_hasRoomFor_36 rfl (by first | rfl | exact bI_nar _) (Or.inl rfl) (Nat.zero_le _) (Nat.zero_le _) ?_
    first | (rw [fitS, decide_eq_true (by omega)]; exact ⟨rfl, rfl⟩) | (rw [fitS, decide_eq_false (by omega)]; exact ⟨rfl, rfl⟩)
  · refine ev_aload_n dX5_hasRoomFor_15 rfl rfl ?_
    refine ev_aload_n dX5_hasRoomFor_16 rfl rfl ?_
    first | refine ev_callVP1 dX5_hasRoomFor_17 cal_X5_roomNeededBy lk_5_67 ⟨(Nat.le_of_ble_eq_true rfl), (Nat.le_of_ble_eq_true rfl)⟩ rfl (x0) (Nat.le_of_ble_eq_true rfl) (c_roomNeededBy hs hc) ?_ | refine ev_callVP1 dX5_hasRoomFor_17 cal_X5_roomNeededBy lk_5_67 ⟨(Nat.le_of_ble_eq_true rfl), (Nat.le_of_ble_eq_true rfl)⟩ rfl (x1) (Nat.le_of_ble_eq_true rfl) (c_roomNeededBy hs hc) ?_ | refine ev_callVP1 dX5_hasRoomFor_17 cal_X5_roomNeededBy lk_5_67 ⟨(Nat.le_of_ble_eq_true rfl), (Nat.le_of_ble_eq_true rfl)⟩ rfl (x2) (Nat.le_of_ble_eq_true rfl) (c_roomNeededBy hs hc) ?_ | refine ev_callVP1 dX5_hasRoomFor_17 cal_X5_roomNeededBy lk_5_67 ⟨(Nat.le_of_ble_eq_true rfl), (Nat.le_of_ble_eq_true rfl)⟩ rfl (x3) (Nat.le_of_ble_eq_true rfl) (c_roomNeededBy hs hc) ?_ | refine ev_callVP1 dX5_hasRoomFor_17 cal_X5_roomNeededBy lk_5_67 ⟨(Nat.le_of_ble_eq_true rfl), (Nat.le_of_ble_eq_true rfl)⟩ rfl (x4) (Nat.le_of_ble_eq_true rfl) (c_roomNeededBy hs hc) ?_ | refine ev_callVP1 dX5_hasRoomFor_17 cal_X5_roomNeededBy lk_5_67 ⟨(Nat.le_of_ble_eq_true rfl), (Nat.le_of_ble_eq_true rfl)⟩ rfl (x5) (Nat.le_of_ble_eq_true rfl) (c_roomNeededBy hs hc) ?_ | refine ev_callVP1 dX5_hasRoomFor_17 cal_X5_roomNeededBy lk_5_67 ⟨(Nat.le_of_ble_eq_true rfl), (Nat.le_of_ble_eq_true rfl)⟩ rfl (y0) (Nat.le_of_ble_eq_true rfl) (c_roomNeededBy hs hc) ?_ | refine ev_callVP1 dX5_hasRoomFor_17 cal_X5_roomNeededBy lk_5_67 ⟨(Nat.le_of_ble_eq_true rfl), (Nat.le_of_ble_eq_true rfl)⟩ rfl (y1) (Nat.le_of_ble_eq_true rfl) (c_roomNeededBy hs hc) ?_ | refine ev_callVP1 dX5_hasRoomFor_17 cal_X5_roomNeededBy lk_5_67 ⟨(Nat.le_of_ble_eq_true rfl), (Nat.le_of_ble_eq_true rfl)⟩ rfl (y2) (Nat.le_of_ble_eq_true rfl) (c_roomNeededBy hs hc) ?_ | refine ev_callVP1 dX5_hasRoomFor_17 cal_X5_roomNeededBy lk_5_67 ⟨(Nat.le_of_ble_eq_true rfl), (Nat.le_of_ble_eq_true rfl)⟩ rfl (y3) (Nat.le_of_ble_eq_true rfl) (c_roomNeededBy hs hc) ?_
    refine ev_sipush (nI 150) dX5_hasRoomFor_20 rfl ?_
    refine ev_aload_n dX5_hasRoomFor_23 rfl rfl ?_
    first | refine ev_callVP0 dX5_hasRoomFor_24 cal_X5_size lk_5_70 ⟨(Nat.le_of_ble_eq_true rfl), (Nat.le_of_ble_eq_true rfl)⟩ rfl (x0) (Nat.le_of_ble_eq_true rfl) ((show CnP X m_X5_size [.ref d] h (some (.int (nI (szS S)))) from c_size hs hB)) ?_ | refine ev_callVP0 dX5_hasRoomFor_24 cal_X5_size lk_5_70 ⟨(Nat.le_of_ble_eq_true rfl), (Nat.le_of_ble_eq_true rfl)⟩ rfl (x1) (Nat.le_of_ble_eq_true rfl) ((show CnP X m_X5_size [.ref d] h (some (.int (nI (szS S)))) from c_size hs hB)) ?_ | refine ev_callVP0 dX5_hasRoomFor_24 cal_X5_size lk_5_70 ⟨(Nat.le_of_ble_eq_true rfl), (Nat.le_of_ble_eq_true rfl)⟩ rfl (x2) (Nat.le_of_ble_eq_true rfl) ((show CnP X m_X5_size [.ref d] h (some (.int (nI (szS S)))) from c_size hs hB)) ?_ | refine ev_callVP0 dX5_hasRoomFor_24 cal_X5_size lk_5_70 ⟨(Nat.le_of_ble_eq_true rfl), (Nat.le_of_ble_eq_true rfl)⟩ rfl (x3) (Nat.le_of_ble_eq_true rfl) ((show CnP X m_X5_size [.ref d] h (some (.int (nI (szS S)))) from c_size hs hB)) ?_ | refine ev_callVP0 dX5_hasRoomFor_24 cal_X5_size lk_5_70 ⟨(Nat.le_of_ble_eq_true rfl), (Nat.le_of_ble_eq_true rfl)⟩ rfl (x4) (Nat.le_of_ble_eq_true rfl) ((show CnP X m_X5_size [.ref d] h (some (.int (nI (szS S)))) from c_size hs hB)) ?_ | refine ev_callVP0 dX5_hasRoomFor_24 cal_X5_size lk_5_70 ⟨(Nat.le_of_ble_eq_true rfl), (Nat.le_of_ble_eq_true rfl)⟩ rfl (x5) (Nat.le_of_ble_eq_true rfl) ((show CnP X m_X5_size [.ref d] h (some (.int (nI (szS S)))) from c_size hs hB)) ?_ | refine ev_callVP0 dX5_hasRoomFor_24 cal_X5_size lk_5_70 ⟨(Nat.le_of_ble_eq_true rfl), (Nat.le_of_ble_eq_true rfl)⟩ rfl (y0) (Nat.le_of_ble_eq_true rfl) ((show CnP X m_X5_size [.ref d] h (some (.int (nI (szS S)))) from c_size hs hB)) ?_ | refine ev_callVP0 dX5_hasRoomFor_24 cal_X5_size lk_5_70 ⟨(Nat.le_of_ble_eq_true rfl), (Nat.le_of_ble_eq_true rfl)⟩ rfl (y1) (Nat.le_of_ble_eq_true rfl) ((show CnP X m_X5_size [.ref d] h (some (.int (nI (szS S)))) from c_size hs hB)) ?_ | refine ev_callVP0 dX5_hasRoomFor_24 cal_X5_size lk_5_70 ⟨(Nat.le_of_ble_eq_true rfl), (Nat.le_of_ble_eq_true rfl)⟩ rfl (y2) (Nat.le_of_ble_eq_true rfl) ((show CnP X m_X5_size [.ref d] h (some (.int (nI (szS S)))) from c_size hs hB)) ?_ | refine ev_callVP0 dX5_hasRoomFor_24 cal_X5_size lk_5_70 ⟨(Nat.le_of_ble_eq_true rfl), (Nat.le_of_ble_eq_true rfl)⟩ rfl (y3) (Nat.le_of_ble_eq_true rfl) ((show CnP X m_X5_size [.ref d] h (some (.int (nI (szS S)))) from c_size hs hB)) ?_
    refine ev_isubN dX5_hasRoomFor_27 (by omega) ?_
    refine ev_icmp_gtN 35 dX5_hasRoomFor_28 rfl (by omega) (by omega) (fun hc28 => ?_) (fun hc28 => ?_)
    · refine ev_iconst (nI 0) dX5_hasRoomFor_35 rfl ?_
      refine ev_zreturn dX5_hasRoomFor_36 rfl (by first | rfl | exact bI_nar _) (Or.inl rfl) (Nat.zero_le _) (Nat.zero_le _) ?_
      first | (rw [fitS, decide_eq_true (by omega)]; exact ⟨rfl, rfl⟩) | (rw [fitS, decide_eq_false (by omega)]; exact ⟨rfl, rfl⟩)
    · refine ev_iconst (nI 1) dX5_hasRoomFor_31 rfl ?_
      refine ev_goto 36 dX5_hasRoomFor_32 rfl ?_
      refine ev_zreturn dX5_hasRoomFor_36 rfl (by first | rfl | exact bI_nar _) (Or.inl rfl) (Nat.zero_le _) (Nat.zero_le _) ?_
      first | (rw [fitS, decide_eq_true (by omega)]; exact ⟨rfl, rfl⟩) | (rw [fitS, decide_eq_false (by omega)]; exact ⟨rfl, rfl⟩)
def losN (S : mSo) (K : mCt) (n : Nat) : mSo := (sR S, fun k => sO S k - ctN (fun p => kR K p == sR S k) n, sC S, sW S)
theorem ctN_mono (p : Nat → Bool) {a b : Nat} (h : a ≤ b) : ctN p a ≤ ctN p b := by
  induction b with
  | zero => rw [Nat.le_zero.mp h]; exact Nat.le_refl _
  | succ b ih =>
    by_cases hab : a = b + 1
    · rw [hab]; exact Nat.le_refl _
    · rw [ctN]; have := ih (by omega); omega
theorem ctN_y {p : Nat → Bool} {n : Nat} (h : p n = true) : ctN p (n + 1) = ctN p n + 1 := by rw [ctN, if_pos h]
theorem ctN_n {p : Nat → Bool} {n : Nat} (h : p n = false) : ctN p (n + 1) = ctN p n := by rw [ctN, if_neg (by rw [h]; decide)]; omega
/-- a writer on store: the owners of slot u -/
theorem StoV.own {S S1 : mSo} {rr : Nat → Int64} {ln ow : Nat → Nat} {u x : Nat} (v : StoV S rr ln ow) (hR : ∀ k, k < 60 → sR S1 k = sR S k) (hu : u < 60) (hx : sR S u ≠ 0 → x = sO S1 u) (hO : ∀ k, k < 60 → k ≠ u → sR S k ≠ 0 → sO S1 k = sO S k) : StoV S1 rr ln (upN ow u x) := fun k hk => by
  refine ⟨by rw [hR k hk]; exact (v k hk).1, fun q => ?_⟩
  rw [hR k hk] at q ⊢
  refine ⟨((v k hk).2 q).1, ?_⟩
  by_cases e : k = u
  · subst e; rw [upN_s]; exact hx q
  · rw [upN_n e, hO k hk e q]; exact ((v k hk).2 q).2
theorem StoV.same {S S1 : mSo} {rr : Nat → Int64} {ln ow : Nat → Nat} (v : StoV S rr ln ow) (hR : ∀ k, k < 60 → sR S1 k = sR S k) (hO : ∀ k, k < 60 → sR S k ≠ 0 → sO S1 k = sO S k) : StoV S1 rr ln ow := fun k hk => by
  refine ⟨by rw [hR k hk]; exact (v k hk).1, fun q => ?_⟩
  rw [hR k hk] at q ⊢
  rw [hO k hk q]
  exact (v k hk).2 q
set_option maxHeartbeats 4000000 in
set_option maxRecDepth 100000 in
theorem c_loseOwner {X : mX} {h : mH} {c d : Nat} {S : mSo} {K : mCt} (hs : StoreN h d S) (hc : CutN h c K) (hdj : c + 6 ≤ d ∨ d + 4 ≤ c) (hD : SoD S) (hB : SoB S) (hO : ∀ k, k < 60 → sR S k ≠ 0 → ctN (fun p => kR K p == sR S k) (kN K) ≤ sO S k) (hR : ∀ p, p < kN K → kR K p ≠ 0) : CnU X m_X5_loseOwner [.ref d, .ref c] h (fun v h1 => v = none ∧ StoreN h1 d (losN S K (kN K)) ∧ Out h h1 d 4) := by
  refine cn_of_ev (L0 := [_, _, _, _]) (by decide +kernel) rfl rfl (Nat.le_of_ble_eq_true rfl) rfl ?_
  refine ev_iconst (nI 0) dX5_loseOwner_0 rfl ?_
  refine ev_istore_n (L' := [_, _, _, _]) dX5_loseOwner_1 rfl (Nat.le_of_ble_eq_true rfl) rfl ?_
  refine ev_pc (pc' := 2) rfl ?_
  have LP2 : ∀ (n : Nat) (k : Nat) (h2 : mH), kN K - k = n → (k ≤ kN K) → (StoreN h2 d (losN S K k)) → (Out h h2 d 4) → Ev X m_X5_loseOwner B0 2 [.ref d, .ref c, .int (nI k), jk] [] h2 (fun o h1 => ∃ v, o = .inl v ∧ (v = none ∧ StoreN h1 d (losN S K (kN K)) ∧ Out h h1 d 4)) := by
    intro n
    induction n using Nat.strongRecOn with
    | _ n ih =>
      intro k h2 hn hk hs2 ho
      have hc2 := hc.go ho (by omega)
      obtain ⟨rr, ln, ow, ⟨y0, y1, y2, y3⟩, hV⟩ := id hs2
      obtain ⟨sg, st, le, fo, rk, ⟨x0, x1, x2, x3, x4, x5⟩, hL, hN, hS, hP⟩ := id hc2
      clear hc
      refine ev_iload_n dX5_loseOwner_2 rfl rfl ?_
      refine ev_aload_n dX5_loseOwner_3 rfl rfl ?_
      first | refine ev_getfield dX5_loseOwner_4 lf_5_37 (x0) rfl ?_ | refine ev_getfield dX5_loseOwner_4 lf_5_37 (x1) rfl ?_ | refine ev_getfield dX5_loseOwner_4 lf_5_37 (x2) rfl ?_ | refine ev_getfield dX5_loseOwner_4 lf_5_37 (x3) rfl ?_ | refine ev_getfield dX5_loseOwner_4 lf_5_37 (x4) rfl ?_ | refine ev_getfield dX5_loseOwner_4 lf_5_37 (x5) rfl ?_ | refine ev_getfield dX5_loseOwner_4 lf_5_37 (y0) rfl ?_ | refine ev_getfield dX5_loseOwner_4 lf_5_37 (y1) rfl ?_ | refine ev_getfield dX5_loseOwner_4 lf_5_37 (y2) rfl ?_ | refine ev_getfield dX5_loseOwner_4 lf_5_37 (y3) rfl ?_
      refine ev_icmp_geN 42 dX5_loseOwner_7 rfl (by omega) (by omega) (fun hc7 => ?_) (fun hc7 => ?_)
      · refine ev_return dX5_loseOwner_42 rfl (Or.inl rfl) (Nat.zero_le _) (Nat.zero_le _) ?_
        rw [show kN K = k by omega]; exact ⟨none, rfl, rfl, hs2, ho⟩
      · refine ev_aload_n dX5_loseOwner_10 rfl rfl ?_
        refine ev_aload_n dX5_loseOwner_11 rfl rfl ?_
        first | refine ev_getfield dX5_loseOwner_12 lf_5_42 (x0) rfl ?_ | refine ev_getfield dX5_loseOwner_12 lf_5_42 (x1) rfl ?_ | refine ev_getfield dX5_loseOwner_12 lf_5_42 (x2) rfl ?_ | refine ev_getfield dX5_loseOwner_12 lf_5_42 (x3) rfl ?_ | refine ev_getfield dX5_loseOwner_12 lf_5_42 (x4) rfl ?_ | refine ev_getfield dX5_loseOwner_12 lf_5_42 (x5) rfl ?_ | refine ev_getfield dX5_loseOwner_12 lf_5_42 (y0) rfl ?_ | refine ev_getfield dX5_loseOwner_12 lf_5_42 (y1) rfl ?_ | refine ev_getfield dX5_loseOwner_12 lf_5_42 (y2) rfl ?_ | refine ev_getfield dX5_loseOwner_12 lf_5_42 (y3) rfl ?_
        refine ev_iload_n dX5_loseOwner_15 rfl rfl ?_
        first | refine ev_laloadN dX5_loseOwner_16 (x0) (by omega) (by decide) ?_ | refine ev_laloadN dX5_loseOwner_16 (x1) (by omega) (by decide) ?_ | refine ev_laloadN dX5_loseOwner_16 (x2) (by omega) (by decide) ?_ | refine ev_laloadN dX5_loseOwner_16 (x3) (by omega) (by decide) ?_ | refine ev_laloadN dX5_loseOwner_16 (x4) (by omega) (by decide) ?_ | refine ev_laloadN dX5_loseOwner_16 (x5) (by omega) (by decide) ?_ | refine ev_laloadN dX5_loseOwner_16 (y0) (by omega) (by decide) ?_ | refine ev_laloadN dX5_loseOwner_16 (y1) (by omega) (by decide) ?_ | refine ev_laloadN dX5_loseOwner_16 (y2) (by omega) (by decide) ?_ | refine ev_laloadN dX5_loseOwner_16 (y3) (by omega) (by decide) ?_
        rw [(hP k (by omega)).2.2.2.1]
        first | refine ev_callVP1 dX5_loseOwner_17 cal_X5_slotOf lk_5_43 ⟨(Nat.le_of_ble_eq_true rfl), (Nat.le_of_ble_eq_true rfl)⟩ rfl (x0) (Nat.le_of_ble_eq_true rfl) (c_slotOf hs2 (kR K k)) ?_ | refine ev_callVP1 dX5_loseOwner_17 cal_X5_slotOf lk_5_43 ⟨(Nat.le_of_ble_eq_true rfl), (Nat.le_of_ble_eq_true rfl)⟩ rfl (x1) (Nat.le_of_ble_eq_true rfl) (c_slotOf hs2 (kR K k)) ?_ | refine ev_callVP1 dX5_loseOwner_17 cal_X5_slotOf lk_5_43 ⟨(Nat.le_of_ble_eq_true rfl), (Nat.le_of_ble_eq_true rfl)⟩ rfl (x2) (Nat.le_of_ble_eq_true rfl) (c_slotOf hs2 (kR K k)) ?_ | refine ev_callVP1 dX5_loseOwner_17 cal_X5_slotOf lk_5_43 ⟨(Nat.le_of_ble_eq_true rfl), (Nat.le_of_ble_eq_true rfl)⟩ rfl (x3) (Nat.le_of_ble_eq_true rfl) (c_slotOf hs2 (kR K k)) ?_ | refine ev_callVP1 dX5_loseOwner_17 cal_X5_slotOf lk_5_43 ⟨(Nat.le_of_ble_eq_true rfl), (Nat.le_of_ble_eq_true rfl)⟩ rfl (x4) (Nat.le_of_ble_eq_true rfl) (c_slotOf hs2 (kR K k)) ?_ | refine ev_callVP1 dX5_loseOwner_17 cal_X5_slotOf lk_5_43 ⟨(Nat.le_of_ble_eq_true rfl), (Nat.le_of_ble_eq_true rfl)⟩ rfl (x5) (Nat.le_of_ble_eq_true rfl) (c_slotOf hs2 (kR K k)) ?_ | refine ev_callVP1 dX5_loseOwner_17 cal_X5_slotOf lk_5_43 ⟨(Nat.le_of_ble_eq_true rfl), (Nat.le_of_ble_eq_true rfl)⟩ rfl (y0) (Nat.le_of_ble_eq_true rfl) (c_slotOf hs2 (kR K k)) ?_ | refine ev_callVP1 dX5_loseOwner_17 cal_X5_slotOf lk_5_43 ⟨(Nat.le_of_ble_eq_true rfl), (Nat.le_of_ble_eq_true rfl)⟩ rfl (y1) (Nat.le_of_ble_eq_true rfl) (c_slotOf hs2 (kR K k)) ?_ | refine ev_callVP1 dX5_loseOwner_17 cal_X5_slotOf lk_5_43 ⟨(Nat.le_of_ble_eq_true rfl), (Nat.le_of_ble_eq_true rfl)⟩ rfl (y2) (Nat.le_of_ble_eq_true rfl) (c_slotOf hs2 (kR K k)) ?_ | refine ev_callVP1 dX5_loseOwner_17 cal_X5_slotOf lk_5_43 ⟨(Nat.le_of_ble_eq_true rfl), (Nat.le_of_ble_eq_true rfl)⟩ rfl (y3) (Nat.le_of_ble_eq_true rfl) (c_slotOf hs2 (kR K k)) ?_
        refine ev_istore_n (L' := [_, _, _, _]) dX5_loseOwner_20 rfl (Nat.le_of_ble_eq_true rfl) rfl ?_
        refine ev_iload_n dX5_loseOwner_21 rfl rfl ?_
        refine ev_iconst (-1) dX5_loseOwner_22 rfl ?_
        refine ev_icmp_eq 36 dX5_loseOwner_23 rfl (fun hc23 => ?_) (fun hc23 => ?_)
        · refine ev_iincN (L' := [_, _, _, _]) 1 dX5_loseOwner_36 rfl rfl ?_
          refine ev_goto 2 dX5_loseOwner_39 rfl ?_
          refine ev_pc (pc' := 2) rfl ?_
          rw [slU_congr (S := S) (S1 := losN S K k) (fun _ _ => rfl)] at hc23
          have hu : ¬ slU S (kR K k) < 60 := slI_eq hc23
          refine ev_fgt 3 (L' := [_, _, _, _]) rfl ?_
          refine ih _ (by omega) (k + 1) _ rfl (by omega) ⟨rr, ln, ow, ⟨y0, y1, y2, y3⟩, hV.same (fun _ _ => rfl) (fun j hj q => ?_)⟩ ho
          show sO S j - ctN (fun p => kR K p == sR S j) (k + 1) = sO S j - ctN (fun p => kR K p == sR S j) k
          rw [ctN_n (by simpa using fun z => slU_no hu hj z.symm)]
        · refine ev_pc (pc' := 26) rfl ?_
          rw [slU_congr (S := S) (S1 := losN S K k) (fun _ _ => rfl)] at hc23 ⊢
          have hu : slU S (kR K k) < 60 := slI_ne hc23
          have hat : sR S (slU S (kR K k)) = kR K k := slU_at hu
          have hz : sR S (slU S (kR K k)) ≠ 0 := by rw [hat]; exact hR k (by omega)
          rw [slI_y hu]
          have e2 : ow (slU S (kR K k)) = sO S (slU S (kR K k)) - ctN (fun p => kR K p == sR S (slU S (kR K k))) k := ((hV _ hu).2 hz).2
          have e3 := hO _ hu hz
          have e4 := ctN_mono (fun p => kR K p == sR S (slU S (kR K k))) (show k + 1 ≤ kN K by omega)
          have e5 : ctN (fun p => kR K p == sR S (slU S (kR K k))) (k + 1) = ctN (fun p => kR K p == sR S (slU S (kR K k))) k + 1 := ctN_y (by rw [hat]; exact beq_self_eq_true _)
          generalize slU S (kR K k) = u at *
          refine ev_aload_n dX5_loseOwner_26 rfl rfl ?_
          first | refine ev_getfield dX5_loseOwner_27 lf_5_19 (x0) rfl ?_ | refine ev_getfield dX5_loseOwner_27 lf_5_19 (x1) rfl ?_ | refine ev_getfield dX5_loseOwner_27 lf_5_19 (x2) rfl ?_ | refine ev_getfield dX5_loseOwner_27 lf_5_19 (x3) rfl ?_ | refine ev_getfield dX5_loseOwner_27 lf_5_19 (x4) rfl ?_ | refine ev_getfield dX5_loseOwner_27 lf_5_19 (x5) rfl ?_ | refine ev_getfield dX5_loseOwner_27 lf_5_19 (y0) rfl ?_ | refine ev_getfield dX5_loseOwner_27 lf_5_19 (y1) rfl ?_ | refine ev_getfield dX5_loseOwner_27 lf_5_19 (y2) rfl ?_ | refine ev_getfield dX5_loseOwner_27 lf_5_19 (y3) rfl ?_
          refine ev_iload_n dX5_loseOwner_30 rfl rfl ?_
          refine ev_dup2 dX5_loseOwner_31 rfl rfl ?_
          first | refine ev_ialoadF dX5_loseOwner_32 (x0) (by omega) (by decide) ?_ | refine ev_ialoadF dX5_loseOwner_32 (x1) (by omega) (by decide) ?_ | refine ev_ialoadF dX5_loseOwner_32 (x2) (by omega) (by decide) ?_ | refine ev_ialoadF dX5_loseOwner_32 (x3) (by omega) (by decide) ?_ | refine ev_ialoadF dX5_loseOwner_32 (x4) (by omega) (by decide) ?_ | refine ev_ialoadF dX5_loseOwner_32 (x5) (by omega) (by decide) ?_ | refine ev_ialoadF dX5_loseOwner_32 (y0) (by omega) (by decide) ?_ | refine ev_ialoadF dX5_loseOwner_32 (y1) (by omega) (by decide) ?_ | refine ev_ialoadF dX5_loseOwner_32 (y2) (by omega) (by decide) ?_ | refine ev_ialoadF dX5_loseOwner_32 (y3) (by omega) (by decide) ?_
          refine ev_iconst (nI 1) dX5_loseOwner_33 rfl ?_
          refine ev_isubN dX5_loseOwner_34 (by omega) ?_
          first | refine ev_iastoreF dX5_loseOwner_35 (x0) (by omega) (by decide) ?_ | refine ev_iastoreF dX5_loseOwner_35 (x1) (by omega) (by decide) ?_ | refine ev_iastoreF dX5_loseOwner_35 (x2) (by omega) (by decide) ?_ | refine ev_iastoreF dX5_loseOwner_35 (x3) (by omega) (by decide) ?_ | refine ev_iastoreF dX5_loseOwner_35 (x4) (by omega) (by decide) ?_ | refine ev_iastoreF dX5_loseOwner_35 (x5) (by omega) (by decide) ?_ | refine ev_iastoreF dX5_loseOwner_35 (y0) (by omega) (by decide) ?_ | refine ev_iastoreF dX5_loseOwner_35 (y1) (by omega) (by decide) ?_ | refine ev_iastoreF dX5_loseOwner_35 (y2) (by omega) (by decide) ?_ | refine ev_iastoreF dX5_loseOwner_35 (y3) (by omega) (by decide) ?_
          refine ev_iincN (L' := [_, _, _, _]) 1 dX5_loseOwner_36 rfl rfl ?_
          refine ev_goto 2 dX5_loseOwner_39 rfl ?_
          refine ev_pc (pc' := 2) rfl ?_
          refine ev_fgt 3 (L' := [_, _, _, _]) rfl ?_
          refine ih _ (by omega) (k + 1) _ rfl (by omega) ⟨rr, ln, _, ⟨(mset_n (by omega)).trans y0, (mset_n (by omega)).trans y1, (mset_n (by omega)).trans y2, mset_s _ _ _⟩, hV.own (fun _ _ => rfl) hu (fun _ => by rw [e2]; show _ = sO S u - ctN (fun p => kR K p == sR S u) (k + 1); omega) (fun j hj e q => ?_)⟩ (ho.tr (Out.set (by omega) (by omega)))
          show sO S j - ctN (fun p => kR K p == sR S j) (k + 1) = sO S j - ctN (fun p => kR K p == sR S j) k
          rw [ctN_n (by rw [← hat]; simpa using fun z => e (hD j u hj hu z.symm q))]
  exact LP2 _ 0 h rfl (Nat.zero_le _) (by simpa [losN, ctN] using hs) Out.rf
