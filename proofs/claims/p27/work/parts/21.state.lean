/-- a state: four cuts, the store, the settings -/
abbrev mSt : Type := (Nat → mCt) × mSo × (Nat → Nat)
abbrev tC (T : mSt) : Nat → mCt := T.1
abbrev tS (T : mSt) : mSo := T.2.1
abbrev tV (T : mSt) : Nat → Nat := T.2.2
def StN (h : mH) (c : Nat) (T : mSt) : Prop := h c = some (aO 4 [.ref (c + 1), .ref (c + 2), .ref (c + 6)]) ∧ (∃ f : Nat → Option Nat, h (c + 1) = some (aR 2 4 f) ∧ ∀ t, t < 4 → f t = some (c + 8 + 6 * t)) ∧ (∀ t, t < 4 → CutN h (c + 8 + 6 * t) (tC T t)) ∧ StoreN h (c + 2) (tS T) ∧ SetN h (c + 6) (tV T)
theorem StN.go {h h1 : mH} {c a n : Nat} {T : mSt} (x : StN h c T) (o : Out h h1 a n) (hd : c + 32 ≤ a ∨ a + n ≤ c) : StN h1 c T := by
  obtain ⟨x0, ⟨f, x1, x2⟩, x3, x4, x5⟩ := x
  exact ⟨by rw [o _ (by omega)]; exact x0, ⟨f, by rw [o _ (by omega)]; exact x1, x2⟩, fun t ht => (x3 t ht).go o (by omega), x4.go o (by omega), x5.go o (by omega)⟩
def hasK (K : mCt) (w : Int64) : Bool := exN (fun p => kR K p == w) (kN K)
/-- the texts that own the row, a bit each -/
def mskN (T : mSt) (w : Int64) (n : Nat) : Nat := smN (fun t => if hasK (tC T t) w = true then 2 ^ t else 0) n
theorem mskN_lt (T : mSt) (w : Int64) : ∀ n, mskN T w n < 2 ^ n
  | 0 => by show 0 < 1; omega
  | n + 1 => by
    have := mskN_lt T w n
    show smN _ n + (if hasK (tC T n) w = true then 2 ^ n else 0) < _
    rw [Nat.pow_succ]
    have h2 : smN (fun t => if hasK (tC T t) w = true then 2 ^ t else 0) n < 2 ^ n := this
    split <;> omega
theorem msk_or : ∀ k, k < 4 → ∀ a, a < 2 ^ k → (nI a ||| (nI 1 <<< (nI k &&& 31))) = nI (a + 2 ^ k) := by decide +kernel
theorem msk_1 : ∀ k, k < 4 → (nI 1 <<< (nI k &&& 31)) = nI (2 ^ k) := by decide +kernel
set_option maxHeartbeats 4000000 in
set_option maxRecDepth 100000 in
theorem c_St_signs {X : mX} {h : mH} {c : Nat} {T : mSt} (hs : StN h c T) : CnP X m_X4_signs [.ref c] h (some (.int (nI (smN (fun t => kL (tC T t)) 4)))) := by
  obtain ⟨y0, ⟨f, y1, y2⟩, hcs, hsto, hset⟩ := id hs
  refine cn_of_ev (L0 := [_, _, _]) (by decide +kernel) rfl rfl (Nat.le_of_ble_eq_true rfl) rfl ?_
  refine ev_iconst (nI 0) dX4_signs_0 rfl ?_
  refine ev_istore_n (L' := [_, _, _]) dX4_signs_1 rfl (Nat.le_of_ble_eq_true rfl) rfl ?_
  refine ev_iconst (nI 0) dX4_signs_2 rfl ?_
  refine ev_istore_n (L' := [_, _, _]) dX4_signs_3 rfl (Nat.le_of_ble_eq_true rfl) rfl ?_
  refine ev_pc (pc' := 4) rfl ?_
  have LP4 : ∀ (mz : Nat) (k : Nat), 4 - k = mz → (k ≤ 4) → Ev X m_X4_signs B0 4 [.ref c, .int (nI (smN (fun t => kL (tC T t)) k)), .int (nI k)] [] h (fun o h1 => o = .inl (some (.int (nI (smN (fun t => kL (tC T t)) 4)))) ∧ h1 = h) := by
    intro mz
    induction mz using Nat.strongRecOn with
    | _ mz ih =>
      intro k hmz hk
      refine ev_iload_n dX4_signs_4 rfl rfl ?_
      refine ev_iconst (nI 4) dX4_signs_5 rfl ?_
      refine ev_icmp_geN 27 dX4_signs_6 rfl (by omega) (by omega) (fun hc6 => ?_) (fun hc6 => ?_)
      · refine ev_iload_n dX4_signs_27 rfl rfl ?_
        refine ev_ireturn dX4_signs_28 rfl (Or.inl rfl) (Nat.zero_le _) (Nat.zero_le _) ?_
        rw [show 4 = k by omega]
        exact ⟨rfl, rfl⟩
      · refine ev_iload_n dX4_signs_9 rfl rfl ?_
        refine ev_aload_n dX4_signs_10 rfl rfl ?_
        first | refine ev_getfield dX4_signs_11 lf_4_11 (y0) rfl ?_ | refine ev_getfield dX4_signs_11 lf_4_11 (y1) rfl ?_
        refine ev_iload_n dX4_signs_14 rfl rfl ?_
        have hk4 : k < 4 := by omega
        obtain ⟨sg, st, le, fo, rk, ⟨x0, x1, x2, x3, x4, x5⟩, hL, hN, hS, hP⟩ := id (hcs k (by omega))
        refine ev_aaloadN dX4_signs_15 (Or.inl rfl) y1 hk4 (by decide) (y2 k hk4) ?_
        refine ev_getfield dX4_signs_16 lf_4_79 x0 rfl ?_
        refine ev_iaddN dX4_signs_19 ?_
        refine ev_istore_n (L' := [_, _, _]) dX4_signs_20 rfl (Nat.le_of_ble_eq_true rfl) rfl ?_
        refine ev_iincN (L' := [_, _, _]) 1 dX4_signs_21 rfl rfl ?_
        refine ev_goto 4 dX4_signs_24 rfl ?_
        refine ev_pc (pc' := 4) rfl ?_
        exact ih _ (by omega) (k + 1) rfl (by omega)
  exact LP4 _ 0 rfl (Nat.zero_le _)
set_option maxHeartbeats 4000000 in
set_option maxRecDepth 100000 in
theorem c_St_pieces {X : mX} {h : mH} {c : Nat} {T : mSt} (hs : StN h c T) : CnP X m_X4_pieces [.ref c] h (some (.int (nI (smN (fun t => kN (tC T t)) 4)))) := by
  obtain ⟨y0, ⟨f, y1, y2⟩, hcs, hsto, hset⟩ := id hs
  refine cn_of_ev (L0 := [_, _, _]) (by decide +kernel) rfl rfl (Nat.le_of_ble_eq_true rfl) rfl ?_
  refine ev_iconst (nI 0) dX4_pieces_0 rfl ?_
  refine ev_istore_n (L' := [_, _, _]) dX4_pieces_1 rfl (Nat.le_of_ble_eq_true rfl) rfl ?_
  refine ev_iconst (nI 0) dX4_pieces_2 rfl ?_
  refine ev_istore_n (L' := [_, _, _]) dX4_pieces_3 rfl (Nat.le_of_ble_eq_true rfl) rfl ?_
  refine ev_pc (pc' := 4) rfl ?_
  have LP4 : ∀ (mz : Nat) (k : Nat), 4 - k = mz → (k ≤ 4) → Ev X m_X4_pieces B0 4 [.ref c, .int (nI (smN (fun t => kN (tC T t)) k)), .int (nI k)] [] h (fun o h1 => o = .inl (some (.int (nI (smN (fun t => kN (tC T t)) 4)))) ∧ h1 = h) := by
    intro mz
    induction mz using Nat.strongRecOn with
    | _ mz ih =>
      intro k hmz hk
      refine ev_iload_n dX4_pieces_4 rfl rfl ?_
      refine ev_iconst (nI 4) dX4_pieces_5 rfl ?_
      refine ev_icmp_geN 27 dX4_pieces_6 rfl (by omega) (by omega) (fun hc6 => ?_) (fun hc6 => ?_)
      · refine ev_iload_n dX4_pieces_27 rfl rfl ?_
        refine ev_ireturn dX4_pieces_28 rfl (Or.inl rfl) (Nat.zero_le _) (Nat.zero_le _) ?_
        rw [show 4 = k by omega]
        exact ⟨rfl, rfl⟩
      · refine ev_iload_n dX4_pieces_9 rfl rfl ?_
        refine ev_aload_n dX4_pieces_10 rfl rfl ?_
        first | refine ev_getfield dX4_pieces_11 lf_4_11 (y0) rfl ?_ | refine ev_getfield dX4_pieces_11 lf_4_11 (y1) rfl ?_
        refine ev_iload_n dX4_pieces_14 rfl rfl ?_
        have hk4 : k < 4 := by omega
        obtain ⟨sg, st, le, fo, rk, ⟨x0, x1, x2, x3, x4, x5⟩, hL, hN, hS, hP⟩ := id (hcs k (by omega))
        refine ev_aaloadN dX4_pieces_15 (Or.inl rfl) y1 hk4 (by decide) (y2 k hk4) ?_
        refine ev_getfield dX4_pieces_16 lf_4_63 x0 rfl ?_
        refine ev_iaddN dX4_pieces_19 ?_
        refine ev_istore_n (L' := [_, _, _]) dX4_pieces_20 rfl (Nat.le_of_ble_eq_true rfl) rfl ?_
        refine ev_iincN (L' := [_, _, _]) 1 dX4_pieces_21 rfl rfl ?_
        refine ev_goto 4 dX4_pieces_24 rfl ?_
        refine ev_pc (pc' := 4) rfl ?_
        exact ih _ (by omega) (k + 1) rfl (by omega)
  exact LP4 _ 0 rfl (Nat.zero_le _)
set_option maxHeartbeats 4000000 in
set_option maxRecDepth 100000 in
theorem c_textsWith {X : mX} {h : mH} {c : Nat} {T : mSt} (hs : StN h c T) (w : Int64) : CnP X m_X4_textsWith [.ref c, .long w] h (some (.int (nI (mskN T w 4)))) := by
  obtain ⟨y0, ⟨f, y1, y2⟩, hcs, hsto, hset⟩ := id hs
  refine cn_of_ev (L0 := [_, _, _, _, _]) (by decide +kernel) rfl rfl (Nat.le_of_ble_eq_true rfl) rfl ?_
  refine ev_iconst (nI 0) dX4_textsWith_0 rfl ?_
  refine ev_istore_n (L' := [_, _, _, _, _]) dX4_textsWith_1 rfl (Nat.le_of_ble_eq_true rfl) rfl ?_
  refine ev_iconst (nI 0) dX4_textsWith_2 rfl ?_
  refine ev_istore (L' := [_, _, _, _, _]) dX4_textsWith_3 (Nat.le_of_ble_eq_true rfl) rfl ?_
  refine ev_pc (pc' := 5) rfl ?_
  have LP5 : ∀ (mz : Nat) (k : Nat), 4 - k = mz → (k ≤ 4) → Ev X m_X4_textsWith B0 5 [.ref c, .long w, jk, .int (nI (mskN T w k)), .int (nI k)] [] h (fun o h1 => o = .inl (some (.int (nI (mskN T w 4)))) ∧ h1 = h) := by
    intro mz
    induction mz using Nat.strongRecOn with
    | _ mz ih =>
      intro k hmz hk
      have hm := mskN_lt T w k
      have h16 : 2 ^ k ≤ 2 ^ 4 := Nat.pow_le_pow_right (by omega) hk
      refine ev_iload dX4_textsWith_5 rfl ?_
      refine ev_iconst (nI 4) dX4_textsWith_7 rfl ?_
      refine ev_icmp_geN 38 dX4_textsWith_8 rfl (by omega) (by omega) (fun hc8 => ?_) (fun hc8 => ?_)
      · refine ev_iload_n dX4_textsWith_38 rfl rfl ?_
        refine ev_ireturn dX4_textsWith_39 rfl (Or.inl rfl) (Nat.zero_le _) (Nat.zero_le _) ?_
        rw [show 4 = k by omega]
        exact ⟨rfl, rfl⟩
      · refine ev_aload_n dX4_textsWith_11 rfl rfl ?_
        first | refine ev_getfield dX4_textsWith_12 lf_4_11 (y0) rfl ?_ | refine ev_getfield dX4_textsWith_12 lf_4_11 (y1) rfl ?_
        refine ev_iload dX4_textsWith_15 rfl ?_
        have hk4 : k < 4 := by omega
        obtain ⟨sg, st, le, fo, rk, ⟨x0, x1, x2, x3, x4, x5⟩, hL, hN, hS, hP⟩ := id (hcs k (by omega))
        refine ev_aaloadN dX4_textsWith_17 (Or.inl rfl) y1 hk4 (by decide) (y2 k hk4) ?_
        refine ev_pc (pc' := 18) rfl ?_
        refine ev_lload_n dX4_textsWith_18 rfl rfl ?_
        refine ev_callVP1 dX4_textsWith_19 cal_X1_has lk_4_59 ⟨(Nat.le_of_ble_eq_true rfl), (Nat.le_of_ble_eq_true rfl)⟩ rfl (x0) (Nat.le_of_ble_eq_true rfl) ((show CnP X m_X1_has _ h (some (.int (bI (hasK (tC T k) w)))) from c_has (hcs k hk4) w)) ?_
        refine ev_if_eqB 32 dX4_textsWith_22 rfl (fun hc22 => ?_) (fun hc22 => ?_)
        · refine ev_pc (pc' := 32) rfl ?_
          first
            | (have e : mskN T w (k + 1) = mskN T w k + 2 ^ k := (show smN _ k + (if hasK (tC T k) w = true then 2 ^ k else 0) = _ from by rw [if_pos hc22]; rfl); rw [← e])
            | (have e : mskN T w (k + 1) = mskN T w k := (show smN _ k + (if hasK (tC T k) w = true then 2 ^ k else 0) = _ from by rw [if_neg (by rw [hc22]; decide)]; rfl); rw [← e])
          refine ev_iincN (L' := [_, _, _, _, _]) 1 dX4_textsWith_32 rfl rfl ?_
          refine ev_goto 5 dX4_textsWith_35 rfl ?_
          refine ev_pc (pc' := 5) rfl ?_
          exact ih _ (by omega) (k + 1) rfl (by omega)
        · refine ev_iload_n dX4_textsWith_25 rfl rfl ?_
          refine ev_iconst (nI 1) dX4_textsWith_26 rfl ?_
          refine ev_iload dX4_textsWith_27 rfl ?_
          refine ev_ishl dX4_textsWith_29 ?_
          refine ev_ior dX4_textsWith_30 ?_
          rw [msk_or k hk4 _ hm]
          refine ev_istore_n (L' := [_, _, _, _, _]) dX4_textsWith_31 rfl (Nat.le_of_ble_eq_true rfl) rfl ?_
          refine ev_pc (pc' := 32) rfl ?_
          first
            | (have e : mskN T w (k + 1) = mskN T w k + 2 ^ k := (show smN _ k + (if hasK (tC T k) w = true then 2 ^ k else 0) = _ from by rw [if_pos hc22]; rfl); rw [← e])
            | (have e : mskN T w (k + 1) = mskN T w k := (show smN _ k + (if hasK (tC T k) w = true then 2 ^ k else 0) = _ from by rw [if_neg (by rw [hc22]; decide)]; rfl); rw [← e])
          refine ev_iincN (L' := [_, _, _, _, _]) 1 dX4_textsWith_32 rfl rfl ?_
          refine ev_goto 5 dX4_textsWith_35 rfl ?_
          refine ev_pc (pc' := 5) rfl ?_
          exact ih _ (by omega) (k + 1) rfl (by omega)
  exact LP5 _ 0 rfl (Nat.zero_le _)
set_option maxHeartbeats 4000000 in
set_option maxRecDepth 100000 in
theorem c_signsOwnedAlone {X : mX} {h : mH} {c : Nat} {T : mSt} (hs : StN h c T) (t : Nat) (ht : t < 4) : CnP X m_X4_signsOwnedAlone [.ref c, .int (nI t)] h (some (.int (nI (smN (fun p => if mskN T (kR (tC T t) p) 4 = 2 ^ t then kQ (tC T t) p else 0) (kN (tC T t)))))) := by
  obtain ⟨y0, ⟨f, y1, y2⟩, hcs, hsto, hset⟩ := id hs
  have p16 : ∀ p, mskN T (kR (tC T t) p) 4 < 16 := fun p => mskN_lt _ _ 4
  have t16 : 2 ^ t ≤ 2 ^ 4 := Nat.pow_le_pow_right (by omega) (by omega)
  obtain ⟨sg, st, le, fo, rk, ⟨x0, x1, x2, x3, x4, x5⟩, hL, hN, hS, hP⟩ := id (hcs t ht)
  refine cn_of_ev (L0 := [_, _, _, _, _]) (by decide +kernel) rfl rfl (Nat.le_of_ble_eq_true rfl) rfl ?_
  refine ev_aload_n dX4_signsOwnedAlone_0 rfl rfl ?_
  first | refine ev_getfield dX4_signsOwnedAlone_1 lf_4_11 (y0) rfl ?_ | refine ev_getfield dX4_signsOwnedAlone_1 lf_4_11 (y1) rfl ?_
  refine ev_iload_n dX4_signsOwnedAlone_4 rfl rfl ?_
  refine ev_aaloadN dX4_signsOwnedAlone_5 (Or.inl rfl) y1 ht (by decide) (y2 t ht) ?_
  refine ev_astore_n (L' := [_, _, _, _, _]) dX4_signsOwnedAlone_6 rfl (Nat.le_of_ble_eq_true rfl) rfl ?_
  refine ev_iconst (nI 0) dX4_signsOwnedAlone_7 rfl ?_
  refine ev_istore_n (L' := [_, _, _, _, _]) dX4_signsOwnedAlone_8 rfl (Nat.le_of_ble_eq_true rfl) rfl ?_
  refine ev_iconst (nI 0) dX4_signsOwnedAlone_9 rfl ?_
  refine ev_istore (L' := [_, _, _, _, _]) dX4_signsOwnedAlone_10 (Nat.le_of_ble_eq_true rfl) rfl ?_
  refine ev_pc (pc' := 12) rfl ?_
  have LP12 : ∀ (mz : Nat) (k : Nat), kN (tC T t) - k = mz → (k ≤ kN (tC T t)) → Ev X m_X4_signsOwnedAlone B0 12 [.ref c, .int (nI t), .ref (c + 8 + 6 * t), .int (nI (smN (fun p => if mskN T (kR (tC T t) p) 4 = 2 ^ t then kQ (tC T t) p else 0) k)), .int (nI k)] [] h (fun o h1 => o = .inl (some (.int (nI (smN (fun p => if mskN T (kR (tC T t) p) 4 = 2 ^ t then kQ (tC T t) p else 0) (kN (tC T t)))))) ∧ h1 = h) := by
    intro mz
    induction mz using Nat.strongRecOn with
    | _ mz ih =>
      intro k hmz hk
      have pk := p16 k
      refine ev_iload dX4_signsOwnedAlone_12 rfl ?_
      refine ev_aload_n dX4_signsOwnedAlone_14 rfl rfl ?_
      first | refine ev_getfield dX4_signsOwnedAlone_15 lf_4_63 (x0) rfl ?_ | refine ev_getfield dX4_signsOwnedAlone_15 lf_4_63 (x1) rfl ?_ | refine ev_getfield dX4_signsOwnedAlone_15 lf_4_63 (x2) rfl ?_ | refine ev_getfield dX4_signsOwnedAlone_15 lf_4_63 (x3) rfl ?_ | refine ev_getfield dX4_signsOwnedAlone_15 lf_4_63 (x4) rfl ?_ | refine ev_getfield dX4_signsOwnedAlone_15 lf_4_63 (x5) rfl ?_ | refine ev_getfield dX4_signsOwnedAlone_15 lf_4_63 (y0) rfl ?_ | refine ev_getfield dX4_signsOwnedAlone_15 lf_4_63 (y1) rfl ?_
      refine ev_icmp_geN 54 dX4_signsOwnedAlone_18 rfl (by omega) (by omega) (fun hc18 => ?_) (fun hc18 => ?_)
      · refine ev_iload_n dX4_signsOwnedAlone_54 rfl rfl ?_
        refine ev_ireturn dX4_signsOwnedAlone_55 rfl (Or.inl rfl) (Nat.zero_le _) (Nat.zero_le _) ?_
        rw [show kN (tC T t) = k by omega]
        exact ⟨rfl, rfl⟩
      · refine ev_aload_n dX4_signsOwnedAlone_21 rfl rfl ?_
        refine ev_aload_n dX4_signsOwnedAlone_22 rfl rfl ?_
        first | refine ev_getfield dX4_signsOwnedAlone_23 lf_4_67 (x0) rfl ?_ | refine ev_getfield dX4_signsOwnedAlone_23 lf_4_67 (x1) rfl ?_ | refine ev_getfield dX4_signsOwnedAlone_23 lf_4_67 (x2) rfl ?_ | refine ev_getfield dX4_signsOwnedAlone_23 lf_4_67 (x3) rfl ?_ | refine ev_getfield dX4_signsOwnedAlone_23 lf_4_67 (x4) rfl ?_ | refine ev_getfield dX4_signsOwnedAlone_23 lf_4_67 (x5) rfl ?_ | refine ev_getfield dX4_signsOwnedAlone_23 lf_4_67 (y0) rfl ?_ | refine ev_getfield dX4_signsOwnedAlone_23 lf_4_67 (y1) rfl ?_
        refine ev_iload dX4_signsOwnedAlone_26 rfl ?_
        first | refine ev_laloadN dX4_signsOwnedAlone_28 (x0) (by omega) (by decide) ?_ | refine ev_laloadN dX4_signsOwnedAlone_28 (x1) (by omega) (by decide) ?_ | refine ev_laloadN dX4_signsOwnedAlone_28 (x2) (by omega) (by decide) ?_ | refine ev_laloadN dX4_signsOwnedAlone_28 (x3) (by omega) (by decide) ?_ | refine ev_laloadN dX4_signsOwnedAlone_28 (x4) (by omega) (by decide) ?_ | refine ev_laloadN dX4_signsOwnedAlone_28 (x5) (by omega) (by decide) ?_ | refine ev_laloadN dX4_signsOwnedAlone_28 (y0) (by omega) (by decide) ?_ | refine ev_laloadN dX4_signsOwnedAlone_28 (y1) (by omega) (by decide) ?_
        rw [(hP k (by omega)).2.2.2.1]
        first | refine ev_callVP1 dX4_signsOwnedAlone_29 cal_X4_textsWith lk_4_71 ⟨(Nat.le_of_ble_eq_true rfl), (Nat.le_of_ble_eq_true rfl)⟩ rfl (x0) (Nat.le_of_ble_eq_true rfl) (c_textsWith hs _) ?_ | refine ev_callVP1 dX4_signsOwnedAlone_29 cal_X4_textsWith lk_4_71 ⟨(Nat.le_of_ble_eq_true rfl), (Nat.le_of_ble_eq_true rfl)⟩ rfl (x1) (Nat.le_of_ble_eq_true rfl) (c_textsWith hs _) ?_ | refine ev_callVP1 dX4_signsOwnedAlone_29 cal_X4_textsWith lk_4_71 ⟨(Nat.le_of_ble_eq_true rfl), (Nat.le_of_ble_eq_true rfl)⟩ rfl (x2) (Nat.le_of_ble_eq_true rfl) (c_textsWith hs _) ?_ | refine ev_callVP1 dX4_signsOwnedAlone_29 cal_X4_textsWith lk_4_71 ⟨(Nat.le_of_ble_eq_true rfl), (Nat.le_of_ble_eq_true rfl)⟩ rfl (x3) (Nat.le_of_ble_eq_true rfl) (c_textsWith hs _) ?_ | refine ev_callVP1 dX4_signsOwnedAlone_29 cal_X4_textsWith lk_4_71 ⟨(Nat.le_of_ble_eq_true rfl), (Nat.le_of_ble_eq_true rfl)⟩ rfl (x4) (Nat.le_of_ble_eq_true rfl) (c_textsWith hs _) ?_ | refine ev_callVP1 dX4_signsOwnedAlone_29 cal_X4_textsWith lk_4_71 ⟨(Nat.le_of_ble_eq_true rfl), (Nat.le_of_ble_eq_true rfl)⟩ rfl (x5) (Nat.le_of_ble_eq_true rfl) (c_textsWith hs _) ?_ | refine ev_callVP1 dX4_signsOwnedAlone_29 cal_X4_textsWith lk_4_71 ⟨(Nat.le_of_ble_eq_true rfl), (Nat.le_of_ble_eq_true rfl)⟩ rfl (y0) (Nat.le_of_ble_eq_true rfl) (c_textsWith hs _) ?_ | refine ev_callVP1 dX4_signsOwnedAlone_29 cal_X4_textsWith lk_4_71 ⟨(Nat.le_of_ble_eq_true rfl), (Nat.le_of_ble_eq_true rfl)⟩ rfl (y1) (Nat.le_of_ble_eq_true rfl) (c_textsWith hs _) ?_
        refine ev_iconst (nI 1) dX4_signsOwnedAlone_32 rfl ?_
        refine ev_iload_n dX4_signsOwnedAlone_33 rfl rfl ?_
        refine ev_ishl dX4_signsOwnedAlone_34 ?_
        rw [msk_1 t ht]
        refine ev_icmp_neN 48 dX4_signsOwnedAlone_35 rfl (by omega) (by omega) (fun hc35 => ?_) (fun hc35 => ?_)
        · refine ev_pc (pc' := 48) rfl ?_
          first
            | (have e : smN (fun p => if mskN T (kR (tC T t) p) 4 = 2 ^ t then kQ (tC T t) p else 0) (k + 1) = smN (fun p => if mskN T (kR (tC T t) p) 4 = 2 ^ t then kQ (tC T t) p else 0) k + kQ (tC T t) k := (show smN _ k + (if mskN T (kR (tC T t) k) 4 = 2 ^ t then kQ (tC T t) k else 0) = _ from by rw [if_pos hc35]); rw [← e])
            | (have e : smN (fun p => if mskN T (kR (tC T t) p) 4 = 2 ^ t then kQ (tC T t) p else 0) (k + 1) = smN (fun p => if mskN T (kR (tC T t) p) 4 = 2 ^ t then kQ (tC T t) p else 0) k := (show smN _ k + (if mskN T (kR (tC T t) k) 4 = 2 ^ t then kQ (tC T t) k else 0) = _ from by rw [if_neg hc35]; rfl); rw [← e])
          refine ev_iincN (L' := [_, _, _, _, _]) 1 dX4_signsOwnedAlone_48 rfl rfl ?_
          refine ev_goto 12 dX4_signsOwnedAlone_51 rfl ?_
          refine ev_pc (pc' := 12) rfl ?_
          exact ih _ (by omega) (k + 1) rfl (by omega)
        · refine ev_iload_n dX4_signsOwnedAlone_38 rfl rfl ?_
          refine ev_aload_n dX4_signsOwnedAlone_39 rfl rfl ?_
          first | refine ev_getfield dX4_signsOwnedAlone_40 lf_4_75 (x0) rfl ?_ | refine ev_getfield dX4_signsOwnedAlone_40 lf_4_75 (x1) rfl ?_ | refine ev_getfield dX4_signsOwnedAlone_40 lf_4_75 (x2) rfl ?_ | refine ev_getfield dX4_signsOwnedAlone_40 lf_4_75 (x3) rfl ?_ | refine ev_getfield dX4_signsOwnedAlone_40 lf_4_75 (x4) rfl ?_ | refine ev_getfield dX4_signsOwnedAlone_40 lf_4_75 (x5) rfl ?_ | refine ev_getfield dX4_signsOwnedAlone_40 lf_4_75 (y0) rfl ?_ | refine ev_getfield dX4_signsOwnedAlone_40 lf_4_75 (y1) rfl ?_
          refine ev_iload dX4_signsOwnedAlone_43 rfl ?_
          first | refine ev_ialoadF dX4_signsOwnedAlone_45 (x0) (by omega) (by decide) ?_ | refine ev_ialoadF dX4_signsOwnedAlone_45 (x1) (by omega) (by decide) ?_ | refine ev_ialoadF dX4_signsOwnedAlone_45 (x2) (by omega) (by decide) ?_ | refine ev_ialoadF dX4_signsOwnedAlone_45 (x3) (by omega) (by decide) ?_ | refine ev_ialoadF dX4_signsOwnedAlone_45 (x4) (by omega) (by decide) ?_ | refine ev_ialoadF dX4_signsOwnedAlone_45 (x5) (by omega) (by decide) ?_ | refine ev_ialoadF dX4_signsOwnedAlone_45 (y0) (by omega) (by decide) ?_ | refine ev_ialoadF dX4_signsOwnedAlone_45 (y1) (by omega) (by decide) ?_
          rw [(hP k (by omega)).2.1]
          refine ev_iaddN dX4_signsOwnedAlone_46 ?_
          refine ev_istore_n (L' := [_, _, _, _, _]) dX4_signsOwnedAlone_47 rfl (Nat.le_of_ble_eq_true rfl) rfl ?_
          refine ev_pc (pc' := 48) rfl ?_
          first
            | (have e : smN (fun p => if mskN T (kR (tC T t) p) 4 = 2 ^ t then kQ (tC T t) p else 0) (k + 1) = smN (fun p => if mskN T (kR (tC T t) p) 4 = 2 ^ t then kQ (tC T t) p else 0) k + kQ (tC T t) k := (show smN _ k + (if mskN T (kR (tC T t) k) 4 = 2 ^ t then kQ (tC T t) k else 0) = _ from by rw [if_pos hc35]); rw [← e])
            | (have e : smN (fun p => if mskN T (kR (tC T t) p) 4 = 2 ^ t then kQ (tC T t) p else 0) (k + 1) = smN (fun p => if mskN T (kR (tC T t) p) 4 = 2 ^ t then kQ (tC T t) p else 0) k := (show smN _ k + (if mskN T (kR (tC T t) k) 4 = 2 ^ t then kQ (tC T t) k else 0) = _ from by rw [if_neg hc35]; rfl); rw [← e])
          refine ev_iincN (L' := [_, _, _, _, _]) 1 dX4_signsOwnedAlone_48 rfl rfl ?_
          refine ev_goto 12 dX4_signsOwnedAlone_51 rfl ?_
          refine ev_pc (pc' := 12) rfl ?_
          exact ih _ (by omega) (k + 1) rfl (by omega)
  exact LP12 _ 0 rfl (Nat.zero_le _)
set_option maxHeartbeats 4000000 in
set_option maxRecDepth 100000 in
theorem c_St_become {X : mX} {h : mH} {c d : Nat} {T T0 : mSt} (hs : StN h c T) (hd : StN h d T0) (hdj : c + 32 ≤ d ∨ d + 32 ≤ c) : CnU X m_X4_become [.ref d, .ref c] h (fun v h1 => v = none ∧ StN h1 d T ∧ Out h h1 d 32) := by
  obtain ⟨z0, ⟨fz, z1, z2⟩, hcz, hstz, hsez⟩ := id hd
  refine cn_of_ev (L0 := [_, _, _]) (by decide +kernel) rfl rfl (Nat.le_of_ble_eq_true rfl) rfl ?_
  refine ev_iconst (nI 0) dX4_become_0 rfl ?_
  refine ev_istore_n (L' := [_, _, _]) dX4_become_1 rfl (Nat.le_of_ble_eq_true rfl) rfl ?_
  refine ev_pc (pc' := 2) rfl ?_
  have LP2 : ∀ (mz : Nat) (k : Nat) (h2 : mH), 4 - k = mz → (k ≤ 4) → (∀ q, q < 4 → q < k → CutN h2 (d + 8 + 6 * q) (tC T q)) → (∀ q, q < 4 → k ≤ q → CutN h2 (d + 8 + 6 * q) (tC T0 q)) → (Out h h2 (d + 8) 24) → Ev X m_X4_become B0 2 [.ref d, .ref c, .int (nI k)] [] h2 (fun o h1 => ∃ v, o = .inl v ∧ (v = none ∧ StN h1 d T ∧ Out h h1 d 32)) := by
    intro mz
    induction mz using Nat.strongRecOn with
    | _ mz ih =>
      intro k h2 hmz hk hlo hhi ho
      have hs2 := hs.go ho (by omega)
      obtain ⟨y0, ⟨f, y1, y2⟩, hcs, hsto, hset⟩ := id hs2
      have w0 := (ho d (by omega)).trans z0
      have w1 := (ho (d + 1) (by omega)).trans z1
      refine ev_iload_n dX4_become_2 rfl rfl ?_
      refine ev_iconst (nI 4) dX4_become_3 rfl ?_
      refine ev_icmp_geN 28 dX4_become_4 rfl (by omega) (by omega) (fun hc4 => ?_) (fun hc4 => ?_)
      · refine ev_pc (pc' := 28) rfl ?_
        have hsz2 := hstz.go ho (by omega)
        have hsx2 := hsez.go ho (by omega)
        obtain ⟨_, _, _, ⟨a0, -, -, -⟩, -⟩ := id hsz2
        refine ev_aload_n dX4_become_28 rfl rfl ?_
        first | refine ev_getfield dX4_become_29 lf_4_20 (w0) rfl ?_ | refine ev_getfield dX4_become_29 lf_4_20 (y0) rfl ?_ | refine ev_getfield dX4_become_29 lf_4_20 (a0) rfl ?_
        refine ev_aload_n dX4_become_32 rfl rfl ?_
        first | refine ev_getfield dX4_become_33 lf_4_20 (w0) rfl ?_ | refine ev_getfield dX4_become_33 lf_4_20 (y0) rfl ?_ | refine ev_getfield dX4_become_33 lf_4_20 (a0) rfl ?_
        first | refine ev_callVU1 dX4_become_36 cal_X5_become lk_4_36 ⟨(Nat.le_of_ble_eq_true rfl), (Nat.le_of_ble_eq_true rfl)⟩ rfl (w0) (Nat.le_of_ble_eq_true rfl) (c_Store_become hsto hsz2 (by omega)) (fun v h36 hq36 => ?_) | refine ev_callVU1 dX4_become_36 cal_X5_become lk_4_36 ⟨(Nat.le_of_ble_eq_true rfl), (Nat.le_of_ble_eq_true rfl)⟩ rfl (y0) (Nat.le_of_ble_eq_true rfl) (c_Store_become hsto hsz2 (by omega)) (fun v h36 hq36 => ?_) | refine ev_callVU1 dX4_become_36 cal_X5_become lk_4_36 ⟨(Nat.le_of_ble_eq_true rfl), (Nat.le_of_ble_eq_true rfl)⟩ rfl (a0) (Nat.le_of_ble_eq_true rfl) (c_Store_become hsto hsz2 (by omega)) (fun v h36 hq36 => ?_)
        refine ev_pc (pc' := 39) rfl ?_
        obtain ⟨rfl, hs3, ho3⟩ := hq36
        have w03 := (ho3 d (by omega)).trans w0
        have y03 := (ho3 c (by omega)).trans y0
        have hset3 := hset.go ho3 (by omega)
        have hsx3 := hsx2.go ho3 (by omega)
        obtain ⟨⟨b0, -⟩, -⟩ := id hsx3
        refine ev_aload_n dX4_become_39 rfl rfl ?_
        first | refine ev_getfield dX4_become_40 lf_4_27 (w03) rfl ?_ | refine ev_getfield dX4_become_40 lf_4_27 (y03) rfl ?_ | refine ev_getfield dX4_become_40 lf_4_27 (b0) rfl ?_
        refine ev_aload_n dX4_become_43 rfl rfl ?_
        first | refine ev_getfield dX4_become_44 lf_4_27 (w03) rfl ?_ | refine ev_getfield dX4_become_44 lf_4_27 (y03) rfl ?_ | refine ev_getfield dX4_become_44 lf_4_27 (b0) rfl ?_
        first | refine ev_callVU1 dX4_become_47 cal_X3_become lk_4_39 ⟨(Nat.le_of_ble_eq_true rfl), (Nat.le_of_ble_eq_true rfl)⟩ rfl (w03) (Nat.le_of_ble_eq_true rfl) (c_Set_become hset3 hsx3 (by omega)) (fun v h47 hq47 => ?_) | refine ev_callVU1 dX4_become_47 cal_X3_become lk_4_39 ⟨(Nat.le_of_ble_eq_true rfl), (Nat.le_of_ble_eq_true rfl)⟩ rfl (y03) (Nat.le_of_ble_eq_true rfl) (c_Set_become hset3 hsx3 (by omega)) (fun v h47 hq47 => ?_) | refine ev_callVU1 dX4_become_47 cal_X3_become lk_4_39 ⟨(Nat.le_of_ble_eq_true rfl), (Nat.le_of_ble_eq_true rfl)⟩ rfl (b0) (Nat.le_of_ble_eq_true rfl) (c_Set_become hset3 hsx3 (by omega)) (fun v h47 hq47 => ?_)
        refine ev_pc (pc' := 50) rfl ?_
        obtain ⟨rfl, hs4, ho4⟩ := hq47
        refine ev_return dX4_become_50 rfl (Or.inl rfl) (Nat.zero_le _) (Nat.zero_le _) ?_
        exact ⟨none, rfl, rfl, ⟨(ho4 d (by omega)).trans w03, ⟨fz, (ho4 (d + 1) (by omega)).trans ((ho3 (d + 1) (by omega)).trans w1), z2⟩, fun t ht => ((hlo t ht (by omega)).go ho3 (by omega)).go ho4 (by omega), hs3.go ho4 (by omega), hs4⟩, ((ho.up (by omega) (by omega)).tr (ho3.up (by omega) (by omega))).tr (ho4.up (by omega) (by omega))⟩
      · refine ev_aload_n dX4_become_7 rfl rfl ?_
        first | refine ev_getfield dX4_become_8 lf_4_11 (w0) rfl ?_ | refine ev_getfield dX4_become_8 lf_4_11 (w1) rfl ?_ | refine ev_getfield dX4_become_8 lf_4_11 (y0) rfl ?_ | refine ev_getfield dX4_become_8 lf_4_11 (y1) rfl ?_
        refine ev_iload_n dX4_become_11 rfl rfl ?_
        have hk4 : k < 4 := by omega
        obtain ⟨-, -, -, -, -, ⟨u0, -, -, -, -, -⟩, -, -, -, -⟩ := id (hhi k hk4 (Nat.le_refl _))
        refine ev_aaloadN dX4_become_12 (Or.inl rfl) w1 hk4 (by decide) (z2 k hk4) ?_
        refine ev_aload_n dX4_become_13 rfl rfl ?_
        first | refine ev_getfield dX4_become_14 lf_4_11 (w0) rfl ?_ | refine ev_getfield dX4_become_14 lf_4_11 (w1) rfl ?_ | refine ev_getfield dX4_become_14 lf_4_11 (y0) rfl ?_ | refine ev_getfield dX4_become_14 lf_4_11 (y1) rfl ?_
        refine ev_iload_n dX4_become_17 rfl rfl ?_
        refine ev_aaloadN dX4_become_18 (Or.inl rfl) y1 hk4 (by decide) (y2 k hk4) ?_
        refine ev_pc (pc' := 19) rfl ?_
        refine ev_callVU1 dX4_become_19 cal_X1_become lk_4_32 ⟨(Nat.le_of_ble_eq_true rfl), (Nat.le_of_ble_eq_true rfl)⟩ rfl (u0) (Nat.le_of_ble_eq_true rfl) (c_Cut_become (hcs k hk4) (hhi k hk4 (Nat.le_refl _)) (by omega)) (fun v h19 hq19 => ?_)
        refine ev_pc (pc' := 22) rfl ?_
        obtain ⟨rfl, hc3, ho3⟩ := hq19
        refine ev_iincN (L' := [_, _, _]) 1 dX4_become_22 rfl rfl ?_
        refine ev_goto 2 dX4_become_25 rfl ?_
        refine ih _ (by omega) (k + 1) _ rfl (by omega) (fun q hq4 hq => ?_) (fun q hq4 hq => (hhi q hq4 (by omega)).go ho3 (by omega)) (ho.tr (ho3.up (by omega) (by omega)))
        by_cases e : q = k
        · rw [e]; exact hc3
        · exact (hlo q hq4 (by omega)).go ho3 (by omega)
  exact LP2 _ 0 h rfl (Nat.zero_le _) (fun q _ hq => absurd hq (Nat.not_lt_zero q)) (fun q hq _ => hcz q hq) Out.rf
