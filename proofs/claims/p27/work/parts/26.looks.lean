def bcX (x0 : Int32) : Int32 :=
  let u := fun (x y : Int32) => (x.toUInt32 >>> (y.toUInt32 &&& Int32.toUInt32 31)).toInt32
  let x1 := x0 - (u x0 (nI 1) &&& 1431655765)
  let x2 := (x1 &&& 858993459) + (u x1 (nI 2) &&& 858993459)
  let x3 := (x2 + u x2 (nI 4)) &&& 252645135
  let x4 := x3 + u x3 (nI 8)
  let x5 := x4 + u x4 (nI 16)
  x5 &&& nI 63
def popN (a : Nat) : Nat := a % 2 + a / 2 % 2 + a / 4 % 2 + a / 8 % 2
theorem bcX_eq : ∀ a, a < 16 → bcX (nI a) = nI (popN a) := by decide +kernel
/-- the first and the last sign of a row, as the class takes them -/
def fsW (w : Int64) : Int32 := ((w >>> ((nI (3 * (rl w - 1))).toInt64 &&& 63)) &&& 7).toInt32 + nI 1
def lsW (w : Int64) : Int32 := (w &&& 7).toInt32 + nI 1
set_option maxHeartbeats 4000000 in
set_option maxRecDepth 100000 in
theorem c_bitCount {X : mX} {h : mH} (a : Nat) (ha : a < 16) : CnP X m_J6_bitCount_0f7a4 [.int (nI a)] h (some (.int (nI (popN a)))) := by
  refine cn_of_ev (L0 := [_]) (by decide +kernel) rfl rfl (Nat.le_of_ble_eq_true rfl) rfl ?_
  refine ev_iload_n dJ6_bitCount_0f7a4_0 rfl rfl ?_
  refine ev_iload_n dJ6_bitCount_0f7a4_1 rfl rfl ?_
  refine ev_iconst (nI 1) dJ6_bitCount_0f7a4_2 rfl ?_
  refine ev_iushr dJ6_bitCount_0f7a4_3 ?_
  refine ev_ldcw _ dJ6_bitCount_0f7a4_4 lc_10_265 ?_
  refine ev_iand dJ6_bitCount_0f7a4_7 ?_
  refine ev_isub dJ6_bitCount_0f7a4_8 ?_
  refine ev_istore_n (L' := [_]) dJ6_bitCount_0f7a4_9 rfl (Nat.le_of_ble_eq_true rfl) rfl ?_
  refine ev_iload_n dJ6_bitCount_0f7a4_10 rfl rfl ?_
  refine ev_ldcw _ dJ6_bitCount_0f7a4_11 lc_10_266 ?_
  refine ev_iand dJ6_bitCount_0f7a4_14 ?_
  refine ev_iload_n dJ6_bitCount_0f7a4_15 rfl rfl ?_
  refine ev_iconst (nI 2) dJ6_bitCount_0f7a4_16 rfl ?_
  refine ev_iushr dJ6_bitCount_0f7a4_17 ?_
  refine ev_ldcw _ dJ6_bitCount_0f7a4_18 lc_10_266 ?_
  refine ev_iand dJ6_bitCount_0f7a4_21 ?_
  refine ev_iadd dJ6_bitCount_0f7a4_22 ?_
  refine ev_istore_n (L' := [_]) dJ6_bitCount_0f7a4_23 rfl (Nat.le_of_ble_eq_true rfl) rfl ?_
  refine ev_iload_n dJ6_bitCount_0f7a4_24 rfl rfl ?_
  refine ev_iload_n dJ6_bitCount_0f7a4_25 rfl rfl ?_
  refine ev_iconst (nI 4) dJ6_bitCount_0f7a4_26 rfl ?_
  refine ev_iushr dJ6_bitCount_0f7a4_27 ?_
  refine ev_iadd dJ6_bitCount_0f7a4_28 ?_
  refine ev_ldcw _ dJ6_bitCount_0f7a4_29 lc_10_267 ?_
  refine ev_iand dJ6_bitCount_0f7a4_32 ?_
  refine ev_istore_n (L' := [_]) dJ6_bitCount_0f7a4_33 rfl (Nat.le_of_ble_eq_true rfl) rfl ?_
  refine ev_iload_n dJ6_bitCount_0f7a4_34 rfl rfl ?_
  refine ev_iload_n dJ6_bitCount_0f7a4_35 rfl rfl ?_
  refine ev_bipush (nI 8) dJ6_bitCount_0f7a4_36 rfl ?_
  refine ev_iushr dJ6_bitCount_0f7a4_38 ?_
  refine ev_iadd dJ6_bitCount_0f7a4_39 ?_
  refine ev_istore_n (L' := [_]) dJ6_bitCount_0f7a4_40 rfl (Nat.le_of_ble_eq_true rfl) rfl ?_
  refine ev_iload_n dJ6_bitCount_0f7a4_41 rfl rfl ?_
  refine ev_iload_n dJ6_bitCount_0f7a4_42 rfl rfl ?_
  refine ev_bipush (nI 16) dJ6_bitCount_0f7a4_43 rfl ?_
  refine ev_iushr dJ6_bitCount_0f7a4_45 ?_
  refine ev_iadd dJ6_bitCount_0f7a4_46 ?_
  refine ev_istore_n (L' := [_]) dJ6_bitCount_0f7a4_47 rfl (Nat.le_of_ble_eq_true rfl) rfl ?_
  refine ev_iload_n dJ6_bitCount_0f7a4_48 rfl rfl ?_
  refine ev_bipush (nI 63) dJ6_bitCount_0f7a4_49 rfl ?_
  refine ev_iand dJ6_bitCount_0f7a4_51 ?_
  refine ev_ireturn dJ6_bitCount_0f7a4_52 rfl (Or.inl rfl) (Nat.zero_le _) (Nat.zero_le _) ?_
  rw [← bcX_eq a ha]
  exact ⟨rfl, rfl⟩
set_option maxHeartbeats 4000000 in
set_option maxRecDepth 100000 in
theorem c_firstSign {X : mX} {h : mH} {c : Nat} {S : mSo} (hs : StoreN h c S) (k : Nat) (hk : k < 60) (hq : sR S k ≠ 0) (h1 : 1 ≤ rl (sR S k)) (h2 : rl (sR S k) ≤ 20) : CnP X m_X5_firstSign [.ref c, .int (nI k)] h (some (.int (fsW (sR S k)))) := by
  obtain ⟨rr, ln, ow, ⟨y0, y1, y2, y3⟩, hV⟩ := id hs
  refine cn_of_ev (L0 := [_, _]) (by decide +kernel) rfl rfl (Nat.le_of_ble_eq_true rfl) rfl ?_
  refine ev_aload_n dX5_firstSign_0 rfl rfl ?_
  first | refine ev_getfield dX5_firstSign_1 lf_5_9 (y0) rfl ?_ | refine ev_getfield dX5_firstSign_1 lf_5_9 (y1) rfl ?_ | refine ev_getfield dX5_firstSign_1 lf_5_9 (y2) rfl ?_ | refine ev_getfield dX5_firstSign_1 lf_5_9 (y3) rfl ?_
  refine ev_iload_n dX5_firstSign_4 rfl rfl ?_
  first | refine ev_laloadN dX5_firstSign_5 (y0) (by omega) (by decide) ?_ | refine ev_laloadN dX5_firstSign_5 (y1) (by omega) (by decide) ?_ | refine ev_laloadN dX5_firstSign_5 (y2) (by omega) (by decide) ?_ | refine ev_laloadN dX5_firstSign_5 (y3) (by omega) (by decide) ?_
  rw [(hV k hk).1]
  refine ev_iconst (nI 3) dX5_firstSign_6 rfl ?_
  refine ev_aload_n dX5_firstSign_7 rfl rfl ?_
  first | refine ev_getfield dX5_firstSign_8 lf_5_15 (y0) rfl ?_ | refine ev_getfield dX5_firstSign_8 lf_5_15 (y1) rfl ?_ | refine ev_getfield dX5_firstSign_8 lf_5_15 (y2) rfl ?_ | refine ev_getfield dX5_firstSign_8 lf_5_15 (y3) rfl ?_
  refine ev_iload_n dX5_firstSign_11 rfl rfl ?_
  first | refine ev_ialoadF dX5_firstSign_12 (y0) (by omega) (by decide) ?_ | refine ev_ialoadF dX5_firstSign_12 (y1) (by omega) (by decide) ?_ | refine ev_ialoadF dX5_firstSign_12 (y2) (by omega) (by decide) ?_ | refine ev_ialoadF dX5_firstSign_12 (y3) (by omega) (by decide) ?_
  rw [((hV k hk).2 hq).1]
  refine ev_iconst (nI 1) dX5_firstSign_13 rfl ?_
  refine ev_isubN dX5_firstSign_14 (by omega) ?_
  refine ev_imulN dX5_firstSign_15 ?_
  refine ev_lshr dX5_firstSign_16 ?_
  refine ev_ldc2 _ dX5_firstSign_17 lc_5_35 ?_
  refine ev_land dX5_firstSign_20 ?_
  refine ev_l2i dX5_firstSign_21 ?_
  refine ev_iconst (nI 1) dX5_firstSign_22 rfl ?_
  refine ev_iadd dX5_firstSign_23 ?_
  refine ev_ireturn dX5_firstSign_24 rfl (Or.inl rfl) (Nat.zero_le _) (Nat.zero_le _) ?_
  exact ⟨rfl, rfl⟩
set_option maxHeartbeats 4000000 in
set_option maxRecDepth 100000 in
theorem c_lastSign {X : mX} {h : mH} {c : Nat} {S : mSo} (hs : StoreN h c S) (k : Nat) (hk : k < 60) : CnP X m_X5_lastSign [.ref c, .int (nI k)] h (some (.int (lsW (sR S k)))) := by
  obtain ⟨rr, ln, ow, ⟨y0, y1, y2, y3⟩, hV⟩ := id hs
  refine cn_of_ev (L0 := [_, _]) (by decide +kernel) rfl rfl (Nat.le_of_ble_eq_true rfl) rfl ?_
  refine ev_aload_n dX5_lastSign_0 rfl rfl ?_
  first | refine ev_getfield dX5_lastSign_1 lf_5_9 (y0) rfl ?_ | refine ev_getfield dX5_lastSign_1 lf_5_9 (y1) rfl ?_ | refine ev_getfield dX5_lastSign_1 lf_5_9 (y2) rfl ?_ | refine ev_getfield dX5_lastSign_1 lf_5_9 (y3) rfl ?_
  refine ev_iload_n dX5_lastSign_4 rfl rfl ?_
  first | refine ev_laloadN dX5_lastSign_5 (y0) (by omega) (by decide) ?_ | refine ev_laloadN dX5_lastSign_5 (y1) (by omega) (by decide) ?_ | refine ev_laloadN dX5_lastSign_5 (y2) (by omega) (by decide) ?_ | refine ev_laloadN dX5_lastSign_5 (y3) (by omega) (by decide) ?_
  rw [(hV k hk).1]
  refine ev_ldc2 _ dX5_lastSign_6 lc_5_35 ?_
  refine ev_land dX5_lastSign_9 ?_
  refine ev_l2i dX5_lastSign_10 ?_
  refine ev_iconst (nI 1) dX5_lastSign_11 rfl ?_
  refine ev_iadd dX5_lastSign_12 ?_
  refine ev_ireturn dX5_lastSign_13 rfl (Or.inl rfl) (Nat.zero_le _) (Nat.zero_le _) ?_
  exact ⟨rfl, rfl⟩
def sltV (T : mSt) (k : Nat) : Nat → Int32
  | 0 => nI (rl (sR (tS T) k))
  | 1 => nI (sO (tS T) k)
  | 2 => fsW (sR (tS T) k)
  | 3 => lsW (sR (tS T) k)
  | _ => nI (mskN T (sR (tS T) k) 4)
def pceV (T : mSt) (t p : Nat) : Nat → Int32
  | 0 => slI (slU (tS T) (kR (tC T t) p))
  | 1 => nI (kP (tC T t) p)
  | 2 => nI (kQ (tC T t) p)
  | 3 => nI (b2n (kF (tC T t) p))
  | _ => nI (popN (mskN T (kR (tC T t) p) 4)) - nI 1
set_option maxHeartbeats 4000000 in
set_option maxRecDepth 100000 in
theorem x_slot {X : mX} {h : mH} (t w : Int32) (ht : inX t 0 60 = false) : CnX X m_X6_slot [.ref 0, .int t, .int w] h 0 (fun h1 => h1 = h) := by
  refine cn_of_ev (L0 := [_, _, _, _]) (by decide +kernel) rfl rfl (Nat.le_of_ble_eq_true rfl) rfl ?_
  refine ev_iload_n dX6_slot_0 rfl rfl ?_
  refine ev_if_lt 10 dX6_slot_1 rfl (fun hc1 => ?_) (fun hc1 => ?_)
  · refine ev_throwS (M' := m_X6_slot) (f1 := none) (mc1 := 0) (ms1 := 0) (Q1 := fun _ _ => True) 0 "no such slot" (by decide) rfl (by decide) rfl (by decide) (Nat.le_of_ble_eq_true rfl) dX6_slot_10 dX6_slot_13 dX6_slot_14 dX6_slot_16 dX6_slot_19 (Nat.le_refl _) (Nat.le_refl _) ?_
    exact ⟨rfl, rfl⟩
  · refine ev_iload_n dX6_slot_4 rfl rfl ?_
    refine ev_bipush (nI 60) dX6_slot_5 rfl ?_
    refine ev_icmp_lt 20 dX6_slot_7 rfl (fun hc7 => ?_) (fun hc7 => ?_)
    · refine ev_pc (pc' := 20) rfl ?_
      exact absurd (inX_lt0 hc1 hc7 (by decide)) (by rw [ht]; decide)
    · refine ev_throwS (M' := m_X6_slot) (f1 := none) (mc1 := 0) (ms1 := 0) (Q1 := fun _ _ => True) 0 "no such slot" (by decide) rfl (by decide) rfl (by decide) (Nat.le_of_ble_eq_true rfl) dX6_slot_10 dX6_slot_13 dX6_slot_14 dX6_slot_16 dX6_slot_19 (Nat.le_refl _) (Nat.le_refl _) ?_
      exact ⟨rfl, rfl⟩
set_option maxHeartbeats 4000000 in
set_option maxRecDepth 100000 in
theorem x_slot2 {X : mX} {h : mH} (t : Nat) (w : Int32) (ht : t < 60) (hw : inX w 0 5 = false) : CnX X m_X6_slot [.ref 0, .int (nI t), .int w] h 1 (fun h1 => h1 = h) := by
  refine cn_of_ev (L0 := [_, _, _, _]) (by decide +kernel) rfl rfl (Nat.le_of_ble_eq_true rfl) rfl ?_
  refine ev_iload_n dX6_slot_0 rfl rfl ?_
  refine ev_if_ltN 10 dX6_slot_1 rfl (by omega) (fun hc1 => ?_) (fun hc1 => ?_)
  · refine ev_pc (pc' := 10) rfl ?_
    first | exact hc1.elim | omega
  · refine ev_iload_n dX6_slot_4 rfl rfl ?_
    refine ev_bipush (nI 60) dX6_slot_5 rfl ?_
    refine ev_icmp_ltN 20 dX6_slot_7 rfl (by omega) (by omega) (fun hc7 => ?_) (fun hc7 => ?_)
    · refine ev_iload_n dX6_slot_20 rfl rfl ?_
      refine ev_iconst (nI 4) dX6_slot_21 rfl ?_
      refine ev_callSX2 dX6_slot_22 cal_X6_requireWhat lk_6_160 ⟨(Nat.le_of_ble_eq_true rfl), (Nat.le_of_ble_eq_true rfl)⟩ rfl (Nat.le_of_ble_eq_true rfl) (x_requireWhat w 4 (by decide) hw) (fun h22 hq22 => ?_)
      exact ⟨rfl, hq22⟩
    · refine ev_pc (pc' := 10) rfl ?_
      first | exact hc1.elim | omega
set_option maxHeartbeats 4000000 in
set_option maxRecDepth 100000 in
theorem c_slot {X : mX} {h : mH} {A : mAs} (hA : ClsN h A) (hB : SoB (tS (aT A))) (k w : Nat) (hk : k < 60) (hw : w < 5) (h1 : sR (tS (aT A)) k ≠ 0 → 1 ≤ rl (sR (tS (aT A)) k)) : CnP X m_X6_slot [.ref 0, .int (nI k), .int (nI w)] h (some (.int (if isF (tS (aT A)) k = true then -1 else sltV (aT A) k w))) := by
  obtain ⟨a0, hT, hH, hBf, hW⟩ := id hA
  obtain ⟨t0, ⟨f, t1, t2⟩, hcs, hsto, hset⟩ := id hT
  obtain ⟨m0, hm6, -⟩ := id hH
  obtain ⟨⟨b0, bf, b1, hbf⟩, hb60, hbd⟩ := id hBf
  obtain ⟨rr, ln, ow, ⟨s0, s1, s2, s3⟩, hV⟩ := id hsto
  refine cn_of_ev (L0 := [_, _, _, _]) (by decide +kernel) rfl rfl (Nat.le_of_ble_eq_true rfl) rfl ?_
  refine ev_iload_n dX6_slot_0 rfl rfl ?_
  refine ev_if_ltN 10 dX6_slot_1 rfl (by omega) (fun hc1 => ?_) (fun hc1 => ?_)
  · refine ev_pc (pc' := 10) rfl ?_
    first | exact hc1.elim | omega
  · refine ev_iload_n dX6_slot_4 rfl rfl ?_
    refine ev_bipush (nI 60) dX6_slot_5 rfl ?_
    refine ev_icmp_ltN 20 dX6_slot_7 rfl (by omega) (by omega) (fun hc7 => ?_) (fun hc7 => ?_)
    · refine ev_iload_n dX6_slot_20 rfl rfl ?_
      refine ev_iconst (nI 4) dX6_slot_21 rfl ?_
      refine ev_callSP2 dX6_slot_22 cal_X6_requireWhat lk_6_160 ⟨(Nat.le_of_ble_eq_true rfl), (Nat.le_of_ble_eq_true rfl)⟩ rfl (Nat.le_of_ble_eq_true rfl) (c_requireWhat w 4 (by omega) (by decide)) ?_
      refine ev_aload_n dX6_slot_25 rfl rfl ?_
      first | refine ev_getfield dX6_slot_26 lf_6_10 (a0) rfl ?_ | refine ev_getfield dX6_slot_26 lf_6_10 (t0) rfl ?_ | refine ev_getfield dX6_slot_26 lf_6_10 (s0) rfl ?_
      first | refine ev_getfield dX6_slot_29 lf_6_114 (a0) rfl ?_ | refine ev_getfield dX6_slot_29 lf_6_114 (t0) rfl ?_ | refine ev_getfield dX6_slot_29 lf_6_114 (s0) rfl ?_
      refine ev_astore_n (L' := [_, _, _, _]) dX6_slot_32 rfl (Nat.le_of_ble_eq_true rfl) rfl ?_
      refine ev_aload_n dX6_slot_33 rfl rfl ?_
      refine ev_iload_n dX6_slot_34 rfl rfl ?_
      first | refine ev_callVP1 dX6_slot_35 cal_X5_isFree lk_6_207 ⟨(Nat.le_of_ble_eq_true rfl), (Nat.le_of_ble_eq_true rfl)⟩ rfl (a0) (Nat.le_of_ble_eq_true rfl) (c_isFree hsto k hk) ?_ | refine ev_callVP1 dX6_slot_35 cal_X5_isFree lk_6_207 ⟨(Nat.le_of_ble_eq_true rfl), (Nat.le_of_ble_eq_true rfl)⟩ rfl (t0) (Nat.le_of_ble_eq_true rfl) (c_isFree hsto k hk) ?_ | refine ev_callVP1 dX6_slot_35 cal_X5_isFree lk_6_207 ⟨(Nat.le_of_ble_eq_true rfl), (Nat.le_of_ble_eq_true rfl)⟩ rfl (s0) (Nat.le_of_ble_eq_true rfl) (c_isFree hsto k hk) ?_
      refine ev_if_eqB 43 dX6_slot_38 rfl (fun hc38 => ?_) (fun hc38 => ?_)
      · refine ev_pc (pc' := 43) rfl ?_
        have hq : sR (tS (aT A)) k ≠ 0 := by simpa [isF] using hc38
        rw [if_neg (by rw [hc38]; decide)]
        obtain rfl | rfl | rfl | rfl | rfl : w = 0 ∨ w = 1 ∨ w = 2 ∨ w = 3 ∨ w = 4 := by omega
        · refine ev_iload_n dX6_slot_43 rfl rfl ?_
          refine ev_tableIn 76 dX6_slot_44 (by decide) (by decide) rfl rfl ?_
          refine ev_aload_n dX6_slot_76 rfl rfl ?_
          first | refine ev_getfield dX6_slot_77 lf_6_210 (a0) rfl ?_ | refine ev_getfield dX6_slot_77 lf_6_210 (t0) rfl ?_ | refine ev_getfield dX6_slot_77 lf_6_210 (s0) rfl ?_ | refine ev_getfield dX6_slot_77 lf_6_210 (s1) rfl ?_ | refine ev_getfield dX6_slot_77 lf_6_210 (s2) rfl ?_ | refine ev_getfield dX6_slot_77 lf_6_210 (s3) rfl ?_
          refine ev_iload_n dX6_slot_80 rfl rfl ?_
          first | refine ev_ialoadF dX6_slot_81 (a0) (by omega) (by decide) ?_ | refine ev_ialoadF dX6_slot_81 (t0) (by omega) (by decide) ?_ | refine ev_ialoadF dX6_slot_81 (s0) (by omega) (by decide) ?_ | refine ev_ialoadF dX6_slot_81 (s1) (by omega) (by decide) ?_ | refine ev_ialoadF dX6_slot_81 (s2) (by omega) (by decide) ?_ | refine ev_ialoadF dX6_slot_81 (s3) (by omega) (by decide) ?_
          rw [((hV k hk).2 hq).1]
          refine ev_ireturn dX6_slot_82 rfl (Or.inl rfl) (Nat.zero_le _) (Nat.zero_le _) ?_
          exact ⟨rfl, rfl⟩
        · refine ev_iload_n dX6_slot_43 rfl rfl ?_
          refine ev_tableIn 83 dX6_slot_44 (by decide) (by decide) rfl rfl ?_
          refine ev_aload_n dX6_slot_83 rfl rfl ?_
          first | refine ev_getfield dX6_slot_84 lf_6_211 (a0) rfl ?_ | refine ev_getfield dX6_slot_84 lf_6_211 (t0) rfl ?_ | refine ev_getfield dX6_slot_84 lf_6_211 (s0) rfl ?_ | refine ev_getfield dX6_slot_84 lf_6_211 (s1) rfl ?_ | refine ev_getfield dX6_slot_84 lf_6_211 (s2) rfl ?_ | refine ev_getfield dX6_slot_84 lf_6_211 (s3) rfl ?_
          refine ev_iload_n dX6_slot_87 rfl rfl ?_
          first | refine ev_ialoadF dX6_slot_88 (a0) (by omega) (by decide) ?_ | refine ev_ialoadF dX6_slot_88 (t0) (by omega) (by decide) ?_ | refine ev_ialoadF dX6_slot_88 (s0) (by omega) (by decide) ?_ | refine ev_ialoadF dX6_slot_88 (s1) (by omega) (by decide) ?_ | refine ev_ialoadF dX6_slot_88 (s2) (by omega) (by decide) ?_ | refine ev_ialoadF dX6_slot_88 (s3) (by omega) (by decide) ?_
          rw [((hV k hk).2 hq).2]
          refine ev_ireturn dX6_slot_89 rfl (Or.inl rfl) (Nat.zero_le _) (Nat.zero_le _) ?_
          exact ⟨rfl, rfl⟩
        · refine ev_iload_n dX6_slot_43 rfl rfl ?_
          refine ev_tableIn 90 dX6_slot_44 (by decide) (by decide) rfl rfl ?_
          refine ev_aload_n dX6_slot_90 rfl rfl ?_
          refine ev_iload_n dX6_slot_91 rfl rfl ?_
          first | refine ev_callVP1 dX6_slot_92 cal_X5_firstSign lk_6_214 ⟨(Nat.le_of_ble_eq_true rfl), (Nat.le_of_ble_eq_true rfl)⟩ rfl (a0) (Nat.le_of_ble_eq_true rfl) (c_firstSign hsto k hk hq (h1 hq) (hB k hk hq).1) ?_ | refine ev_callVP1 dX6_slot_92 cal_X5_firstSign lk_6_214 ⟨(Nat.le_of_ble_eq_true rfl), (Nat.le_of_ble_eq_true rfl)⟩ rfl (t0) (Nat.le_of_ble_eq_true rfl) (c_firstSign hsto k hk hq (h1 hq) (hB k hk hq).1) ?_ | refine ev_callVP1 dX6_slot_92 cal_X5_firstSign lk_6_214 ⟨(Nat.le_of_ble_eq_true rfl), (Nat.le_of_ble_eq_true rfl)⟩ rfl (s0) (Nat.le_of_ble_eq_true rfl) (c_firstSign hsto k hk hq (h1 hq) (hB k hk hq).1) ?_ | refine ev_callVP1 dX6_slot_92 cal_X5_firstSign lk_6_214 ⟨(Nat.le_of_ble_eq_true rfl), (Nat.le_of_ble_eq_true rfl)⟩ rfl (s1) (Nat.le_of_ble_eq_true rfl) (c_firstSign hsto k hk hq (h1 hq) (hB k hk hq).1) ?_ | refine ev_callVP1 dX6_slot_92 cal_X5_firstSign lk_6_214 ⟨(Nat.le_of_ble_eq_true rfl), (Nat.le_of_ble_eq_true rfl)⟩ rfl (s2) (Nat.le_of_ble_eq_true rfl) (c_firstSign hsto k hk hq (h1 hq) (hB k hk hq).1) ?_ | refine ev_callVP1 dX6_slot_92 cal_X5_firstSign lk_6_214 ⟨(Nat.le_of_ble_eq_true rfl), (Nat.le_of_ble_eq_true rfl)⟩ rfl (s3) (Nat.le_of_ble_eq_true rfl) (c_firstSign hsto k hk hq (h1 hq) (hB k hk hq).1) ?_
          refine ev_ireturn dX6_slot_95 rfl (Or.inl rfl) (Nat.zero_le _) (Nat.zero_le _) ?_
          exact ⟨rfl, rfl⟩
        · refine ev_iload_n dX6_slot_43 rfl rfl ?_
          refine ev_tableIn 96 dX6_slot_44 (by decide) (by decide) rfl rfl ?_
          refine ev_aload_n dX6_slot_96 rfl rfl ?_
          refine ev_iload_n dX6_slot_97 rfl rfl ?_
          first | refine ev_callVP1 dX6_slot_98 cal_X5_lastSign lk_6_217 ⟨(Nat.le_of_ble_eq_true rfl), (Nat.le_of_ble_eq_true rfl)⟩ rfl (a0) (Nat.le_of_ble_eq_true rfl) (c_lastSign hsto k hk) ?_ | refine ev_callVP1 dX6_slot_98 cal_X5_lastSign lk_6_217 ⟨(Nat.le_of_ble_eq_true rfl), (Nat.le_of_ble_eq_true rfl)⟩ rfl (t0) (Nat.le_of_ble_eq_true rfl) (c_lastSign hsto k hk) ?_ | refine ev_callVP1 dX6_slot_98 cal_X5_lastSign lk_6_217 ⟨(Nat.le_of_ble_eq_true rfl), (Nat.le_of_ble_eq_true rfl)⟩ rfl (s0) (Nat.le_of_ble_eq_true rfl) (c_lastSign hsto k hk) ?_ | refine ev_callVP1 dX6_slot_98 cal_X5_lastSign lk_6_217 ⟨(Nat.le_of_ble_eq_true rfl), (Nat.le_of_ble_eq_true rfl)⟩ rfl (s1) (Nat.le_of_ble_eq_true rfl) (c_lastSign hsto k hk) ?_ | refine ev_callVP1 dX6_slot_98 cal_X5_lastSign lk_6_217 ⟨(Nat.le_of_ble_eq_true rfl), (Nat.le_of_ble_eq_true rfl)⟩ rfl (s2) (Nat.le_of_ble_eq_true rfl) (c_lastSign hsto k hk) ?_ | refine ev_callVP1 dX6_slot_98 cal_X5_lastSign lk_6_217 ⟨(Nat.le_of_ble_eq_true rfl), (Nat.le_of_ble_eq_true rfl)⟩ rfl (s3) (Nat.le_of_ble_eq_true rfl) (c_lastSign hsto k hk) ?_
          refine ev_ireturn dX6_slot_101 rfl (Or.inl rfl) (Nat.zero_le _) (Nat.zero_le _) ?_
          exact ⟨rfl, rfl⟩
        · refine ev_iload_n dX6_slot_43 rfl rfl ?_
          refine ev_tableOut 102 dX6_slot_44 (Or.inr (by decide)) rfl ?_
          refine ev_aload_n dX6_slot_102 rfl rfl ?_
          first | refine ev_getfield dX6_slot_103 lf_6_10 (a0) rfl ?_ | refine ev_getfield dX6_slot_103 lf_6_10 (t0) rfl ?_ | refine ev_getfield dX6_slot_103 lf_6_10 (s0) rfl ?_ | refine ev_getfield dX6_slot_103 lf_6_10 (s1) rfl ?_ | refine ev_getfield dX6_slot_103 lf_6_10 (s2) rfl ?_ | refine ev_getfield dX6_slot_103 lf_6_10 (s3) rfl ?_
          refine ev_aload_n dX6_slot_106 rfl rfl ?_
          first | refine ev_getfield dX6_slot_107 lf_6_220 (a0) rfl ?_ | refine ev_getfield dX6_slot_107 lf_6_220 (t0) rfl ?_ | refine ev_getfield dX6_slot_107 lf_6_220 (s0) rfl ?_ | refine ev_getfield dX6_slot_107 lf_6_220 (s1) rfl ?_ | refine ev_getfield dX6_slot_107 lf_6_220 (s2) rfl ?_ | refine ev_getfield dX6_slot_107 lf_6_220 (s3) rfl ?_
          refine ev_iload_n dX6_slot_110 rfl rfl ?_
          first | refine ev_laloadN dX6_slot_111 (a0) (by omega) (by decide) ?_ | refine ev_laloadN dX6_slot_111 (t0) (by omega) (by decide) ?_ | refine ev_laloadN dX6_slot_111 (s0) (by omega) (by decide) ?_ | refine ev_laloadN dX6_slot_111 (s1) (by omega) (by decide) ?_ | refine ev_laloadN dX6_slot_111 (s2) (by omega) (by decide) ?_ | refine ev_laloadN dX6_slot_111 (s3) (by omega) (by decide) ?_
          rw [(hV k hk).1]
          first | refine ev_callVP1 dX6_slot_112 cal_X4_textsWith lk_6_197 ⟨(Nat.le_of_ble_eq_true rfl), (Nat.le_of_ble_eq_true rfl)⟩ rfl (a0) (Nat.le_of_ble_eq_true rfl) (c_textsWith hT _) ?_ | refine ev_callVP1 dX6_slot_112 cal_X4_textsWith lk_6_197 ⟨(Nat.le_of_ble_eq_true rfl), (Nat.le_of_ble_eq_true rfl)⟩ rfl (t0) (Nat.le_of_ble_eq_true rfl) (c_textsWith hT _) ?_ | refine ev_callVP1 dX6_slot_112 cal_X4_textsWith lk_6_197 ⟨(Nat.le_of_ble_eq_true rfl), (Nat.le_of_ble_eq_true rfl)⟩ rfl (s0) (Nat.le_of_ble_eq_true rfl) (c_textsWith hT _) ?_ | refine ev_callVP1 dX6_slot_112 cal_X4_textsWith lk_6_197 ⟨(Nat.le_of_ble_eq_true rfl), (Nat.le_of_ble_eq_true rfl)⟩ rfl (s1) (Nat.le_of_ble_eq_true rfl) (c_textsWith hT _) ?_ | refine ev_callVP1 dX6_slot_112 cal_X4_textsWith lk_6_197 ⟨(Nat.le_of_ble_eq_true rfl), (Nat.le_of_ble_eq_true rfl)⟩ rfl (s2) (Nat.le_of_ble_eq_true rfl) (c_textsWith hT _) ?_ | refine ev_callVP1 dX6_slot_112 cal_X4_textsWith lk_6_197 ⟨(Nat.le_of_ble_eq_true rfl), (Nat.le_of_ble_eq_true rfl)⟩ rfl (s3) (Nat.le_of_ble_eq_true rfl) (c_textsWith hT _) ?_
          refine ev_ireturn dX6_slot_115 rfl (Or.inl rfl) (Nat.zero_le _) (Nat.zero_le _) ?_
          exact ⟨rfl, rfl⟩
      · refine ev_pc (pc' := 41) rfl ?_
        refine ev_iconst (-1) dX6_slot_41 rfl ?_
        refine ev_ireturn dX6_slot_42 rfl (Or.inl rfl) (Nat.zero_le _) (Nat.zero_le _) ?_
        rw [if_pos hc38]
        exact ⟨rfl, rfl⟩
    · refine ev_pc (pc' := 10) rfl ?_
      first | exact hc1.elim | omega
set_option maxHeartbeats 4000000 in
set_option maxRecDepth 100000 in
theorem x_sign {X : mX} {h : mH} (t u w : Int32) (ht : inX t 0 4 = false) : CnX X m_X6_sign [.ref 0, .int t, .int u, .int w] h 0 (fun h1 => h1 = h) := by
  refine cn_of_ev (L0 := [_, _, _, _, _]) (by decide +kernel) rfl rfl (Nat.le_of_ble_eq_true rfl) rfl ?_
  refine ev_iload_n dX6_sign_0 rfl rfl ?_
  refine ev_callSX1 dX6_sign_1 cal_X6_requireText lk_6_51 ⟨(Nat.le_of_ble_eq_true rfl), (Nat.le_of_ble_eq_true rfl)⟩ rfl (Nat.le_of_ble_eq_true rfl) (x_requireText t ht) (fun h1 hq1 => ?_)
  exact ⟨rfl, hq1⟩
set_option maxHeartbeats 4000000 in
set_option maxRecDepth 100000 in
theorem x_sign2 {X : mX} {h : mH} {A : mAs} (hA : ClsN h A) (t : Nat) (u w : Int32) (ht : t < 4) (hu : inX u 0 (kL (tC (aT A) t)) = false) : CnX X m_X6_sign [.ref 0, .int (nI t), .int u, .int w] h 0 (fun h1 => h1 = h) := by
  obtain ⟨a0, hT, hH, hBf, hW⟩ := id hA
  obtain ⟨t0, ⟨f, t1, t2⟩, hcs, hsto, hset⟩ := id hT
  obtain ⟨m0, hm6, -⟩ := id hH
  obtain ⟨⟨b0, bf, b1, hbf⟩, hb60, hbd⟩ := id hBf
  obtain ⟨sg, st, le, fo, rk, ⟨c0, c1, c2, c3, c4, c5⟩, hL, hN, hS, hP⟩ := id (hcs t ht)
  refine cn_of_ev (L0 := [_, _, _, _, _]) (by decide +kernel) rfl rfl (Nat.le_of_ble_eq_true rfl) rfl ?_
  refine ev_iload_n dX6_sign_0 rfl rfl ?_
  refine ev_callSP1 dX6_sign_1 cal_X6_requireText lk_6_51 ⟨(Nat.le_of_ble_eq_true rfl), (Nat.le_of_ble_eq_true rfl)⟩ rfl (Nat.le_of_ble_eq_true rfl) (c_requireText t ht) ?_
  refine ev_aload_n dX6_sign_4 rfl rfl ?_
  first | refine ev_getfield dX6_sign_5 lf_6_10 (a0) rfl ?_ | refine ev_getfield dX6_sign_5 lf_6_10 (t0) rfl ?_
  first | refine ev_getfield dX6_sign_8 lf_6_70 (a0) rfl ?_ | refine ev_getfield dX6_sign_8 lf_6_70 (t0) rfl ?_
  refine ev_iload_n dX6_sign_11 rfl rfl ?_
  refine ev_aaloadN dX6_sign_12 (Or.inl rfl) t1 (by omega) (by decide) (t2 t ht) ?_
  refine ev_astore (L' := [_, _, _, _, _]) dX6_sign_13 (Nat.le_of_ble_eq_true rfl) rfl ?_
  refine ev_aload dX6_sign_15 rfl ?_
  refine ev_iload_n dX6_sign_17 rfl rfl ?_
  refine ev_callSX2 dX6_sign_18 cal_X6_requirePlace lk_6_98 ⟨(Nat.le_of_ble_eq_true rfl), (Nat.le_of_ble_eq_true rfl)⟩ rfl (Nat.le_of_ble_eq_true rfl) (x_requirePlace (hcs t ht) u hu) (fun h18 hq18 => ?_)
  exact ⟨rfl, hq18⟩
set_option maxHeartbeats 4000000 in
set_option maxRecDepth 100000 in
theorem x_sign3 {X : mX} {h : mH} {A : mAs} (hA : ClsN h A) (t u : Nat) (w : Int32) (ht : t < 4) (hu : u < kL (tC (aT A) t)) (hw : inX w 0 4 = false) : CnX X m_X6_sign [.ref 0, .int (nI t), .int (nI u), .int w] h 1 (fun h1 => h1 = h) := by
  obtain ⟨a0, hT, hH, hBf, hW⟩ := id hA
  obtain ⟨t0, ⟨f, t1, t2⟩, hcs, hsto, hset⟩ := id hT
  obtain ⟨m0, hm6, -⟩ := id hH
  obtain ⟨⟨b0, bf, b1, hbf⟩, hb60, hbd⟩ := id hBf
  obtain ⟨sg, st, le, fo, rk, ⟨c0, c1, c2, c3, c4, c5⟩, hL, hN, hS, hP⟩ := id (hcs t ht)
  refine cn_of_ev (L0 := [_, _, _, _, _]) (by decide +kernel) rfl rfl (Nat.le_of_ble_eq_true rfl) rfl ?_
  refine ev_iload_n dX6_sign_0 rfl rfl ?_
  refine ev_callSP1 dX6_sign_1 cal_X6_requireText lk_6_51 ⟨(Nat.le_of_ble_eq_true rfl), (Nat.le_of_ble_eq_true rfl)⟩ rfl (Nat.le_of_ble_eq_true rfl) (c_requireText t ht) ?_
  refine ev_aload_n dX6_sign_4 rfl rfl ?_
  first | refine ev_getfield dX6_sign_5 lf_6_10 (a0) rfl ?_ | refine ev_getfield dX6_sign_5 lf_6_10 (t0) rfl ?_
  first | refine ev_getfield dX6_sign_8 lf_6_70 (a0) rfl ?_ | refine ev_getfield dX6_sign_8 lf_6_70 (t0) rfl ?_
  refine ev_iload_n dX6_sign_11 rfl rfl ?_
  refine ev_aaloadN dX6_sign_12 (Or.inl rfl) t1 (by omega) (by decide) (t2 t ht) ?_
  refine ev_astore (L' := [_, _, _, _, _]) dX6_sign_13 (Nat.le_of_ble_eq_true rfl) rfl ?_
  refine ev_aload dX6_sign_15 rfl ?_
  refine ev_iload_n dX6_sign_17 rfl rfl ?_
  refine ev_callSP2 dX6_sign_18 cal_X6_requirePlace lk_6_98 ⟨(Nat.le_of_ble_eq_true rfl), (Nat.le_of_ble_eq_true rfl)⟩ rfl (Nat.le_of_ble_eq_true rfl) (c_requirePlace (hcs t ht) u hu) ?_
  refine ev_iload_n dX6_sign_21 rfl rfl ?_
  refine ev_iconst (nI 3) dX6_sign_22 rfl ?_
  refine ev_callSX2 dX6_sign_23 cal_X6_requireWhat lk_6_160 ⟨(Nat.le_of_ble_eq_true rfl), (Nat.le_of_ble_eq_true rfl)⟩ rfl (Nat.le_of_ble_eq_true rfl) (x_requireWhat w 3 (by decide) hw) (fun h23 hq23 => ?_)
  exact ⟨rfl, hq23⟩
set_option maxHeartbeats 4000000 in
set_option maxRecDepth 100000 in
theorem c_sign {X : mX} {h : mH} {A : mAs} (hA : ClsN h A) (t u w : Nat) (ht : t < 4) (hu : u < kL (tC (aT A) t)) (hw : w < 4) (hq : ∀ p, p < kN (tC (aT A) t) → 1 ≤ kP (tC (aT A) t) p + kQ (tC (aT A) t) p) : CnP X m_X6_sign [.ref 0, .int (nI t), .int (nI u), .int (nI w)] h (some (.int (nI (sgnV (aT A) t u w)))) := by
  obtain ⟨a0, hT, hH, hBf, hW⟩ := id hA
  obtain ⟨t0, ⟨f, t1, t2⟩, hcs, hsto, hset⟩ := id hT
  obtain ⟨m0, hm6, -⟩ := id hH
  obtain ⟨⟨b0, bf, b1, hbf⟩, hb60, hbd⟩ := id hBf
  obtain ⟨sg, st, le, fo, rk, ⟨c0, c1, c2, c3, c4, c5⟩, hL, hN, hS, hP⟩ := id (hcs t ht)
  obtain ⟨⟨s0, -⟩, -⟩ := id hset
  have hL40 : kL (tC (aT A) t) ≤ 40 := hL
  refine cn_of_ev (L0 := [_, _, _, _, _]) (by decide +kernel) rfl rfl (Nat.le_of_ble_eq_true rfl) rfl ?_
  refine ev_iload_n dX6_sign_0 rfl rfl ?_
  refine ev_callSP1 dX6_sign_1 cal_X6_requireText lk_6_51 ⟨(Nat.le_of_ble_eq_true rfl), (Nat.le_of_ble_eq_true rfl)⟩ rfl (Nat.le_of_ble_eq_true rfl) (c_requireText t ht) ?_
  refine ev_aload_n dX6_sign_4 rfl rfl ?_
  first | refine ev_getfield dX6_sign_5 lf_6_10 (a0) rfl ?_ | refine ev_getfield dX6_sign_5 lf_6_10 (t0) rfl ?_
  first | refine ev_getfield dX6_sign_8 lf_6_70 (a0) rfl ?_ | refine ev_getfield dX6_sign_8 lf_6_70 (t0) rfl ?_
  refine ev_iload_n dX6_sign_11 rfl rfl ?_
  refine ev_aaloadN dX6_sign_12 (Or.inl rfl) t1 (by omega) (by decide) (t2 t ht) ?_
  refine ev_astore (L' := [_, _, _, _, _]) dX6_sign_13 (Nat.le_of_ble_eq_true rfl) rfl ?_
  refine ev_aload dX6_sign_15 rfl ?_
  refine ev_iload_n dX6_sign_17 rfl rfl ?_
  refine ev_callSP2 dX6_sign_18 cal_X6_requirePlace lk_6_98 ⟨(Nat.le_of_ble_eq_true rfl), (Nat.le_of_ble_eq_true rfl)⟩ rfl (Nat.le_of_ble_eq_true rfl) (c_requirePlace (hcs t ht) u hu) ?_
  refine ev_iload_n dX6_sign_21 rfl rfl ?_
  refine ev_iconst (nI 3) dX6_sign_22 rfl ?_
  refine ev_callSP2 dX6_sign_23 cal_X6_requireWhat lk_6_160 ⟨(Nat.le_of_ble_eq_true rfl), (Nat.le_of_ble_eq_true rfl)⟩ rfl (Nat.le_of_ble_eq_true rfl) (c_requireWhat w 3 (by omega) (by decide)) ?_
  refine ev_iload_n dX6_sign_26 rfl rfl ?_
  refine ev_pc (pc' := 27) rfl ?_
  obtain rfl | rfl | rfl | rfl : w = 0 ∨ w = 1 ∨ w = 2 ∨ w = 3 := by omega
  · refine ev_tableIn 52 dX6_sign_27 (by decide) (by decide) rfl rfl ?_
    refine ev_aload dX6_sign_52 rfl ?_
    first | refine ev_getfield dX6_sign_54 lf_6_163 (a0) rfl ?_ | refine ev_getfield dX6_sign_54 lf_6_163 (t0) rfl ?_ | refine ev_getfield dX6_sign_54 lf_6_163 (c0) rfl ?_ | refine ev_getfield dX6_sign_54 lf_6_163 (c1) rfl ?_ | refine ev_getfield dX6_sign_54 lf_6_163 (s0) rfl ?_
    refine ev_iload_n dX6_sign_57 rfl rfl ?_
    first | refine ev_ialoadF dX6_sign_58 (a0) (by omega) (by decide) ?_ | refine ev_ialoadF dX6_sign_58 (t0) (by omega) (by decide) ?_ | refine ev_ialoadF dX6_sign_58 (c0) (by omega) (by decide) ?_ | refine ev_ialoadF dX6_sign_58 (c1) (by omega) (by decide) ?_ | refine ev_ialoadF dX6_sign_58 (s0) (by omega) (by decide) ?_
    rw [(hS u hu).1]
    refine ev_ireturn dX6_sign_59 rfl (Or.inl rfl) (Nat.zero_le _) (Nat.zero_le _) ?_
    exact ⟨rfl, rfl⟩
  · refine ev_tableIn 60 dX6_sign_27 (by decide) (by decide) rfl rfl ?_
    refine ev_aload_n dX6_sign_60 rfl rfl ?_
    first | refine ev_getfield dX6_sign_61 lf_6_10 (a0) rfl ?_ | refine ev_getfield dX6_sign_61 lf_6_10 (t0) rfl ?_ | refine ev_getfield dX6_sign_61 lf_6_10 (c0) rfl ?_ | refine ev_getfield dX6_sign_61 lf_6_10 (c1) rfl ?_ | refine ev_getfield dX6_sign_61 lf_6_10 (s0) rfl ?_
    first | refine ev_getfield dX6_sign_64 lf_6_134 (a0) rfl ?_ | refine ev_getfield dX6_sign_64 lf_6_134 (t0) rfl ?_ | refine ev_getfield dX6_sign_64 lf_6_134 (c0) rfl ?_ | refine ev_getfield dX6_sign_64 lf_6_134 (c1) rfl ?_ | refine ev_getfield dX6_sign_64 lf_6_134 (s0) rfl ?_
    refine ev_aload dX6_sign_67 rfl ?_
    refine ev_iload_n dX6_sign_69 rfl rfl ?_
    first | refine ev_callVP2 dX6_sign_70 cal_X3_sumAt lk_6_165 ⟨(Nat.le_of_ble_eq_true rfl), (Nat.le_of_ble_eq_true rfl)⟩ rfl (a0) (Nat.le_of_ble_eq_true rfl) (c_sumAt hset (hcs t ht) u hu) ?_ | refine ev_callVP2 dX6_sign_70 cal_X3_sumAt lk_6_165 ⟨(Nat.le_of_ble_eq_true rfl), (Nat.le_of_ble_eq_true rfl)⟩ rfl (t0) (Nat.le_of_ble_eq_true rfl) (c_sumAt hset (hcs t ht) u hu) ?_ | refine ev_callVP2 dX6_sign_70 cal_X3_sumAt lk_6_165 ⟨(Nat.le_of_ble_eq_true rfl), (Nat.le_of_ble_eq_true rfl)⟩ rfl (c0) (Nat.le_of_ble_eq_true rfl) (c_sumAt hset (hcs t ht) u hu) ?_ | refine ev_callVP2 dX6_sign_70 cal_X3_sumAt lk_6_165 ⟨(Nat.le_of_ble_eq_true rfl), (Nat.le_of_ble_eq_true rfl)⟩ rfl (c1) (Nat.le_of_ble_eq_true rfl) (c_sumAt hset (hcs t ht) u hu) ?_ | refine ev_callVP2 dX6_sign_70 cal_X3_sumAt lk_6_165 ⟨(Nat.le_of_ble_eq_true rfl), (Nat.le_of_ble_eq_true rfl)⟩ rfl (s0) (Nat.le_of_ble_eq_true rfl) (c_sumAt hset (hcs t ht) u hu) ?_
    refine ev_ireturn dX6_sign_73 rfl (Or.inl rfl) (Nat.zero_le _) (Nat.zero_le _) ?_
    exact ⟨rfl, rfl⟩
  · refine ev_tableIn 74 dX6_sign_27 (by decide) (by decide) rfl rfl ?_
    refine ev_aload dX6_sign_74 rfl ?_
    refine ev_iload_n dX6_sign_76 rfl rfl ?_
    first | refine ev_callVP1 dX6_sign_77 cal_X1_pieceAt lk_6_169 ⟨(Nat.le_of_ble_eq_true rfl), (Nat.le_of_ble_eq_true rfl)⟩ rfl (a0) (Nat.le_of_ble_eq_true rfl) (c_pieceAt (hcs t ht) u (by omega)) ?_ | refine ev_callVP1 dX6_sign_77 cal_X1_pieceAt lk_6_169 ⟨(Nat.le_of_ble_eq_true rfl), (Nat.le_of_ble_eq_true rfl)⟩ rfl (t0) (Nat.le_of_ble_eq_true rfl) (c_pieceAt (hcs t ht) u (by omega)) ?_ | refine ev_callVP1 dX6_sign_77 cal_X1_pieceAt lk_6_169 ⟨(Nat.le_of_ble_eq_true rfl), (Nat.le_of_ble_eq_true rfl)⟩ rfl (c0) (Nat.le_of_ble_eq_true rfl) (c_pieceAt (hcs t ht) u (by omega)) ?_ | refine ev_callVP1 dX6_sign_77 cal_X1_pieceAt lk_6_169 ⟨(Nat.le_of_ble_eq_true rfl), (Nat.le_of_ble_eq_true rfl)⟩ rfl (c1) (Nat.le_of_ble_eq_true rfl) (c_pieceAt (hcs t ht) u (by omega)) ?_ | refine ev_callVP1 dX6_sign_77 cal_X1_pieceAt lk_6_169 ⟨(Nat.le_of_ble_eq_true rfl), (Nat.le_of_ble_eq_true rfl)⟩ rfl (s0) (Nat.le_of_ble_eq_true rfl) (c_pieceAt (hcs t ht) u (by omega)) ?_
    refine ev_ireturn dX6_sign_80 rfl (Or.inl rfl) (Nat.zero_le _) (Nat.zero_le _) ?_
    exact ⟨rfl, rfl⟩
  · refine ev_tableOut 81 dX6_sign_27 (Or.inr (by decide)) rfl ?_
    refine ev_aload dX6_sign_81 rfl ?_
    refine ev_iload_n dX6_sign_83 rfl rfl ?_
    first | refine ev_callVP1 dX6_sign_84 cal_X1_endsBehind lk_6_172 ⟨(Nat.le_of_ble_eq_true rfl), (Nat.le_of_ble_eq_true rfl)⟩ rfl (a0) (Nat.le_of_ble_eq_true rfl) (c_endsBehind (hcs t ht) u (by omega) hq) ?_ | refine ev_callVP1 dX6_sign_84 cal_X1_endsBehind lk_6_172 ⟨(Nat.le_of_ble_eq_true rfl), (Nat.le_of_ble_eq_true rfl)⟩ rfl (t0) (Nat.le_of_ble_eq_true rfl) (c_endsBehind (hcs t ht) u (by omega) hq) ?_ | refine ev_callVP1 dX6_sign_84 cal_X1_endsBehind lk_6_172 ⟨(Nat.le_of_ble_eq_true rfl), (Nat.le_of_ble_eq_true rfl)⟩ rfl (c0) (Nat.le_of_ble_eq_true rfl) (c_endsBehind (hcs t ht) u (by omega) hq) ?_ | refine ev_callVP1 dX6_sign_84 cal_X1_endsBehind lk_6_172 ⟨(Nat.le_of_ble_eq_true rfl), (Nat.le_of_ble_eq_true rfl)⟩ rfl (c1) (Nat.le_of_ble_eq_true rfl) (c_endsBehind (hcs t ht) u (by omega) hq) ?_ | refine ev_callVP1 dX6_sign_84 cal_X1_endsBehind lk_6_172 ⟨(Nat.le_of_ble_eq_true rfl), (Nat.le_of_ble_eq_true rfl)⟩ rfl (s0) (Nat.le_of_ble_eq_true rfl) (c_endsBehind (hcs t ht) u (by omega) hq) ?_
    refine ev_if_eqB 94 dX6_sign_87 rfl (fun hc87 => ?_) (fun hc87 => ?_)
    · refine ev_iconst (nI 0) dX6_sign_94 rfl ?_
      refine ev_ireturn dX6_sign_95 rfl (Or.inl rfl) (Nat.zero_le _) (Nat.zero_le _) ?_
      first
        | (have e : sgnV (aT A) t u 3 = b2n true := congrArg b2n hc87; rw [e]; exact ⟨rfl, rfl⟩)
        | (have e : sgnV (aT A) t u 3 = b2n false := congrArg b2n hc87; rw [e]; exact ⟨rfl, rfl⟩)
    · refine ev_iconst (nI 1) dX6_sign_90 rfl ?_
      refine ev_goto 95 dX6_sign_91 rfl ?_
      refine ev_ireturn dX6_sign_95 rfl (Or.inl rfl) (Nat.zero_le _) (Nat.zero_le _) ?_
      first
        | (have e : sgnV (aT A) t u 3 = b2n true := congrArg b2n hc87; rw [e]; exact ⟨rfl, rfl⟩)
        | (have e : sgnV (aT A) t u 3 = b2n false := congrArg b2n hc87; rw [e]; exact ⟨rfl, rfl⟩)
set_option maxHeartbeats 4000000 in
set_option maxRecDepth 100000 in
theorem x_piece {X : mX} {h : mH} (t u w : Int32) (ht : inX t 0 4 = false) : CnX X m_X6_piece [.ref 0, .int t, .int u, .int w] h 0 (fun h1 => h1 = h) := by
  refine cn_of_ev (L0 := [_, _, _, _, _]) (by decide +kernel) rfl rfl (Nat.le_of_ble_eq_true rfl) rfl ?_
  refine ev_iload_n dX6_piece_0 rfl rfl ?_
  refine ev_callSX1 dX6_piece_1 cal_X6_requireText lk_6_51 ⟨(Nat.le_of_ble_eq_true rfl), (Nat.le_of_ble_eq_true rfl)⟩ rfl (Nat.le_of_ble_eq_true rfl) (x_requireText t ht) (fun h1 hq1 => ?_)
  exact ⟨rfl, hq1⟩
set_option maxHeartbeats 4000000 in
set_option maxRecDepth 100000 in
theorem x_piece2 {X : mX} {h : mH} (t : Nat) (u w : Int32) (ht : t < 4) (hu : u < 0) : CnX X m_X6_piece [.ref 0, .int (nI t), .int u, .int w] h 1 (fun h1 => h1 = h) := by
  refine cn_of_ev (L0 := [_, _, _, _, _]) (by decide +kernel) rfl rfl (Nat.le_of_ble_eq_true rfl) rfl ?_
  refine ev_iload_n dX6_piece_0 rfl rfl ?_
  refine ev_callSP1 dX6_piece_1 cal_X6_requireText lk_6_51 ⟨(Nat.le_of_ble_eq_true rfl), (Nat.le_of_ble_eq_true rfl)⟩ rfl (Nat.le_of_ble_eq_true rfl) (c_requireText t ht) ?_
  refine ev_iload_n dX6_piece_4 rfl rfl ?_
  refine ev_if_ge 18 dX6_piece_5 rfl (fun hc5 => ?_) (fun hc5 => ?_)
  · refine ev_pc (pc' := 18) rfl ?_
    have z := hc5
    rw [i_le, i_0] at z
    rw [i_lt, i_0] at hu
    omega
  · refine ev_throwS (M' := m_X6_piece) (f1 := none) (mc1 := 0) (ms1 := 0) (Q1 := fun _ _ => True) 1 "piece is below 0" (by decide) rfl (by decide) rfl (by decide) (Nat.le_of_ble_eq_true rfl) dX6_piece_8 dX6_piece_11 dX6_piece_12 dX6_piece_14 dX6_piece_17 (Nat.le_refl _) (Nat.le_refl _) ?_
    exact ⟨rfl, rfl⟩
set_option maxHeartbeats 4000000 in
set_option maxRecDepth 100000 in
theorem x_piece3 {X : mX} {h : mH} (t u : Nat) (w : Int32) (ht : t < 4) (hu : u < 2 ^ 31) (hw : inX w 0 5 = false) : CnX X m_X6_piece [.ref 0, .int (nI t), .int (nI u), .int w] h 1 (fun h1 => h1 = h) := by
  refine cn_of_ev (L0 := [_, _, _, _, _]) (by decide +kernel) rfl rfl (Nat.le_of_ble_eq_true rfl) rfl ?_
  refine ev_iload_n dX6_piece_0 rfl rfl ?_
  refine ev_callSP1 dX6_piece_1 cal_X6_requireText lk_6_51 ⟨(Nat.le_of_ble_eq_true rfl), (Nat.le_of_ble_eq_true rfl)⟩ rfl (Nat.le_of_ble_eq_true rfl) (c_requireText t ht) ?_
  refine ev_iload_n dX6_piece_4 rfl rfl ?_
  refine ev_if_geN 18 dX6_piece_5 rfl (by omega) (fun hc5 => ?_) (fun hc5 => ?_)
  · refine ev_iload_n dX6_piece_18 rfl rfl ?_
    refine ev_iconst (nI 4) dX6_piece_19 rfl ?_
    refine ev_callSX2 dX6_piece_20 cal_X6_requireWhat lk_6_160 ⟨(Nat.le_of_ble_eq_true rfl), (Nat.le_of_ble_eq_true rfl)⟩ rfl (Nat.le_of_ble_eq_true rfl) (x_requireWhat w 4 (by decide) hw) (fun h20 hq20 => ?_)
    exact ⟨rfl, hq20⟩
  · refine ev_pc (pc' := 8) rfl ?_
    exact hc5.elim
set_option maxHeartbeats 4000000 in
set_option maxRecDepth 100000 in
theorem c_piece {X : mX} {h : mH} {A : mAs} (hA : ClsN h A) (t u w : Nat) (ht : t < 4) (hu : u < 2 ^ 31) (hw : w < 5) : CnP X m_X6_piece [.ref 0, .int (nI t), .int (nI u), .int (nI w)] h (some (.int (if u < kN (tC (aT A) t) then pceV (aT A) t u w else -1))) := by
  obtain ⟨a0, hT, hH, hBf, hW⟩ := id hA
  obtain ⟨t0, ⟨f, t1, t2⟩, hcs, hsto, hset⟩ := id hT
  obtain ⟨m0, hm6, -⟩ := id hH
  obtain ⟨⟨b0, bf, b1, hbf⟩, hb60, hbd⟩ := id hBf
  obtain ⟨sg, st, le, fo, rk, ⟨c0, c1, c2, c3, c4, c5⟩, hL, hN, hS, hP⟩ := id (hcs t ht)
  obtain ⟨_, _, _, ⟨s0, -, -, -⟩, -⟩ := id hsto
  have hm16 : ∀ x, mskN (aT A) x 4 < 16 := fun x => mskN_lt _ _ 4
  refine cn_of_ev (L0 := [_, _, _, _, _]) (by decide +kernel) rfl rfl (Nat.le_of_ble_eq_true rfl) rfl ?_
  refine ev_iload_n dX6_piece_0 rfl rfl ?_
  refine ev_callSP1 dX6_piece_1 cal_X6_requireText lk_6_51 ⟨(Nat.le_of_ble_eq_true rfl), (Nat.le_of_ble_eq_true rfl)⟩ rfl (Nat.le_of_ble_eq_true rfl) (c_requireText t ht) ?_
  refine ev_iload_n dX6_piece_4 rfl rfl ?_
  refine ev_if_geN 18 dX6_piece_5 rfl (by omega) (fun hc5 => ?_) (fun hc5 => ?_)
  · refine ev_iload_n dX6_piece_18 rfl rfl ?_
    refine ev_iconst (nI 4) dX6_piece_19 rfl ?_
    refine ev_callSP2 dX6_piece_20 cal_X6_requireWhat lk_6_160 ⟨(Nat.le_of_ble_eq_true rfl), (Nat.le_of_ble_eq_true rfl)⟩ rfl (Nat.le_of_ble_eq_true rfl) (c_requireWhat w 4 (by omega) (by decide)) ?_
    refine ev_aload_n dX6_piece_23 rfl rfl ?_
    first | refine ev_getfield dX6_piece_24 lf_6_10 (a0) rfl ?_ | refine ev_getfield dX6_piece_24 lf_6_10 (t0) rfl ?_ | refine ev_getfield dX6_piece_24 lf_6_10 (c0) rfl ?_
    first | refine ev_getfield dX6_piece_27 lf_6_70 (a0) rfl ?_ | refine ev_getfield dX6_piece_27 lf_6_70 (t0) rfl ?_ | refine ev_getfield dX6_piece_27 lf_6_70 (c0) rfl ?_
    refine ev_iload_n dX6_piece_30 rfl rfl ?_
    refine ev_aaloadN dX6_piece_31 (Or.inl rfl) t1 (by omega) (by decide) (t2 t ht) ?_
    refine ev_astore (L' := [_, _, _, _, _]) dX6_piece_32 (Nat.le_of_ble_eq_true rfl) rfl ?_
    refine ev_iload_n dX6_piece_34 rfl rfl ?_
    refine ev_aload dX6_piece_35 rfl ?_
    first | refine ev_getfield dX6_piece_37 lf_6_178 (a0) rfl ?_ | refine ev_getfield dX6_piece_37 lf_6_178 (t0) rfl ?_ | refine ev_getfield dX6_piece_37 lf_6_178 (c0) rfl ?_
    refine ev_icmp_ltN 45 dX6_piece_40 rfl (by omega) (by omega) (fun hc40 => ?_) (fun hc40 => ?_)
    · refine ev_pc (pc' := 45) rfl ?_
      have hu2 : u < kN (tC (aT A) t) := hc40
      rw [if_pos hu2]
      obtain rfl | rfl | rfl | rfl | rfl : w = 0 ∨ w = 1 ∨ w = 2 ∨ w = 3 ∨ w = 4 := by omega
      · refine ev_iload_n dX6_piece_45 rfl rfl ?_
        refine ev_tableIn 76 dX6_piece_46 (by decide) (by decide) rfl rfl ?_
        refine ev_aload_n dX6_piece_76 rfl rfl ?_
        first | refine ev_getfield dX6_piece_77 lf_6_10 (a0) rfl ?_ | refine ev_getfield dX6_piece_77 lf_6_10 (t0) rfl ?_ | refine ev_getfield dX6_piece_77 lf_6_10 (c0) rfl ?_ | refine ev_getfield dX6_piece_77 lf_6_10 (c1) rfl ?_ | refine ev_getfield dX6_piece_77 lf_6_10 (c2) rfl ?_ | refine ev_getfield dX6_piece_77 lf_6_10 (c3) rfl ?_ | refine ev_getfield dX6_piece_77 lf_6_10 (c4) rfl ?_ | refine ev_getfield dX6_piece_77 lf_6_10 (c5) rfl ?_ | refine ev_getfield dX6_piece_77 lf_6_10 (s0) rfl ?_
        first | refine ev_getfield dX6_piece_80 lf_6_114 (a0) rfl ?_ | refine ev_getfield dX6_piece_80 lf_6_114 (t0) rfl ?_ | refine ev_getfield dX6_piece_80 lf_6_114 (c0) rfl ?_ | refine ev_getfield dX6_piece_80 lf_6_114 (c1) rfl ?_ | refine ev_getfield dX6_piece_80 lf_6_114 (c2) rfl ?_ | refine ev_getfield dX6_piece_80 lf_6_114 (c3) rfl ?_ | refine ev_getfield dX6_piece_80 lf_6_114 (c4) rfl ?_ | refine ev_getfield dX6_piece_80 lf_6_114 (c5) rfl ?_ | refine ev_getfield dX6_piece_80 lf_6_114 (s0) rfl ?_
        refine ev_aload dX6_piece_83 rfl ?_
        first | refine ev_getfield dX6_piece_85 lf_6_181 (a0) rfl ?_ | refine ev_getfield dX6_piece_85 lf_6_181 (t0) rfl ?_ | refine ev_getfield dX6_piece_85 lf_6_181 (c0) rfl ?_ | refine ev_getfield dX6_piece_85 lf_6_181 (c1) rfl ?_ | refine ev_getfield dX6_piece_85 lf_6_181 (c2) rfl ?_ | refine ev_getfield dX6_piece_85 lf_6_181 (c3) rfl ?_ | refine ev_getfield dX6_piece_85 lf_6_181 (c4) rfl ?_ | refine ev_getfield dX6_piece_85 lf_6_181 (c5) rfl ?_ | refine ev_getfield dX6_piece_85 lf_6_181 (s0) rfl ?_
        refine ev_iload_n dX6_piece_88 rfl rfl ?_
        first | refine ev_laloadN dX6_piece_89 (a0) (by omega) (by decide) ?_ | refine ev_laloadN dX6_piece_89 (t0) (by omega) (by decide) ?_ | refine ev_laloadN dX6_piece_89 (c0) (by omega) (by decide) ?_ | refine ev_laloadN dX6_piece_89 (c1) (by omega) (by decide) ?_ | refine ev_laloadN dX6_piece_89 (c2) (by omega) (by decide) ?_ | refine ev_laloadN dX6_piece_89 (c3) (by omega) (by decide) ?_ | refine ev_laloadN dX6_piece_89 (c4) (by omega) (by decide) ?_ | refine ev_laloadN dX6_piece_89 (c5) (by omega) (by decide) ?_ | refine ev_laloadN dX6_piece_89 (s0) (by omega) (by decide) ?_
        rw [(hP u hu2).2.2.2.1]
        first | refine ev_callVP1 dX6_piece_90 cal_X5_slotOf lk_6_184 ⟨(Nat.le_of_ble_eq_true rfl), (Nat.le_of_ble_eq_true rfl)⟩ rfl (a0) (Nat.le_of_ble_eq_true rfl) (c_slotOf hsto _) ?_ | refine ev_callVP1 dX6_piece_90 cal_X5_slotOf lk_6_184 ⟨(Nat.le_of_ble_eq_true rfl), (Nat.le_of_ble_eq_true rfl)⟩ rfl (t0) (Nat.le_of_ble_eq_true rfl) (c_slotOf hsto _) ?_ | refine ev_callVP1 dX6_piece_90 cal_X5_slotOf lk_6_184 ⟨(Nat.le_of_ble_eq_true rfl), (Nat.le_of_ble_eq_true rfl)⟩ rfl (c0) (Nat.le_of_ble_eq_true rfl) (c_slotOf hsto _) ?_ | refine ev_callVP1 dX6_piece_90 cal_X5_slotOf lk_6_184 ⟨(Nat.le_of_ble_eq_true rfl), (Nat.le_of_ble_eq_true rfl)⟩ rfl (c1) (Nat.le_of_ble_eq_true rfl) (c_slotOf hsto _) ?_ | refine ev_callVP1 dX6_piece_90 cal_X5_slotOf lk_6_184 ⟨(Nat.le_of_ble_eq_true rfl), (Nat.le_of_ble_eq_true rfl)⟩ rfl (c2) (Nat.le_of_ble_eq_true rfl) (c_slotOf hsto _) ?_ | refine ev_callVP1 dX6_piece_90 cal_X5_slotOf lk_6_184 ⟨(Nat.le_of_ble_eq_true rfl), (Nat.le_of_ble_eq_true rfl)⟩ rfl (c3) (Nat.le_of_ble_eq_true rfl) (c_slotOf hsto _) ?_ | refine ev_callVP1 dX6_piece_90 cal_X5_slotOf lk_6_184 ⟨(Nat.le_of_ble_eq_true rfl), (Nat.le_of_ble_eq_true rfl)⟩ rfl (c4) (Nat.le_of_ble_eq_true rfl) (c_slotOf hsto _) ?_ | refine ev_callVP1 dX6_piece_90 cal_X5_slotOf lk_6_184 ⟨(Nat.le_of_ble_eq_true rfl), (Nat.le_of_ble_eq_true rfl)⟩ rfl (c5) (Nat.le_of_ble_eq_true rfl) (c_slotOf hsto _) ?_ | refine ev_callVP1 dX6_piece_90 cal_X5_slotOf lk_6_184 ⟨(Nat.le_of_ble_eq_true rfl), (Nat.le_of_ble_eq_true rfl)⟩ rfl (s0) (Nat.le_of_ble_eq_true rfl) (c_slotOf hsto _) ?_
        refine ev_ireturn dX6_piece_93 rfl (Or.inl rfl) (Nat.zero_le _) (Nat.zero_le _) ?_
        exact ⟨rfl, rfl⟩
      · refine ev_iload_n dX6_piece_45 rfl rfl ?_
        refine ev_tableIn 94 dX6_piece_46 (by decide) (by decide) rfl rfl ?_
        refine ev_aload dX6_piece_94 rfl ?_
        first | refine ev_getfield dX6_piece_96 lf_6_188 (a0) rfl ?_ | refine ev_getfield dX6_piece_96 lf_6_188 (t0) rfl ?_ | refine ev_getfield dX6_piece_96 lf_6_188 (c0) rfl ?_ | refine ev_getfield dX6_piece_96 lf_6_188 (c1) rfl ?_ | refine ev_getfield dX6_piece_96 lf_6_188 (c2) rfl ?_ | refine ev_getfield dX6_piece_96 lf_6_188 (c3) rfl ?_ | refine ev_getfield dX6_piece_96 lf_6_188 (c4) rfl ?_ | refine ev_getfield dX6_piece_96 lf_6_188 (c5) rfl ?_ | refine ev_getfield dX6_piece_96 lf_6_188 (s0) rfl ?_
        refine ev_iload_n dX6_piece_99 rfl rfl ?_
        first | refine ev_ialoadF dX6_piece_100 (a0) (by omega) (by decide) ?_ | refine ev_ialoadF dX6_piece_100 (t0) (by omega) (by decide) ?_ | refine ev_ialoadF dX6_piece_100 (c0) (by omega) (by decide) ?_ | refine ev_ialoadF dX6_piece_100 (c1) (by omega) (by decide) ?_ | refine ev_ialoadF dX6_piece_100 (c2) (by omega) (by decide) ?_ | refine ev_ialoadF dX6_piece_100 (c3) (by omega) (by decide) ?_ | refine ev_ialoadF dX6_piece_100 (c4) (by omega) (by decide) ?_ | refine ev_ialoadF dX6_piece_100 (c5) (by omega) (by decide) ?_ | refine ev_ialoadF dX6_piece_100 (s0) (by omega) (by decide) ?_
        rw [(hP u hu2).1]
        refine ev_ireturn dX6_piece_101 rfl (Or.inl rfl) (Nat.zero_le _) (Nat.zero_le _) ?_
        exact ⟨rfl, rfl⟩
      · refine ev_iload_n dX6_piece_45 rfl rfl ?_
        refine ev_tableIn 102 dX6_piece_46 (by decide) (by decide) rfl rfl ?_
        refine ev_aload dX6_piece_102 rfl ?_
        first | refine ev_getfield dX6_piece_104 lf_6_191 (a0) rfl ?_ | refine ev_getfield dX6_piece_104 lf_6_191 (t0) rfl ?_ | refine ev_getfield dX6_piece_104 lf_6_191 (c0) rfl ?_ | refine ev_getfield dX6_piece_104 lf_6_191 (c1) rfl ?_ | refine ev_getfield dX6_piece_104 lf_6_191 (c2) rfl ?_ | refine ev_getfield dX6_piece_104 lf_6_191 (c3) rfl ?_ | refine ev_getfield dX6_piece_104 lf_6_191 (c4) rfl ?_ | refine ev_getfield dX6_piece_104 lf_6_191 (c5) rfl ?_ | refine ev_getfield dX6_piece_104 lf_6_191 (s0) rfl ?_
        refine ev_iload_n dX6_piece_107 rfl rfl ?_
        first | refine ev_ialoadF dX6_piece_108 (a0) (by omega) (by decide) ?_ | refine ev_ialoadF dX6_piece_108 (t0) (by omega) (by decide) ?_ | refine ev_ialoadF dX6_piece_108 (c0) (by omega) (by decide) ?_ | refine ev_ialoadF dX6_piece_108 (c1) (by omega) (by decide) ?_ | refine ev_ialoadF dX6_piece_108 (c2) (by omega) (by decide) ?_ | refine ev_ialoadF dX6_piece_108 (c3) (by omega) (by decide) ?_ | refine ev_ialoadF dX6_piece_108 (c4) (by omega) (by decide) ?_ | refine ev_ialoadF dX6_piece_108 (c5) (by omega) (by decide) ?_ | refine ev_ialoadF dX6_piece_108 (s0) (by omega) (by decide) ?_
        rw [(hP u hu2).2.1]
        refine ev_ireturn dX6_piece_109 rfl (Or.inl rfl) (Nat.zero_le _) (Nat.zero_le _) ?_
        exact ⟨rfl, rfl⟩
      · refine ev_iload_n dX6_piece_45 rfl rfl ?_
        refine ev_tableIn 110 dX6_piece_46 (by decide) (by decide) rfl rfl ?_
        refine ev_aload dX6_piece_110 rfl ?_
        first | refine ev_getfield dX6_piece_112 lf_6_194 (a0) rfl ?_ | refine ev_getfield dX6_piece_112 lf_6_194 (t0) rfl ?_ | refine ev_getfield dX6_piece_112 lf_6_194 (c0) rfl ?_ | refine ev_getfield dX6_piece_112 lf_6_194 (c1) rfl ?_ | refine ev_getfield dX6_piece_112 lf_6_194 (c2) rfl ?_ | refine ev_getfield dX6_piece_112 lf_6_194 (c3) rfl ?_ | refine ev_getfield dX6_piece_112 lf_6_194 (c4) rfl ?_ | refine ev_getfield dX6_piece_112 lf_6_194 (c5) rfl ?_ | refine ev_getfield dX6_piece_112 lf_6_194 (s0) rfl ?_
        refine ev_iload_n dX6_piece_115 rfl rfl ?_
        first | refine ev_ialoadF dX6_piece_116 (a0) (by omega) (by decide) ?_ | refine ev_ialoadF dX6_piece_116 (t0) (by omega) (by decide) ?_ | refine ev_ialoadF dX6_piece_116 (c0) (by omega) (by decide) ?_ | refine ev_ialoadF dX6_piece_116 (c1) (by omega) (by decide) ?_ | refine ev_ialoadF dX6_piece_116 (c2) (by omega) (by decide) ?_ | refine ev_ialoadF dX6_piece_116 (c3) (by omega) (by decide) ?_ | refine ev_ialoadF dX6_piece_116 (c4) (by omega) (by decide) ?_ | refine ev_ialoadF dX6_piece_116 (c5) (by omega) (by decide) ?_ | refine ev_ialoadF dX6_piece_116 (s0) (by omega) (by decide) ?_
        rw [(hP u hu2).2.2.1]
        refine ev_ireturn dX6_piece_117 rfl (Or.inl rfl) (Nat.zero_le _) (Nat.zero_le _) ?_
        exact ⟨rfl, rfl⟩
      · refine ev_iload_n dX6_piece_45 rfl rfl ?_
        refine ev_tableOut 118 dX6_piece_46 (Or.inr (by decide)) rfl ?_
        refine ev_aload_n dX6_piece_118 rfl rfl ?_
        first | refine ev_getfield dX6_piece_119 lf_6_10 (a0) rfl ?_ | refine ev_getfield dX6_piece_119 lf_6_10 (t0) rfl ?_ | refine ev_getfield dX6_piece_119 lf_6_10 (c0) rfl ?_ | refine ev_getfield dX6_piece_119 lf_6_10 (c1) rfl ?_ | refine ev_getfield dX6_piece_119 lf_6_10 (c2) rfl ?_ | refine ev_getfield dX6_piece_119 lf_6_10 (c3) rfl ?_ | refine ev_getfield dX6_piece_119 lf_6_10 (c4) rfl ?_ | refine ev_getfield dX6_piece_119 lf_6_10 (c5) rfl ?_ | refine ev_getfield dX6_piece_119 lf_6_10 (s0) rfl ?_
        refine ev_aload dX6_piece_122 rfl ?_
        first | refine ev_getfield dX6_piece_124 lf_6_181 (a0) rfl ?_ | refine ev_getfield dX6_piece_124 lf_6_181 (t0) rfl ?_ | refine ev_getfield dX6_piece_124 lf_6_181 (c0) rfl ?_ | refine ev_getfield dX6_piece_124 lf_6_181 (c1) rfl ?_ | refine ev_getfield dX6_piece_124 lf_6_181 (c2) rfl ?_ | refine ev_getfield dX6_piece_124 lf_6_181 (c3) rfl ?_ | refine ev_getfield dX6_piece_124 lf_6_181 (c4) rfl ?_ | refine ev_getfield dX6_piece_124 lf_6_181 (c5) rfl ?_ | refine ev_getfield dX6_piece_124 lf_6_181 (s0) rfl ?_
        refine ev_iload_n dX6_piece_127 rfl rfl ?_
        first | refine ev_laloadN dX6_piece_128 (a0) (by omega) (by decide) ?_ | refine ev_laloadN dX6_piece_128 (t0) (by omega) (by decide) ?_ | refine ev_laloadN dX6_piece_128 (c0) (by omega) (by decide) ?_ | refine ev_laloadN dX6_piece_128 (c1) (by omega) (by decide) ?_ | refine ev_laloadN dX6_piece_128 (c2) (by omega) (by decide) ?_ | refine ev_laloadN dX6_piece_128 (c3) (by omega) (by decide) ?_ | refine ev_laloadN dX6_piece_128 (c4) (by omega) (by decide) ?_ | refine ev_laloadN dX6_piece_128 (c5) (by omega) (by decide) ?_ | refine ev_laloadN dX6_piece_128 (s0) (by omega) (by decide) ?_
        rw [(hP u hu2).2.2.2.1]
        first | refine ev_callVP1 dX6_piece_129 cal_X4_textsWith lk_6_197 ⟨(Nat.le_of_ble_eq_true rfl), (Nat.le_of_ble_eq_true rfl)⟩ rfl (a0) (Nat.le_of_ble_eq_true rfl) (c_textsWith hT _) ?_ | refine ev_callVP1 dX6_piece_129 cal_X4_textsWith lk_6_197 ⟨(Nat.le_of_ble_eq_true rfl), (Nat.le_of_ble_eq_true rfl)⟩ rfl (t0) (Nat.le_of_ble_eq_true rfl) (c_textsWith hT _) ?_ | refine ev_callVP1 dX6_piece_129 cal_X4_textsWith lk_6_197 ⟨(Nat.le_of_ble_eq_true rfl), (Nat.le_of_ble_eq_true rfl)⟩ rfl (c0) (Nat.le_of_ble_eq_true rfl) (c_textsWith hT _) ?_ | refine ev_callVP1 dX6_piece_129 cal_X4_textsWith lk_6_197 ⟨(Nat.le_of_ble_eq_true rfl), (Nat.le_of_ble_eq_true rfl)⟩ rfl (c1) (Nat.le_of_ble_eq_true rfl) (c_textsWith hT _) ?_ | refine ev_callVP1 dX6_piece_129 cal_X4_textsWith lk_6_197 ⟨(Nat.le_of_ble_eq_true rfl), (Nat.le_of_ble_eq_true rfl)⟩ rfl (c2) (Nat.le_of_ble_eq_true rfl) (c_textsWith hT _) ?_ | refine ev_callVP1 dX6_piece_129 cal_X4_textsWith lk_6_197 ⟨(Nat.le_of_ble_eq_true rfl), (Nat.le_of_ble_eq_true rfl)⟩ rfl (c3) (Nat.le_of_ble_eq_true rfl) (c_textsWith hT _) ?_ | refine ev_callVP1 dX6_piece_129 cal_X4_textsWith lk_6_197 ⟨(Nat.le_of_ble_eq_true rfl), (Nat.le_of_ble_eq_true rfl)⟩ rfl (c4) (Nat.le_of_ble_eq_true rfl) (c_textsWith hT _) ?_ | refine ev_callVP1 dX6_piece_129 cal_X4_textsWith lk_6_197 ⟨(Nat.le_of_ble_eq_true rfl), (Nat.le_of_ble_eq_true rfl)⟩ rfl (c5) (Nat.le_of_ble_eq_true rfl) (c_textsWith hT _) ?_ | refine ev_callVP1 dX6_piece_129 cal_X4_textsWith lk_6_197 ⟨(Nat.le_of_ble_eq_true rfl), (Nat.le_of_ble_eq_true rfl)⟩ rfl (s0) (Nat.le_of_ble_eq_true rfl) (c_textsWith hT _) ?_
        refine ev_callSP1 dX6_piece_132 cal_J6_bitCount_0f7a4 lk_6_200 ⟨(Nat.le_of_ble_eq_true rfl), (Nat.le_of_ble_eq_true rfl)⟩ rfl (Nat.le_of_ble_eq_true rfl) (c_bitCount _ (hm16 _)) ?_
        refine ev_iconst (nI 1) dX6_piece_135 rfl ?_
        refine ev_isub dX6_piece_136 ?_
        refine ev_ireturn dX6_piece_137 rfl (Or.inl rfl) (Nat.zero_le _) (Nat.zero_le _) ?_
        exact ⟨rfl, rfl⟩
    · refine ev_pc (pc' := 43) rfl ?_
      refine ev_iconst (-1) dX6_piece_43 rfl ?_
      refine ev_ireturn dX6_piece_44 rfl (Or.inl rfl) (Nat.zero_le _) (Nat.zero_le _) ?_
      rw [if_neg (by omega)]
      exact ⟨rfl, rfl⟩
  · refine ev_pc (pc' := 8) rfl ?_
    exact hc5.elim
