/-- what the class holds: the state; how many saved, which; the buffer -/
abbrev mAs : Type := mSt × (Nat × (Nat → mSt)) × (Nat × (Nat → Nat))
abbrev aT (A : mAs) : mSt := A.1
abbrev aN (A : mAs) : Nat := A.2.1.1
abbrev aH (A : mAs) : Nat → mSt := A.2.1.2
abbrev aB (A : mAs) : Nat := A.2.2.1
abbrev aD (A : mAs) : Nat → Nat := A.2.2.2
abbrev obC : mAc := aO 6 [.ref 1, .ref 33, .ref 227, .ref 229, .ref 261, .ref 267, .ref 269]
def WkN (h : mH) : Prop := (∃ T, StN h 229 T) ∧ (∃ K, CutN h 261 K) ∧ (∃ v, SetN h 267 v) ∧ ∃ f, h 269 = some (aL 160 f)
def ClsN (h : mH) (A : mAs) : Prop := h 0 = some obC ∧ StN h 1 (aT A) ∧ HisN h 33 (aN A) (aH A) ∧ BufN h 227 (aB A) (aD A) ∧ WkN h
theorem ClsN.go {h h1 : mH} {a n : Nat} {A : mAs} (x : ClsN h A) (o : Out h h1 a n) (hd : 270 ≤ a) : ClsN h1 A := by
  obtain ⟨x0, x1, x2, x3, ⟨T, x4⟩, ⟨K, x5⟩, ⟨v, x6⟩, f, x7⟩ := x
  exact ⟨by rw [o _ (by omega)]; exact x0, x1.go o (by omega), x2.go o (by omega), x3.go o (by omega), ⟨T, x4.go o (by omega)⟩, ⟨K, x5.go o (by omega)⟩, ⟨v, x6.go o (by omega)⟩, f, by rw [o _ (by omega)]; exact x7⟩
def cntV (A : mAs) : Nat → Nat
  | 0 => smN (fun t => kL (tC (aT A) t)) 4
  | 1 => smN (fun t => kN (tC (aT A) t)) 4
  | 2 => pcS (tS (aT A))
  | 3 => szS (tS (aT A))
  | 4 => ctN (isU (tS (aT A))) 60
  | 5 => smN (fun k => if isU (tS (aT A)) k = true then rl (sR (tS (aT A)) k) else 0) 60
  | 6 => mxN (fun k => if isF (tS (aT A)) k = true then 0 else sO (tS (aT A)) k) 60
  | 7 => sC (tS (aT A))
  | 8 => sW (tS (aT A))
  | _ => aN A
def txtV (T : mSt) (t : Nat) : Nat → Nat
  | 0 => kL (tC T t)
  | 1 => kN (tC T t)
  | 2 => ctN (fun p => !(exN (fun q => kR (tC T t) q == kR (tC T t) p) p) && exN (fun q => kR (tC T t) q == kR (tC T t) p) (kN (tC T t))) (kN (tC T t))
  | 3 => smN (fun p => b2n (kF (tC T t) p)) (kN (tC T t))
  | 4 => mxN (kQ (tC T t)) (kN (tC T t))
  | _ => smN (fun p => if mskN T (kR (tC T t) p) 4 = 2 ^ t then kQ (tC T t) p else 0) (kN (tC T t))
def comV (K E : mCt) : Nat → Nat
  | 0 => ctN (fun p => !(exN (fun q => kR K q == kR K p) p) && exN (fun q => kR E q == kR K p) (kN E)) (kN K)
  | 1 => smN (fun p => if exN (fun q => kR E q == kR K p) (kN E) = true then kQ K p else 0) (kN K)
  | _ => upTo (fun p => kR K p == kR E p) (min (kN K) (kN E))
def pcAt (K : mCt) (j : Nat) : Nat := upTo (fun q => decide (kP K q + kQ K q ≤ j)) (kN K - 1)
def sgnV (T : mSt) (t j : Nat) : Nat → Nat
  | 0 => kS (tC T t) j
  | 1 => sumN (kS (tC T t)) (tV T 0) j
  | 2 => pcAt (tC T t) j
  | _ => b2n (decide (pcAt (tC T t) j < kN (tC T t) ∧ j + 1 = kP (tC T t) (pcAt (tC T t) j) + kQ (tC T t) (pcAt (tC T t) j)))
set_option maxHeartbeats 4000000 in
set_option maxRecDepth 100000 in
theorem c_clearBuffer {X : mX} {h : mH} {A : mAs} (hA : ClsN h A) : CnU X m_X6_clearBuffer [.ref 0] h (fun v h1 => v = some (.int (nI (aB A))) ∧ ClsN h1 (aT A, (aN A, aH A), (0, aD A)) ∧ Out h h1 0 270) := by
  obtain ⟨a0, hT, hH, hBf, hW⟩ := id hA
  obtain ⟨t0, ⟨f, t1, t2⟩, hcs, hsto, hset⟩ := id hT
  obtain ⟨m0, hm6, -⟩ := id hH
  obtain ⟨⟨b0, bf, b1, hbf⟩, hb60, hbd⟩ := id hBf
  refine cn_of_ev (L0 := [_, _]) (by decide +kernel) rfl rfl (Nat.le_of_ble_eq_true rfl) rfl ?_
  refine ev_aload_n dX6_clearBuffer_0 rfl rfl ?_
  first | refine ev_getfield dX6_clearBuffer_1 lf_6_26 (a0) rfl ?_ | refine ev_getfield dX6_clearBuffer_1 lf_6_26 (b0) rfl ?_
  first | refine ev_getfield dX6_clearBuffer_4 lf_6_143 (a0) rfl ?_ | refine ev_getfield dX6_clearBuffer_4 lf_6_143 (b0) rfl ?_
  refine ev_istore_n (L' := [_, _]) dX6_clearBuffer_7 rfl (Nat.le_of_ble_eq_true rfl) rfl ?_
  refine ev_aload_n dX6_clearBuffer_8 rfl rfl ?_
  first | refine ev_getfield dX6_clearBuffer_9 lf_6_26 (a0) rfl ?_ | refine ev_getfield dX6_clearBuffer_9 lf_6_26 (b0) rfl ?_
  first | refine ev_callVU0 dX6_clearBuffer_12 cal_X0_clear lk_6_69 ⟨(Nat.le_of_ble_eq_true rfl), (Nat.le_of_ble_eq_true rfl)⟩ rfl (a0) (Nat.le_of_ble_eq_true rfl) (c_Buf_clear hBf) (fun v h12 hq12 => ?_) | refine ev_callVU0 dX6_clearBuffer_12 cal_X0_clear lk_6_69 ⟨(Nat.le_of_ble_eq_true rfl), (Nat.le_of_ble_eq_true rfl)⟩ rfl (b0) (Nat.le_of_ble_eq_true rfl) (c_Buf_clear hBf) (fun v h12 hq12 => ?_)
  refine ev_pc (pc' := 15) rfl ?_
  obtain ⟨rfl, hb2, o2⟩ := hq12
  refine ev_iload_n dX6_clearBuffer_15 rfl rfl ?_
  refine ev_ireturn dX6_clearBuffer_16 rfl (Or.inl rfl) (Nat.zero_le _) (Nat.zero_le _) ?_
  obtain ⟨⟨T1, w1⟩, ⟨K1, w2⟩, ⟨v1, w3⟩, f1, w4⟩ := hW
  exact ⟨_, rfl, rfl, ⟨(o2 0 (by omega)).trans a0, hT.go o2 (by omega), hH.go o2 (by omega), hb2, ⟨T1, w1.go o2 (by omega)⟩, ⟨K1, w2.go o2 (by omega)⟩, ⟨v1, w3.go o2 (by omega)⟩, f1, (o2 269 (by omega)).trans w4⟩, o2.up (by omega) (by omega)⟩
set_option maxHeartbeats 4000000 in
set_option maxRecDepth 100000 in
theorem x_count {X : mX} {h : mH} (t : Int32) (ht : inX t 0 10 = false) : CnX X m_X6_count [.ref 0, .int t] h 1 (fun h1 => h1 = h) := by
  refine cn_of_ev (L0 := [_, _, _]) (by decide +kernel) rfl rfl (Nat.le_of_ble_eq_true rfl) rfl ?_
  refine ev_iload_n dX6_count_0 rfl rfl ?_
  refine ev_bipush (nI 9) dX6_count_1 rfl ?_
  refine ev_callSX2 dX6_count_3 cal_X6_requireWhat lk_6_160 ⟨(Nat.le_of_ble_eq_true rfl), (Nat.le_of_ble_eq_true rfl)⟩ rfl (Nat.le_of_ble_eq_true rfl) (x_requireWhat t 9 (by decide) ht) (fun h3 hq3 => ?_)
  exact ⟨rfl, hq3⟩
set_option maxHeartbeats 4000000 in
set_option maxRecDepth 100000 in
theorem c_count {X : mX} {h : mH} {A : mAs} (hA : ClsN h A) (hB : SoB (tS (aT A))) (w : Nat) (hw : w < 10) : CnP X m_X6_count [.ref 0, .int (nI w)] h (some (.int (nI (cntV A w)))) := by
  obtain ⟨a0, hT, hH, hBf, hW⟩ := id hA
  obtain ⟨t0, ⟨f, t1, t2⟩, hcs, hsto, hset⟩ := id hT
  obtain ⟨m0, hm6, -⟩ := id hH
  obtain ⟨⟨b0, bf, b1, hbf⟩, hb60, hbd⟩ := id hBf
  obtain ⟨_, _, _, ⟨s0, -, -, -⟩, -⟩ := id hsto
  refine cn_of_ev (L0 := [_, _, _]) (by decide +kernel) rfl rfl (Nat.le_of_ble_eq_true rfl) rfl ?_
  refine ev_iload_n dX6_count_0 rfl rfl ?_
  refine ev_bipush (nI 9) dX6_count_1 rfl ?_
  refine ev_callSP2 dX6_count_3 cal_X6_requireWhat lk_6_160 ⟨(Nat.le_of_ble_eq_true rfl), (Nat.le_of_ble_eq_true rfl)⟩ rfl (Nat.le_of_ble_eq_true rfl) (c_requireWhat w 9 (by omega) (by decide)) ?_
  refine ev_aload_n dX6_count_6 rfl rfl ?_
  first | refine ev_getfield dX6_count_7 lf_6_10 (a0) rfl ?_ | refine ev_getfield dX6_count_7 lf_6_10 (t0) rfl ?_
  first | refine ev_getfield dX6_count_10 lf_6_114 (a0) rfl ?_ | refine ev_getfield dX6_count_10 lf_6_114 (t0) rfl ?_
  refine ev_astore_n (L' := [_, _, _]) dX6_count_13 rfl (Nat.le_of_ble_eq_true rfl) rfl ?_
  refine ev_iload_n dX6_count_14 rfl rfl ?_
  refine ev_pc (pc' := 15) rfl ?_
  obtain rfl | rfl | rfl | rfl | rfl | rfl | rfl | rfl | rfl | rfl : w = 0 ∨ w = 1 ∨ w = 2 ∨ w = 3 ∨ w = 4 ∨ w = 5 ∨ w = 6 ∨ w = 7 ∨ w = 8 ∨ w = 9 := by omega
  · refine ev_tableIn 64 dX6_count_15 (by decide) (by decide) rfl rfl ?_
    refine ev_aload_n dX6_count_64 rfl rfl ?_
    first | refine ev_getfield dX6_count_65 lf_6_10 (a0) rfl ?_ | refine ev_getfield dX6_count_65 lf_6_10 (t0) rfl ?_ | refine ev_getfield dX6_count_65 lf_6_10 (s0) rfl ?_ | refine ev_getfield dX6_count_65 lf_6_10 (m0) rfl ?_
    first | refine ev_callVP0 dX6_count_68 cal_X4_signs lk_6_242 ⟨(Nat.le_of_ble_eq_true rfl), (Nat.le_of_ble_eq_true rfl)⟩ rfl (a0) (Nat.le_of_ble_eq_true rfl) (c_St_signs hT) ?_ | refine ev_callVP0 dX6_count_68 cal_X4_signs lk_6_242 ⟨(Nat.le_of_ble_eq_true rfl), (Nat.le_of_ble_eq_true rfl)⟩ rfl (t0) (Nat.le_of_ble_eq_true rfl) (c_St_signs hT) ?_ | refine ev_callVP0 dX6_count_68 cal_X4_signs lk_6_242 ⟨(Nat.le_of_ble_eq_true rfl), (Nat.le_of_ble_eq_true rfl)⟩ rfl (s0) (Nat.le_of_ble_eq_true rfl) (c_St_signs hT) ?_ | refine ev_callVP0 dX6_count_68 cal_X4_signs lk_6_242 ⟨(Nat.le_of_ble_eq_true rfl), (Nat.le_of_ble_eq_true rfl)⟩ rfl (m0) (Nat.le_of_ble_eq_true rfl) (c_St_signs hT) ?_
    refine ev_ireturn dX6_count_71 rfl (Or.inl rfl) (Nat.zero_le _) (Nat.zero_le _) ?_
    exact ⟨rfl, rfl⟩
  · refine ev_tableIn 72 dX6_count_15 (by decide) (by decide) rfl rfl ?_
    refine ev_aload_n dX6_count_72 rfl rfl ?_
    first | refine ev_getfield dX6_count_73 lf_6_10 (a0) rfl ?_ | refine ev_getfield dX6_count_73 lf_6_10 (t0) rfl ?_ | refine ev_getfield dX6_count_73 lf_6_10 (s0) rfl ?_ | refine ev_getfield dX6_count_73 lf_6_10 (m0) rfl ?_
    first | refine ev_callVP0 dX6_count_76 cal_X4_pieces lk_6_243 ⟨(Nat.le_of_ble_eq_true rfl), (Nat.le_of_ble_eq_true rfl)⟩ rfl (a0) (Nat.le_of_ble_eq_true rfl) (c_St_pieces hT) ?_ | refine ev_callVP0 dX6_count_76 cal_X4_pieces lk_6_243 ⟨(Nat.le_of_ble_eq_true rfl), (Nat.le_of_ble_eq_true rfl)⟩ rfl (t0) (Nat.le_of_ble_eq_true rfl) (c_St_pieces hT) ?_ | refine ev_callVP0 dX6_count_76 cal_X4_pieces lk_6_243 ⟨(Nat.le_of_ble_eq_true rfl), (Nat.le_of_ble_eq_true rfl)⟩ rfl (s0) (Nat.le_of_ble_eq_true rfl) (c_St_pieces hT) ?_ | refine ev_callVP0 dX6_count_76 cal_X4_pieces lk_6_243 ⟨(Nat.le_of_ble_eq_true rfl), (Nat.le_of_ble_eq_true rfl)⟩ rfl (m0) (Nat.le_of_ble_eq_true rfl) (c_St_pieces hT) ?_
    refine ev_ireturn dX6_count_79 rfl (Or.inl rfl) (Nat.zero_le _) (Nat.zero_le _) ?_
    exact ⟨rfl, rfl⟩
  · refine ev_tableIn 80 dX6_count_15 (by decide) (by decide) rfl rfl ?_
    refine ev_aload_n dX6_count_80 rfl rfl ?_
    first | refine ev_callVP0 dX6_count_81 cal_X5_pieces lk_6_245 ⟨(Nat.le_of_ble_eq_true rfl), (Nat.le_of_ble_eq_true rfl)⟩ rfl (a0) (Nat.le_of_ble_eq_true rfl) (c_pieces hsto hB) ?_ | refine ev_callVP0 dX6_count_81 cal_X5_pieces lk_6_245 ⟨(Nat.le_of_ble_eq_true rfl), (Nat.le_of_ble_eq_true rfl)⟩ rfl (t0) (Nat.le_of_ble_eq_true rfl) (c_pieces hsto hB) ?_ | refine ev_callVP0 dX6_count_81 cal_X5_pieces lk_6_245 ⟨(Nat.le_of_ble_eq_true rfl), (Nat.le_of_ble_eq_true rfl)⟩ rfl (s0) (Nat.le_of_ble_eq_true rfl) (c_pieces hsto hB) ?_ | refine ev_callVP0 dX6_count_81 cal_X5_pieces lk_6_245 ⟨(Nat.le_of_ble_eq_true rfl), (Nat.le_of_ble_eq_true rfl)⟩ rfl (m0) (Nat.le_of_ble_eq_true rfl) (c_pieces hsto hB) ?_
    refine ev_ireturn dX6_count_84 rfl (Or.inl rfl) (Nat.zero_le _) (Nat.zero_le _) ?_
    exact ⟨rfl, rfl⟩
  · refine ev_tableIn 85 dX6_count_15 (by decide) (by decide) rfl rfl ?_
    refine ev_aload_n dX6_count_85 rfl rfl ?_
    first | refine ev_callVP0 dX6_count_86 cal_X5_size lk_6_246 ⟨(Nat.le_of_ble_eq_true rfl), (Nat.le_of_ble_eq_true rfl)⟩ rfl (a0) (Nat.le_of_ble_eq_true rfl) (c_size hsto hB) ?_ | refine ev_callVP0 dX6_count_86 cal_X5_size lk_6_246 ⟨(Nat.le_of_ble_eq_true rfl), (Nat.le_of_ble_eq_true rfl)⟩ rfl (t0) (Nat.le_of_ble_eq_true rfl) (c_size hsto hB) ?_ | refine ev_callVP0 dX6_count_86 cal_X5_size lk_6_246 ⟨(Nat.le_of_ble_eq_true rfl), (Nat.le_of_ble_eq_true rfl)⟩ rfl (s0) (Nat.le_of_ble_eq_true rfl) (c_size hsto hB) ?_ | refine ev_callVP0 dX6_count_86 cal_X5_size lk_6_246 ⟨(Nat.le_of_ble_eq_true rfl), (Nat.le_of_ble_eq_true rfl)⟩ rfl (m0) (Nat.le_of_ble_eq_true rfl) (c_size hsto hB) ?_
    refine ev_ireturn dX6_count_89 rfl (Or.inl rfl) (Nat.zero_le _) (Nat.zero_le _) ?_
    exact ⟨rfl, rfl⟩
  · refine ev_tableIn 90 dX6_count_15 (by decide) (by decide) rfl rfl ?_
    refine ev_aload_n dX6_count_90 rfl rfl ?_
    first | refine ev_callVP0 dX6_count_91 cal_X5_unownedPieces lk_6_249 ⟨(Nat.le_of_ble_eq_true rfl), (Nat.le_of_ble_eq_true rfl)⟩ rfl (a0) (Nat.le_of_ble_eq_true rfl) (c_unownedPieces hsto hB) ?_ | refine ev_callVP0 dX6_count_91 cal_X5_unownedPieces lk_6_249 ⟨(Nat.le_of_ble_eq_true rfl), (Nat.le_of_ble_eq_true rfl)⟩ rfl (t0) (Nat.le_of_ble_eq_true rfl) (c_unownedPieces hsto hB) ?_ | refine ev_callVP0 dX6_count_91 cal_X5_unownedPieces lk_6_249 ⟨(Nat.le_of_ble_eq_true rfl), (Nat.le_of_ble_eq_true rfl)⟩ rfl (s0) (Nat.le_of_ble_eq_true rfl) (c_unownedPieces hsto hB) ?_ | refine ev_callVP0 dX6_count_91 cal_X5_unownedPieces lk_6_249 ⟨(Nat.le_of_ble_eq_true rfl), (Nat.le_of_ble_eq_true rfl)⟩ rfl (m0) (Nat.le_of_ble_eq_true rfl) (c_unownedPieces hsto hB) ?_
    refine ev_ireturn dX6_count_94 rfl (Or.inl rfl) (Nat.zero_le _) (Nat.zero_le _) ?_
    exact ⟨rfl, rfl⟩
  · refine ev_tableIn 95 dX6_count_15 (by decide) (by decide) rfl rfl ?_
    refine ev_aload_n dX6_count_95 rfl rfl ?_
    first | refine ev_callVP0 dX6_count_96 cal_X5_unownedSize lk_6_252 ⟨(Nat.le_of_ble_eq_true rfl), (Nat.le_of_ble_eq_true rfl)⟩ rfl (a0) (Nat.le_of_ble_eq_true rfl) (c_unownedSize hsto hB) ?_ | refine ev_callVP0 dX6_count_96 cal_X5_unownedSize lk_6_252 ⟨(Nat.le_of_ble_eq_true rfl), (Nat.le_of_ble_eq_true rfl)⟩ rfl (t0) (Nat.le_of_ble_eq_true rfl) (c_unownedSize hsto hB) ?_ | refine ev_callVP0 dX6_count_96 cal_X5_unownedSize lk_6_252 ⟨(Nat.le_of_ble_eq_true rfl), (Nat.le_of_ble_eq_true rfl)⟩ rfl (s0) (Nat.le_of_ble_eq_true rfl) (c_unownedSize hsto hB) ?_ | refine ev_callVP0 dX6_count_96 cal_X5_unownedSize lk_6_252 ⟨(Nat.le_of_ble_eq_true rfl), (Nat.le_of_ble_eq_true rfl)⟩ rfl (m0) (Nat.le_of_ble_eq_true rfl) (c_unownedSize hsto hB) ?_
    refine ev_ireturn dX6_count_99 rfl (Or.inl rfl) (Nat.zero_le _) (Nat.zero_le _) ?_
    exact ⟨rfl, rfl⟩
  · refine ev_tableIn 100 dX6_count_15 (by decide) (by decide) rfl rfl ?_
    refine ev_aload_n dX6_count_100 rfl rfl ?_
    first | refine ev_callVP0 dX6_count_101 cal_X5_mostOwners lk_6_255 ⟨(Nat.le_of_ble_eq_true rfl), (Nat.le_of_ble_eq_true rfl)⟩ rfl (a0) (Nat.le_of_ble_eq_true rfl) (c_mostOwners hsto hB) ?_ | refine ev_callVP0 dX6_count_101 cal_X5_mostOwners lk_6_255 ⟨(Nat.le_of_ble_eq_true rfl), (Nat.le_of_ble_eq_true rfl)⟩ rfl (t0) (Nat.le_of_ble_eq_true rfl) (c_mostOwners hsto hB) ?_ | refine ev_callVP0 dX6_count_101 cal_X5_mostOwners lk_6_255 ⟨(Nat.le_of_ble_eq_true rfl), (Nat.le_of_ble_eq_true rfl)⟩ rfl (s0) (Nat.le_of_ble_eq_true rfl) (c_mostOwners hsto hB) ?_ | refine ev_callVP0 dX6_count_101 cal_X5_mostOwners lk_6_255 ⟨(Nat.le_of_ble_eq_true rfl), (Nat.le_of_ble_eq_true rfl)⟩ rfl (m0) (Nat.le_of_ble_eq_true rfl) (c_mostOwners hsto hB) ?_
    refine ev_ireturn dX6_count_104 rfl (Or.inl rfl) (Nat.zero_le _) (Nat.zero_le _) ?_
    exact ⟨rfl, rfl⟩
  · refine ev_tableIn 105 dX6_count_15 (by decide) (by decide) rfl rfl ?_
    refine ev_aload_n dX6_count_105 rfl rfl ?_
    first | refine ev_getfield dX6_count_106 lf_6_258 (a0) rfl ?_ | refine ev_getfield dX6_count_106 lf_6_258 (t0) rfl ?_ | refine ev_getfield dX6_count_106 lf_6_258 (s0) rfl ?_ | refine ev_getfield dX6_count_106 lf_6_258 (m0) rfl ?_
    refine ev_ireturn dX6_count_109 rfl (Or.inl rfl) (Nat.zero_le _) (Nat.zero_le _) ?_
    exact ⟨rfl, rfl⟩
  · refine ev_tableIn 110 dX6_count_15 (by decide) (by decide) rfl rfl ?_
    refine ev_aload_n dX6_count_110 rfl rfl ?_
    first | refine ev_getfield dX6_count_111 lf_6_261 (a0) rfl ?_ | refine ev_getfield dX6_count_111 lf_6_261 (t0) rfl ?_ | refine ev_getfield dX6_count_111 lf_6_261 (s0) rfl ?_ | refine ev_getfield dX6_count_111 lf_6_261 (m0) rfl ?_
    refine ev_ireturn dX6_count_114 rfl (Or.inl rfl) (Nat.zero_le _) (Nat.zero_le _) ?_
    exact ⟨rfl, rfl⟩
  · refine ev_tableOut 115 dX6_count_15 (Or.inr (by decide)) rfl ?_
    refine ev_aload_n dX6_count_115 rfl rfl ?_
    first | refine ev_getfield dX6_count_116 lf_6_19 (a0) rfl ?_ | refine ev_getfield dX6_count_116 lf_6_19 (t0) rfl ?_ | refine ev_getfield dX6_count_116 lf_6_19 (s0) rfl ?_ | refine ev_getfield dX6_count_116 lf_6_19 (m0) rfl ?_
    first | refine ev_getfield dX6_count_119 lf_6_152 (a0) rfl ?_ | refine ev_getfield dX6_count_119 lf_6_152 (t0) rfl ?_ | refine ev_getfield dX6_count_119 lf_6_152 (s0) rfl ?_ | refine ev_getfield dX6_count_119 lf_6_152 (m0) rfl ?_
    refine ev_ireturn dX6_count_122 rfl (Or.inl rfl) (Nat.zero_le _) (Nat.zero_le _) ?_
    exact ⟨rfl, rfl⟩
set_option maxHeartbeats 4000000 in
set_option maxRecDepth 100000 in
theorem x_text {X : mX} {h : mH} (t w : Int32) (ht : inX t 0 4 = false) : CnX X m_X6_text [.ref 0, .int t, .int w] h 0 (fun h1 => h1 = h) := by
  refine cn_of_ev (L0 := [_, _, _, _]) (by decide +kernel) rfl rfl (Nat.le_of_ble_eq_true rfl) rfl ?_
  refine ev_iload_n dX6_text_0 rfl rfl ?_
  refine ev_callSX1 dX6_text_1 cal_X6_requireText lk_6_51 ⟨(Nat.le_of_ble_eq_true rfl), (Nat.le_of_ble_eq_true rfl)⟩ rfl (Nat.le_of_ble_eq_true rfl) (x_requireText t ht) (fun h1 hq1 => ?_)
  exact ⟨rfl, hq1⟩
set_option maxHeartbeats 4000000 in
set_option maxRecDepth 100000 in
theorem x_text2 {X : mX} {h : mH} (t : Nat) (w : Int32) (ht : t < 4) (hw : inX w 0 6 = false) : CnX X m_X6_text [.ref 0, .int (nI t), .int w] h 1 (fun h1 => h1 = h) := by
  refine cn_of_ev (L0 := [_, _, _, _]) (by decide +kernel) rfl rfl (Nat.le_of_ble_eq_true rfl) rfl ?_
  refine ev_iload_n dX6_text_0 rfl rfl ?_
  refine ev_callSP1 dX6_text_1 cal_X6_requireText lk_6_51 ⟨(Nat.le_of_ble_eq_true rfl), (Nat.le_of_ble_eq_true rfl)⟩ rfl (Nat.le_of_ble_eq_true rfl) (c_requireText t ht) ?_
  refine ev_iload_n dX6_text_4 rfl rfl ?_
  refine ev_iconst (nI 5) dX6_text_5 rfl ?_
  refine ev_callSX2 dX6_text_6 cal_X6_requireWhat lk_6_160 ⟨(Nat.le_of_ble_eq_true rfl), (Nat.le_of_ble_eq_true rfl)⟩ rfl (Nat.le_of_ble_eq_true rfl) (x_requireWhat w 5 (by decide) hw) (fun h6 hq6 => ?_)
  exact ⟨rfl, hq6⟩
set_option maxHeartbeats 4000000 in
set_option maxRecDepth 100000 in
theorem c_text {X : mX} {h : mH} {A : mAs} (hA : ClsN h A) (t w : Nat) (ht : t < 4) (hw : w < 6) : CnP X m_X6_text [.ref 0, .int (nI t), .int (nI w)] h (some (.int (nI (txtV (aT A) t w)))) := by
  obtain ⟨a0, hT, hH, hBf, hW⟩ := id hA
  obtain ⟨t0, ⟨f, t1, t2⟩, hcs, hsto, hset⟩ := id hT
  obtain ⟨m0, hm6, -⟩ := id hH
  obtain ⟨⟨b0, bf, b1, hbf⟩, hb60, hbd⟩ := id hBf
  obtain ⟨_, _, _, _, _, ⟨c0, -, -, -, -, -⟩, -, -, -, -⟩ := id (hcs t ht)
  refine cn_of_ev (L0 := [_, _, _, _]) (by decide +kernel) rfl rfl (Nat.le_of_ble_eq_true rfl) rfl ?_
  refine ev_iload_n dX6_text_0 rfl rfl ?_
  refine ev_callSP1 dX6_text_1 cal_X6_requireText lk_6_51 ⟨(Nat.le_of_ble_eq_true rfl), (Nat.le_of_ble_eq_true rfl)⟩ rfl (Nat.le_of_ble_eq_true rfl) (c_requireText t ht) ?_
  refine ev_iload_n dX6_text_4 rfl rfl ?_
  refine ev_iconst (nI 5) dX6_text_5 rfl ?_
  refine ev_callSP2 dX6_text_6 cal_X6_requireWhat lk_6_160 ⟨(Nat.le_of_ble_eq_true rfl), (Nat.le_of_ble_eq_true rfl)⟩ rfl (Nat.le_of_ble_eq_true rfl) (c_requireWhat w 5 (by omega) (by decide)) ?_
  refine ev_aload_n dX6_text_9 rfl rfl ?_
  first | refine ev_getfield dX6_text_10 lf_6_10 (a0) rfl ?_ | refine ev_getfield dX6_text_10 lf_6_10 (t0) rfl ?_
  first | refine ev_getfield dX6_text_13 lf_6_70 (a0) rfl ?_ | refine ev_getfield dX6_text_13 lf_6_70 (t0) rfl ?_
  refine ev_iload_n dX6_text_16 rfl rfl ?_
  refine ev_aaloadN dX6_text_17 (Or.inl rfl) t1 (by omega) (by decide) (t2 t ht) ?_
  refine ev_astore_n (L' := [_, _, _, _]) dX6_text_18 rfl (Nat.le_of_ble_eq_true rfl) rfl ?_
  refine ev_iload_n dX6_text_19 rfl rfl ?_
  refine ev_pc (pc' := 20) rfl ?_
  obtain rfl | rfl | rfl | rfl | rfl | rfl : w = 0 ∨ w = 1 ∨ w = 2 ∨ w = 3 ∨ w = 4 ∨ w = 5 := by omega
  · refine ev_tableIn 56 dX6_text_20 (by decide) (by decide) rfl rfl ?_
    refine ev_aload_n dX6_text_56 rfl rfl ?_
    first | refine ev_getfield dX6_text_57 lf_6_74 (a0) rfl ?_ | refine ev_getfield dX6_text_57 lf_6_74 (t0) rfl ?_ | refine ev_getfield dX6_text_57 lf_6_74 (c0) rfl ?_
    refine ev_ireturn dX6_text_60 rfl (Or.inl rfl) (Nat.zero_le _) (Nat.zero_le _) ?_
    exact ⟨rfl, rfl⟩
  · refine ev_tableIn 61 dX6_text_20 (by decide) (by decide) rfl rfl ?_
    refine ev_aload_n dX6_text_61 rfl rfl ?_
    first | refine ev_getfield dX6_text_62 lf_6_178 (a0) rfl ?_ | refine ev_getfield dX6_text_62 lf_6_178 (t0) rfl ?_ | refine ev_getfield dX6_text_62 lf_6_178 (c0) rfl ?_
    refine ev_ireturn dX6_text_65 rfl (Or.inl rfl) (Nat.zero_le _) (Nat.zero_le _) ?_
    exact ⟨rfl, rfl⟩
  · refine ev_tableIn 66 dX6_text_20 (by decide) (by decide) rfl rfl ?_
    refine ev_aload_n dX6_text_66 rfl rfl ?_
    first | refine ev_callVP0 dX6_text_67 cal_X1_unlikePieces lk_6_221 ⟨(Nat.le_of_ble_eq_true rfl), (Nat.le_of_ble_eq_true rfl)⟩ rfl (a0) (Nat.le_of_ble_eq_true rfl) (c_unlikePieces (hcs t ht)) ?_ | refine ev_callVP0 dX6_text_67 cal_X1_unlikePieces lk_6_221 ⟨(Nat.le_of_ble_eq_true rfl), (Nat.le_of_ble_eq_true rfl)⟩ rfl (t0) (Nat.le_of_ble_eq_true rfl) (c_unlikePieces (hcs t ht)) ?_ | refine ev_callVP0 dX6_text_67 cal_X1_unlikePieces lk_6_221 ⟨(Nat.le_of_ble_eq_true rfl), (Nat.le_of_ble_eq_true rfl)⟩ rfl (c0) (Nat.le_of_ble_eq_true rfl) (c_unlikePieces (hcs t ht)) ?_
    refine ev_ireturn dX6_text_70 rfl (Or.inl rfl) (Nat.zero_le _) (Nat.zero_le _) ?_
    exact ⟨rfl, rfl⟩
  · refine ev_tableIn 71 dX6_text_20 (by decide) (by decide) rfl rfl ?_
    refine ev_aload_n dX6_text_71 rfl rfl ?_
    first | refine ev_callVP0 dX6_text_72 cal_X1_forcedPieces lk_6_224 ⟨(Nat.le_of_ble_eq_true rfl), (Nat.le_of_ble_eq_true rfl)⟩ rfl (a0) (Nat.le_of_ble_eq_true rfl) (c_forcedPieces (hcs t ht)) ?_ | refine ev_callVP0 dX6_text_72 cal_X1_forcedPieces lk_6_224 ⟨(Nat.le_of_ble_eq_true rfl), (Nat.le_of_ble_eq_true rfl)⟩ rfl (t0) (Nat.le_of_ble_eq_true rfl) (c_forcedPieces (hcs t ht)) ?_ | refine ev_callVP0 dX6_text_72 cal_X1_forcedPieces lk_6_224 ⟨(Nat.le_of_ble_eq_true rfl), (Nat.le_of_ble_eq_true rfl)⟩ rfl (c0) (Nat.le_of_ble_eq_true rfl) (c_forcedPieces (hcs t ht)) ?_
    refine ev_ireturn dX6_text_75 rfl (Or.inl rfl) (Nat.zero_le _) (Nat.zero_le _) ?_
    exact ⟨rfl, rfl⟩
  · refine ev_tableIn 76 dX6_text_20 (by decide) (by decide) rfl rfl ?_
    refine ev_aload_n dX6_text_76 rfl rfl ?_
    first | refine ev_callVP0 dX6_text_77 cal_X1_longestPiece lk_6_227 ⟨(Nat.le_of_ble_eq_true rfl), (Nat.le_of_ble_eq_true rfl)⟩ rfl (a0) (Nat.le_of_ble_eq_true rfl) (c_longestPiece (hcs t ht)) ?_ | refine ev_callVP0 dX6_text_77 cal_X1_longestPiece lk_6_227 ⟨(Nat.le_of_ble_eq_true rfl), (Nat.le_of_ble_eq_true rfl)⟩ rfl (t0) (Nat.le_of_ble_eq_true rfl) (c_longestPiece (hcs t ht)) ?_ | refine ev_callVP0 dX6_text_77 cal_X1_longestPiece lk_6_227 ⟨(Nat.le_of_ble_eq_true rfl), (Nat.le_of_ble_eq_true rfl)⟩ rfl (c0) (Nat.le_of_ble_eq_true rfl) (c_longestPiece (hcs t ht)) ?_
    refine ev_ireturn dX6_text_80 rfl (Or.inl rfl) (Nat.zero_le _) (Nat.zero_le _) ?_
    exact ⟨rfl, rfl⟩
  · refine ev_tableOut 81 dX6_text_20 (Or.inr (by decide)) rfl ?_
    refine ev_aload_n dX6_text_81 rfl rfl ?_
    first | refine ev_getfield dX6_text_82 lf_6_10 (a0) rfl ?_ | refine ev_getfield dX6_text_82 lf_6_10 (t0) rfl ?_ | refine ev_getfield dX6_text_82 lf_6_10 (c0) rfl ?_
    refine ev_iload_n dX6_text_85 rfl rfl ?_
    first | refine ev_callVP1 dX6_text_86 cal_X4_signsOwnedAlone lk_6_230 ⟨(Nat.le_of_ble_eq_true rfl), (Nat.le_of_ble_eq_true rfl)⟩ rfl (a0) (Nat.le_of_ble_eq_true rfl) (c_signsOwnedAlone hT t ht) ?_ | refine ev_callVP1 dX6_text_86 cal_X4_signsOwnedAlone lk_6_230 ⟨(Nat.le_of_ble_eq_true rfl), (Nat.le_of_ble_eq_true rfl)⟩ rfl (t0) (Nat.le_of_ble_eq_true rfl) (c_signsOwnedAlone hT t ht) ?_ | refine ev_callVP1 dX6_text_86 cal_X4_signsOwnedAlone lk_6_230 ⟨(Nat.le_of_ble_eq_true rfl), (Nat.le_of_ble_eq_true rfl)⟩ rfl (c0) (Nat.le_of_ble_eq_true rfl) (c_signsOwnedAlone hT t ht) ?_
    refine ev_ireturn dX6_text_89 rfl (Or.inl rfl) (Nat.zero_le _) (Nat.zero_le _) ?_
    exact ⟨rfl, rfl⟩
