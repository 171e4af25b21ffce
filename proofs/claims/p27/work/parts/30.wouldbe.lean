set_option maxHeartbeats 4000000 in
set_option maxRecDepth 100000 in
theorem x_ifPut {X : mX} {h : mH} (t w : Int32) (ht : inX t 0 4 = false) : CnX X m_X6_ifPut [.ref 0, .int t, .int w] h 0 (fun h1 => h1 = h) := by
  refine cn_of_ev (L0 := [_, _, _]) (by decide +kernel) rfl rfl (Nat.le_of_ble_eq_true rfl) rfl ?_
  refine ev_iload_n dX6_ifPut_0 rfl rfl ?_
  refine ev_callSX1 dX6_ifPut_1 cal_X6_requireText lk_6_51 ⟨(Nat.le_of_ble_eq_true rfl), (Nat.le_of_ble_eq_true rfl)⟩ rfl (Nat.le_of_ble_eq_true rfl) (x_requireText t ht) (fun h1 hq1 => ?_)
  exact ⟨rfl, hq1⟩
set_option maxHeartbeats 4000000 in
set_option maxRecDepth 100000 in
theorem x_ifPut2 {X : mX} {h : mH} (t : Nat) (w : Int32) (ht : t < 4) (hw : inX w 0 4 = false) : CnX X m_X6_ifPut [.ref 0, .int (nI t), .int w] h 1 (fun h1 => h1 = h) := by
  refine cn_of_ev (L0 := [_, _, _]) (by decide +kernel) rfl rfl (Nat.le_of_ble_eq_true rfl) rfl ?_
  refine ev_iload_n dX6_ifPut_0 rfl rfl ?_
  refine ev_callSP1 dX6_ifPut_1 cal_X6_requireText lk_6_51 ⟨(Nat.le_of_ble_eq_true rfl), (Nat.le_of_ble_eq_true rfl)⟩ rfl (Nat.le_of_ble_eq_true rfl) (c_requireText t ht) ?_
  refine ev_iload_n dX6_ifPut_4 rfl rfl ?_
  refine ev_iconst (nI 3) dX6_ifPut_5 rfl ?_
  refine ev_callSX2 dX6_ifPut_6 cal_X6_requireWhat lk_6_160 ⟨(Nat.le_of_ble_eq_true rfl), (Nat.le_of_ble_eq_true rfl)⟩ rfl (Nat.le_of_ble_eq_true rfl) (x_requireWhat w 3 (by decide) hw) (fun h6 hq6 => ?_)
  exact ⟨rfl, hq6⟩
set_option maxHeartbeats 4000000 in
set_option maxRecDepth 100000 in
theorem c_ifPut0 {X : mX} {h : mH} {A : mAs} (hA : ClsN h A) (t w : Nat) (ht : t < 4) (hw : w < 4) (hb : whol (aD A) (aB A) = false) : CnP X m_X6_ifPut [.ref 0, .int (nI t), .int (nI w)] h (some (.int (-1))) := by
  obtain ⟨a0, hT, hH, hBf, hW⟩ := id hA
  obtain ⟨t0, ⟨f, t1, t2⟩, hcs, hsto, hset⟩ := id hT
  obtain ⟨m0, hm6, -⟩ := id hH
  obtain ⟨⟨b0, bf, b1, hbf⟩, hb60, hbd⟩ := id hBf
  refine cn_of_ev (L0 := [_, _, _]) (by decide +kernel) rfl rfl (Nat.le_of_ble_eq_true rfl) rfl ?_
  refine ev_iload_n dX6_ifPut_0 rfl rfl ?_
  refine ev_callSP1 dX6_ifPut_1 cal_X6_requireText lk_6_51 ⟨(Nat.le_of_ble_eq_true rfl), (Nat.le_of_ble_eq_true rfl)⟩ rfl (Nat.le_of_ble_eq_true rfl) (c_requireText t ht) ?_
  refine ev_iload_n dX6_ifPut_4 rfl rfl ?_
  refine ev_iconst (nI 3) dX6_ifPut_5 rfl ?_
  refine ev_callSP2 dX6_ifPut_6 cal_X6_requireWhat lk_6_160 ⟨(Nat.le_of_ble_eq_true rfl), (Nat.le_of_ble_eq_true rfl)⟩ rfl (Nat.le_of_ble_eq_true rfl) (c_requireWhat w 3 (by omega) (by decide)) ?_
  refine ev_aload_n dX6_ifPut_9 rfl rfl ?_
  first | refine ev_getfield dX6_ifPut_10 lf_6_26 (a0) rfl ?_ | refine ev_getfield dX6_ifPut_10 lf_6_26 (b0) rfl ?_
  first | refine ev_callVP0 dX6_ifPut_13 cal_X0_isComplete lk_6_264 ⟨(Nat.le_of_ble_eq_true rfl), (Nat.le_of_ble_eq_true rfl)⟩ rfl (a0) (Nat.le_of_ble_eq_true rfl) (c_isComplete hBf) ?_ | refine ev_callVP0 dX6_ifPut_13 cal_X0_isComplete lk_6_264 ⟨(Nat.le_of_ble_eq_true rfl), (Nat.le_of_ble_eq_true rfl)⟩ rfl (b0) (Nat.le_of_ble_eq_true rfl) (c_isComplete hBf) ?_
  refine ev_if_neB 21 dX6_ifPut_16 rfl (fun hc16 => ?_) (fun hc16 => ?_)
  · refine ev_pc (pc' := 21) rfl ?_
    exact absurd hb (by rw [hc16]; decide)
  · refine ev_iconst (-1) dX6_ifPut_19 rfl ?_
    refine ev_ireturn dX6_ifPut_20 rfl (Or.inl rfl) (Nat.zero_le _) (Nat.zero_le _) ?_
    exact ⟨rfl, rfl⟩
def ifpV (T : mSt) (t : Nat) (K : mCt) : Nat → Nat
  | 0 => kN K
  | 1 => ndS (tS T) K
  | 2 => ndR (tS T) K
  | _ => b2n (!(okS T t K))
set_option maxHeartbeats 4000000 in
set_option maxRecDepth 100000 in
theorem c_ifPut {X : mX} {h : mH} {A : mAs} (hA : ClsN h A) (t w : Nat) (ht : t < 4) (hw : w < 4) (hb : whol (aD A) (aB A) = true) (h40 : (smN (addN (aD A)) (aB A)) ≤ 40) (h1 : ∀ j, j < (smN (addN (aD A)) (aB A)) → 1 ≤ (tlN (aD A) (aB A)) j) (hk : ChOK (aT A) t (cutK (tV (aT A)) (smN (addN (aD A)) (aB A)) (tlN (aD A) (aB A)))) : CnU X m_X6_ifPut [.ref 0, .int (nI t), .int (nI w)] h (fun v h1 => v = some (.int (nI (ifpV (aT A) t (cutK (tV (aT A)) (smN (addN (aD A)) (aB A)) (tlN (aD A) (aB A))) w))) ∧ ClsN h1 A ∧ Out h h1 0 270) := by
  obtain ⟨a0, hT, hH, hBf, hW⟩ := id hA
  obtain ⟨t0, ⟨f, t1, t2⟩, hcs, hsto, hset⟩ := id hT
  obtain ⟨m0, hm6, -⟩ := id hH
  obtain ⟨⟨b0, bf, b1, hbf⟩, hb60, hbd⟩ := id hBf
  obtain ⟨⟨hD, hB, hO, hR⟩, hz, hKK, hF⟩ := id hk
  obtain ⟨⟨T1, w1⟩, ⟨K1, wc⟩, ⟨v1, w3⟩, f1, w4⟩ := id hW
  obtain ⟨_, _, _, _, _, ⟨c0, -, -, -, -, -⟩, -⟩ := id wc
  refine cn_of_ev (L0 := [_, _, _]) (by decide +kernel) rfl rfl (Nat.le_of_ble_eq_true rfl) rfl ?_
  refine ev_iload_n dX6_ifPut_0 rfl rfl ?_
  refine ev_callSP1 dX6_ifPut_1 cal_X6_requireText lk_6_51 ⟨(Nat.le_of_ble_eq_true rfl), (Nat.le_of_ble_eq_true rfl)⟩ rfl (Nat.le_of_ble_eq_true rfl) (c_requireText t ht) ?_
  refine ev_iload_n dX6_ifPut_4 rfl rfl ?_
  refine ev_iconst (nI 3) dX6_ifPut_5 rfl ?_
  refine ev_callSP2 dX6_ifPut_6 cal_X6_requireWhat lk_6_160 ⟨(Nat.le_of_ble_eq_true rfl), (Nat.le_of_ble_eq_true rfl)⟩ rfl (Nat.le_of_ble_eq_true rfl) (c_requireWhat w 3 (by omega) (by decide)) ?_
  refine ev_aload_n dX6_ifPut_9 rfl rfl ?_
  first | refine ev_getfield dX6_ifPut_10 lf_6_26 (a0) rfl ?_ | refine ev_getfield dX6_ifPut_10 lf_6_26 (b0) rfl ?_ | refine ev_getfield dX6_ifPut_10 lf_6_26 (c0) rfl ?_
  first | refine ev_callVP0 dX6_ifPut_13 cal_X0_isComplete lk_6_264 ⟨(Nat.le_of_ble_eq_true rfl), (Nat.le_of_ble_eq_true rfl)⟩ rfl (a0) (Nat.le_of_ble_eq_true rfl) (c_isComplete hBf) ?_ | refine ev_callVP0 dX6_ifPut_13 cal_X0_isComplete lk_6_264 ⟨(Nat.le_of_ble_eq_true rfl), (Nat.le_of_ble_eq_true rfl)⟩ rfl (b0) (Nat.le_of_ble_eq_true rfl) (c_isComplete hBf) ?_ | refine ev_callVP0 dX6_ifPut_13 cal_X0_isComplete lk_6_264 ⟨(Nat.le_of_ble_eq_true rfl), (Nat.le_of_ble_eq_true rfl)⟩ rfl (c0) (Nat.le_of_ble_eq_true rfl) (c_isComplete hBf) ?_
  refine ev_if_neB 21 dX6_ifPut_16 rfl (fun hc16 => ?_) (fun hc16 => ?_)
  · refine ev_aload_n dX6_ifPut_21 rfl rfl ?_
    first | refine ev_getfield dX6_ifPut_22 lf_6_36 (a0) rfl ?_ | refine ev_getfield dX6_ifPut_22 lf_6_36 (b0) rfl ?_ | refine ev_getfield dX6_ifPut_22 lf_6_36 (c0) rfl ?_
    first | refine ev_callVU0 dX6_ifPut_25 cal_X1_clear lk_6_58 ⟨(Nat.le_of_ble_eq_true rfl), (Nat.le_of_ble_eq_true rfl)⟩ rfl (a0) (Nat.le_of_ble_eq_true rfl) (c_Cut_clear wc) (fun v h25 hq25 => ?_) | refine ev_callVU0 dX6_ifPut_25 cal_X1_clear lk_6_58 ⟨(Nat.le_of_ble_eq_true rfl), (Nat.le_of_ble_eq_true rfl)⟩ rfl (b0) (Nat.le_of_ble_eq_true rfl) (c_Cut_clear wc) (fun v h25 hq25 => ?_) | refine ev_callVU0 dX6_ifPut_25 cal_X1_clear lk_6_58 ⟨(Nat.le_of_ble_eq_true rfl), (Nat.le_of_ble_eq_true rfl)⟩ rfl (c0) (Nat.le_of_ble_eq_true rfl) (c_Cut_clear wc) (fun v h25 hq25 => ?_)
    refine ev_pc (pc' := 28) rfl ?_
    obtain ⟨rfl, hc2, o2⟩ := hq25
    have a2 := (o2 0 (by omega)).trans a0
    have hB2 := hBf.go o2 (by omega)
    obtain ⟨⟨b02, -⟩, -⟩ := id hB2
    refine ev_aload_n dX6_ifPut_28 rfl rfl ?_
    first | refine ev_getfield dX6_ifPut_29 lf_6_26 (a2) rfl ?_ | refine ev_getfield dX6_ifPut_29 lf_6_26 (b02) rfl ?_
    refine ev_aload_n dX6_ifPut_32 rfl rfl ?_
    first | refine ev_getfield dX6_ifPut_33 lf_6_36 (a2) rfl ?_ | refine ev_getfield dX6_ifPut_33 lf_6_36 (b02) rfl ?_
    first | refine ev_callVU1 dX6_ifPut_36 cal_X0_readInto lk_6_61 ⟨(Nat.le_of_ble_eq_true rfl), (Nat.le_of_ble_eq_true rfl)⟩ rfl (a2) (Nat.le_of_ble_eq_true rfl) (c_readInto hB2 hc2 (by omega) (by rw [Nat.zero_add]; exact h40)) (fun v h36 hq36 => ?_) | refine ev_callVU1 dX6_ifPut_36 cal_X0_readInto lk_6_61 ⟨(Nat.le_of_ble_eq_true rfl), (Nat.le_of_ble_eq_true rfl)⟩ rfl (b02) (Nat.le_of_ble_eq_true rfl) (c_readInto hB2 hc2 (by omega) (by rw [Nat.zero_add]; exact h40)) (fun v h36 hq36 => ?_)
    refine ev_pc (pc' := 39) rfl ?_
    obtain ⟨rfl, hc3, o3⟩ := hq36
    have ho := o2.tr o3
    have hc4 : CutN h36 261 (rawK (smN (addN (aD A)) (aB A)) (tlN (aD A) (aB A))) := by
      rw [Nat.zero_add] at hc3
      exact hc3.ext (fun j hj => by rw [catF_ge (Nat.zero_le _), Nat.sub_zero])
    have a4 := (ho 0 (by omega)).trans a0
    have hT4 := hT.go ho (by omega)
    obtain ⟨t04, ⟨f4, t14, t24⟩, hcs4, hsto4, hset4⟩ := id hT4
    obtain ⟨_, _, _, _, _, ⟨c04, -, -, -, -, -⟩, -⟩ := id hc4
    refine ev_aload_n dX6_ifPut_39 rfl rfl ?_
    first | refine ev_getfield dX6_ifPut_40 lf_6_36 (a4) rfl ?_ | refine ev_getfield dX6_ifPut_40 lf_6_36 (t04) rfl ?_ | refine ev_getfield dX6_ifPut_40 lf_6_36 (c04) rfl ?_
    refine ev_aload_n dX6_ifPut_43 rfl rfl ?_
    first | refine ev_getfield dX6_ifPut_44 lf_6_10 (a4) rfl ?_ | refine ev_getfield dX6_ifPut_44 lf_6_10 (t04) rfl ?_ | refine ev_getfield dX6_ifPut_44 lf_6_10 (c04) rfl ?_
    first | refine ev_getfield dX6_ifPut_47 lf_6_134 (a4) rfl ?_ | refine ev_getfield dX6_ifPut_47 lf_6_134 (t04) rfl ?_ | refine ev_getfield dX6_ifPut_47 lf_6_134 (c04) rfl ?_
    first | refine ev_callVU1 dX6_ifPut_50 cal_X1_cutBy lk_6_268 ⟨(Nat.le_of_ble_eq_true rfl), (Nat.le_of_ble_eq_true rfl)⟩ rfl (a4) (Nat.le_of_ble_eq_true rfl) (c_cutBy hc4 hset4 (by omega) h1) (fun v h50 hq50 => ?_) | refine ev_callVU1 dX6_ifPut_50 cal_X1_cutBy lk_6_268 ⟨(Nat.le_of_ble_eq_true rfl), (Nat.le_of_ble_eq_true rfl)⟩ rfl (t04) (Nat.le_of_ble_eq_true rfl) (c_cutBy hc4 hset4 (by omega) h1) (fun v h50 hq50 => ?_) | refine ev_callVU1 dX6_ifPut_50 cal_X1_cutBy lk_6_268 ⟨(Nat.le_of_ble_eq_true rfl), (Nat.le_of_ble_eq_true rfl)⟩ rfl (c04) (Nat.le_of_ble_eq_true rfl) (c_cutBy hc4 hset4 (by omega) h1) (fun v h50 hq50 => ?_)
    refine ev_pc (pc' := 53) rfl ?_
    obtain ⟨rfl, hc5, o5⟩ := hq50
    have o35 := ho.tr o5
    have a5 := (o35 0 (by omega)).trans a0
    have hT5 := hT.go o35 (by omega)
    have w15 := w1.go o35 (by omega)
    obtain ⟨t05, ⟨f5, t15, t25⟩, hcs5, hsto5, hset5⟩ := id hT5
    obtain ⟨_, _, _, ⟨s05, -⟩, -⟩ := id hsto5
    obtain ⟨_, _, _, _, _, ⟨c05, -, -, -, -, -⟩, -⟩ := id hc5
    obtain ⟨n05, -⟩ := id w15
    have hA5 : ClsN h50 A := ⟨a5, hT5, hH.go o35 (by omega), hBf.go o35 (by omega), ⟨T1, w15⟩, ⟨_, hc5⟩, ⟨v1, w3.go o35 (by omega)⟩, f1, (o35 269 (by omega)).trans w4⟩
    refine ev_iload_n dX6_ifPut_53 rfl rfl ?_
    obtain rfl | rfl | rfl | rfl : w = 0 ∨ w = 1 ∨ w = 2 ∨ w = 3 := by omega
    · refine ev_tableIn 80 dX6_ifPut_54 (by decide) (by decide) rfl rfl ?_
      refine ev_aload_n dX6_ifPut_80 rfl rfl ?_
      first | refine ev_getfield dX6_ifPut_81 lf_6_36 (a5) rfl ?_ | refine ev_getfield dX6_ifPut_81 lf_6_36 (t05) rfl ?_ | refine ev_getfield dX6_ifPut_81 lf_6_36 (c05) rfl ?_ | refine ev_getfield dX6_ifPut_81 lf_6_36 (s05) rfl ?_ | refine ev_getfield dX6_ifPut_81 lf_6_36 (n05) rfl ?_
      first | refine ev_getfield dX6_ifPut_84 lf_6_178 (a5) rfl ?_ | refine ev_getfield dX6_ifPut_84 lf_6_178 (t05) rfl ?_ | refine ev_getfield dX6_ifPut_84 lf_6_178 (c05) rfl ?_ | refine ev_getfield dX6_ifPut_84 lf_6_178 (s05) rfl ?_ | refine ev_getfield dX6_ifPut_84 lf_6_178 (n05) rfl ?_
      refine ev_ireturn dX6_ifPut_87 rfl (Or.inl rfl) (Nat.zero_le _) (Nat.zero_le _) ?_
      exact ⟨_, rfl, rfl, hA5, o35.up (by omega) (by omega)⟩
    · refine ev_tableIn 88 dX6_ifPut_54 (by decide) (by decide) rfl rfl ?_
      refine ev_aload_n dX6_ifPut_88 rfl rfl ?_
      first | refine ev_getfield dX6_ifPut_89 lf_6_10 (a5) rfl ?_ | refine ev_getfield dX6_ifPut_89 lf_6_10 (t05) rfl ?_ | refine ev_getfield dX6_ifPut_89 lf_6_10 (c05) rfl ?_ | refine ev_getfield dX6_ifPut_89 lf_6_10 (s05) rfl ?_ | refine ev_getfield dX6_ifPut_89 lf_6_10 (n05) rfl ?_
      first | refine ev_getfield dX6_ifPut_92 lf_6_114 (a5) rfl ?_ | refine ev_getfield dX6_ifPut_92 lf_6_114 (t05) rfl ?_ | refine ev_getfield dX6_ifPut_92 lf_6_114 (c05) rfl ?_ | refine ev_getfield dX6_ifPut_92 lf_6_114 (s05) rfl ?_ | refine ev_getfield dX6_ifPut_92 lf_6_114 (n05) rfl ?_
      refine ev_aload_n dX6_ifPut_95 rfl rfl ?_
      first | refine ev_getfield dX6_ifPut_96 lf_6_36 (a5) rfl ?_ | refine ev_getfield dX6_ifPut_96 lf_6_36 (t05) rfl ?_ | refine ev_getfield dX6_ifPut_96 lf_6_36 (c05) rfl ?_ | refine ev_getfield dX6_ifPut_96 lf_6_36 (s05) rfl ?_ | refine ev_getfield dX6_ifPut_96 lf_6_36 (n05) rfl ?_
      first | refine ev_callVP1 dX6_ifPut_99 cal_X5_slotsNeededBy lk_6_272 ⟨(Nat.le_of_ble_eq_true rfl), (Nat.le_of_ble_eq_true rfl)⟩ rfl (a5) (Nat.le_of_ble_eq_true rfl) (c_slotsNeededBy hsto5 hc5) ?_ | refine ev_callVP1 dX6_ifPut_99 cal_X5_slotsNeededBy lk_6_272 ⟨(Nat.le_of_ble_eq_true rfl), (Nat.le_of_ble_eq_true rfl)⟩ rfl (t05) (Nat.le_of_ble_eq_true rfl) (c_slotsNeededBy hsto5 hc5) ?_ | refine ev_callVP1 dX6_ifPut_99 cal_X5_slotsNeededBy lk_6_272 ⟨(Nat.le_of_ble_eq_true rfl), (Nat.le_of_ble_eq_true rfl)⟩ rfl (c05) (Nat.le_of_ble_eq_true rfl) (c_slotsNeededBy hsto5 hc5) ?_ | refine ev_callVP1 dX6_ifPut_99 cal_X5_slotsNeededBy lk_6_272 ⟨(Nat.le_of_ble_eq_true rfl), (Nat.le_of_ble_eq_true rfl)⟩ rfl (s05) (Nat.le_of_ble_eq_true rfl) (c_slotsNeededBy hsto5 hc5) ?_ | refine ev_callVP1 dX6_ifPut_99 cal_X5_slotsNeededBy lk_6_272 ⟨(Nat.le_of_ble_eq_true rfl), (Nat.le_of_ble_eq_true rfl)⟩ rfl (n05) (Nat.le_of_ble_eq_true rfl) (c_slotsNeededBy hsto5 hc5) ?_
      refine ev_ireturn dX6_ifPut_102 rfl (Or.inl rfl) (Nat.zero_le _) (Nat.zero_le _) ?_
      exact ⟨_, rfl, rfl, hA5, o35.up (by omega) (by omega)⟩
    · refine ev_tableIn 103 dX6_ifPut_54 (by decide) (by decide) rfl rfl ?_
      refine ev_aload_n dX6_ifPut_103 rfl rfl ?_
      first | refine ev_getfield dX6_ifPut_104 lf_6_10 (a5) rfl ?_ | refine ev_getfield dX6_ifPut_104 lf_6_10 (t05) rfl ?_ | refine ev_getfield dX6_ifPut_104 lf_6_10 (c05) rfl ?_ | refine ev_getfield dX6_ifPut_104 lf_6_10 (s05) rfl ?_ | refine ev_getfield dX6_ifPut_104 lf_6_10 (n05) rfl ?_
      first | refine ev_getfield dX6_ifPut_107 lf_6_114 (a5) rfl ?_ | refine ev_getfield dX6_ifPut_107 lf_6_114 (t05) rfl ?_ | refine ev_getfield dX6_ifPut_107 lf_6_114 (c05) rfl ?_ | refine ev_getfield dX6_ifPut_107 lf_6_114 (s05) rfl ?_ | refine ev_getfield dX6_ifPut_107 lf_6_114 (n05) rfl ?_
      refine ev_aload_n dX6_ifPut_110 rfl rfl ?_
      first | refine ev_getfield dX6_ifPut_111 lf_6_36 (a5) rfl ?_ | refine ev_getfield dX6_ifPut_111 lf_6_36 (t05) rfl ?_ | refine ev_getfield dX6_ifPut_111 lf_6_36 (c05) rfl ?_ | refine ev_getfield dX6_ifPut_111 lf_6_36 (s05) rfl ?_ | refine ev_getfield dX6_ifPut_111 lf_6_36 (n05) rfl ?_
      first | refine ev_callVP1 dX6_ifPut_114 cal_X5_roomNeededBy lk_6_275 ⟨(Nat.le_of_ble_eq_true rfl), (Nat.le_of_ble_eq_true rfl)⟩ rfl (a5) (Nat.le_of_ble_eq_true rfl) (c_roomNeededBy hsto5 hc5) ?_ | refine ev_callVP1 dX6_ifPut_114 cal_X5_roomNeededBy lk_6_275 ⟨(Nat.le_of_ble_eq_true rfl), (Nat.le_of_ble_eq_true rfl)⟩ rfl (t05) (Nat.le_of_ble_eq_true rfl) (c_roomNeededBy hsto5 hc5) ?_ | refine ev_callVP1 dX6_ifPut_114 cal_X5_roomNeededBy lk_6_275 ⟨(Nat.le_of_ble_eq_true rfl), (Nat.le_of_ble_eq_true rfl)⟩ rfl (c05) (Nat.le_of_ble_eq_true rfl) (c_roomNeededBy hsto5 hc5) ?_ | refine ev_callVP1 dX6_ifPut_114 cal_X5_roomNeededBy lk_6_275 ⟨(Nat.le_of_ble_eq_true rfl), (Nat.le_of_ble_eq_true rfl)⟩ rfl (s05) (Nat.le_of_ble_eq_true rfl) (c_roomNeededBy hsto5 hc5) ?_ | refine ev_callVP1 dX6_ifPut_114 cal_X5_roomNeededBy lk_6_275 ⟨(Nat.le_of_ble_eq_true rfl), (Nat.le_of_ble_eq_true rfl)⟩ rfl (n05) (Nat.le_of_ble_eq_true rfl) (c_roomNeededBy hsto5 hc5) ?_
      refine ev_ireturn dX6_ifPut_117 rfl (Or.inl rfl) (Nat.zero_le _) (Nat.zero_le _) ?_
      exact ⟨_, rfl, rfl, hA5, o35.up (by omega) (by omega)⟩
    · refine ev_tableOut 118 dX6_ifPut_54 (Or.inr (by decide)) rfl ?_
      refine ev_aload_n dX6_ifPut_118 rfl rfl ?_
      first | refine ev_getfield dX6_ifPut_119 lf_6_30 (a5) rfl ?_ | refine ev_getfield dX6_ifPut_119 lf_6_30 (t05) rfl ?_ | refine ev_getfield dX6_ifPut_119 lf_6_30 (c05) rfl ?_ | refine ev_getfield dX6_ifPut_119 lf_6_30 (s05) rfl ?_ | refine ev_getfield dX6_ifPut_119 lf_6_30 (n05) rfl ?_
      refine ev_aload_n dX6_ifPut_122 rfl rfl ?_
      first | refine ev_getfield dX6_ifPut_123 lf_6_10 (a5) rfl ?_ | refine ev_getfield dX6_ifPut_123 lf_6_10 (t05) rfl ?_ | refine ev_getfield dX6_ifPut_123 lf_6_10 (c05) rfl ?_ | refine ev_getfield dX6_ifPut_123 lf_6_10 (s05) rfl ?_ | refine ev_getfield dX6_ifPut_123 lf_6_10 (n05) rfl ?_
      refine ev_iload_n dX6_ifPut_126 rfl rfl ?_
      refine ev_aload_n dX6_ifPut_127 rfl rfl ?_
      first | refine ev_getfield dX6_ifPut_128 lf_6_36 (a5) rfl ?_ | refine ev_getfield dX6_ifPut_128 lf_6_36 (t05) rfl ?_ | refine ev_getfield dX6_ifPut_128 lf_6_36 (c05) rfl ?_ | refine ev_getfield dX6_ifPut_128 lf_6_36 (s05) rfl ?_ | refine ev_getfield dX6_ifPut_128 lf_6_36 (n05) rfl ?_
      first | refine ev_callVU3 dX6_ifPut_131 cal_X4_becomeChanged lk_6_278 ⟨(Nat.le_of_ble_eq_true rfl), (Nat.le_of_ble_eq_true rfl)⟩ rfl (a5) (Nat.le_of_ble_eq_true rfl) (c_becomeChanged hT5 w15 hc5 (by omega) (by omega) ht hD hB hO hR hz hKK hF) (fun v h131 hq131 => ?_) | refine ev_callVU3 dX6_ifPut_131 cal_X4_becomeChanged lk_6_278 ⟨(Nat.le_of_ble_eq_true rfl), (Nat.le_of_ble_eq_true rfl)⟩ rfl (t05) (Nat.le_of_ble_eq_true rfl) (c_becomeChanged hT5 w15 hc5 (by omega) (by omega) ht hD hB hO hR hz hKK hF) (fun v h131 hq131 => ?_) | refine ev_callVU3 dX6_ifPut_131 cal_X4_becomeChanged lk_6_278 ⟨(Nat.le_of_ble_eq_true rfl), (Nat.le_of_ble_eq_true rfl)⟩ rfl (c05) (Nat.le_of_ble_eq_true rfl) (c_becomeChanged hT5 w15 hc5 (by omega) (by omega) ht hD hB hO hR hz hKK hF) (fun v h131 hq131 => ?_) | refine ev_callVU3 dX6_ifPut_131 cal_X4_becomeChanged lk_6_278 ⟨(Nat.le_of_ble_eq_true rfl), (Nat.le_of_ble_eq_true rfl)⟩ rfl (s05) (Nat.le_of_ble_eq_true rfl) (c_becomeChanged hT5 w15 hc5 (by omega) (by omega) ht hD hB hO hR hz hKK hF) (fun v h131 hq131 => ?_) | refine ev_callVU3 dX6_ifPut_131 cal_X4_becomeChanged lk_6_278 ⟨(Nat.le_of_ble_eq_true rfl), (Nat.le_of_ble_eq_true rfl)⟩ rfl (n05) (Nat.le_of_ble_eq_true rfl) (c_becomeChanged hT5 w15 hc5 (by omega) (by omega) ht hD hB hO hR hz hKK hF) (fun v h131 hq131 => ?_)
      refine ev_pc (pc' := 134) rfl ?_
      obtain ⟨rfl, -, ⟨T6, hT6⟩, o6⟩ := hq131
      have hA6 : ClsN h131 A := ⟨(o6 0 (by omega)).trans a5, hT5.go o6 (by omega), (hH.go o35 (by omega)).go o6 (by omega), (hBf.go o35 (by omega)).go o6 (by omega), ⟨T6, hT6⟩, ⟨_, hc5.go o6 (by omega)⟩, ⟨v1, (w3.go o35 (by omega)).go o6 (by omega)⟩, f1, (o6 269 (by omega)).trans ((o35 269 (by omega)).trans w4)⟩
      refine ev_if_eqB 141 dX6_ifPut_134 rfl (fun hc134 => ?_) (fun hc134 => ?_)
      · refine ev_iconst (nI 1) dX6_ifPut_141 rfl ?_
        refine ev_ireturn dX6_ifPut_142 rfl (Or.inl rfl) (Nat.zero_le _) (Nat.zero_le _) ?_
        refine ⟨_, rfl, ?_, hA6, (o35.up (by omega) (by omega)).tr (o6.up (by omega) (by omega))⟩
        show _ = some (Value.int (nI (b2n (!(okS (aT A) t (cutK (tV (aT A)) (smN (addN (aD A)) (aB A)) (tlN (aD A) (aB A))))))))
        rw [hc134]
        rfl
      · refine ev_iconst (nI 0) dX6_ifPut_137 rfl ?_
        refine ev_goto 142 dX6_ifPut_138 rfl ?_
        refine ev_ireturn dX6_ifPut_142 rfl (Or.inl rfl) (Nat.zero_le _) (Nat.zero_le _) ?_
        refine ⟨_, rfl, ?_, hA6, (o35.up (by omega) (by omega)).tr (o6.up (by omega) (by omega))⟩
        show _ = some (Value.int (nI (b2n (!(okS (aT A) t (cutK (tV (aT A)) (smN (addN (aD A)) (aB A)) (tlN (aD A) (aB A))))))))
        rw [hc134]
        rfl
  · refine ev_pc (pc' := 19) rfl ?_
    exact absurd hb (by rw [hc16]; decide)
