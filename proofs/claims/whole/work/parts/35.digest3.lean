def txN (A : mAs) (a : Int64) : Nat → Int64
  | 0 => a
  | t + 1 => txM A t (txN A a t)
def slN (T : mSt) (a : Int64) : Nat → Int64
  | 0 => a
  | k + 1 => slM T k (slN T a k)
def dg1 (A : mAs) : Int64 := mxF (fun w => nI (cntV A w)) 2663 10
def dg2 (A : mAs) : Int64 := mxF (fun k => nI (tV (aT A) k)) (dg1 A) 5
def dg3 (A : mAs) : Int64 := txN A (dg2 A) 4
def dg4 (A : mAs) : Int64 := slN (aT A) (dg3 A) 60
def dg5 (A : mAs) : Int64 := 31 * dg4 A + (nI (bsD (aT A) 8).1).toInt64
def dg6 (A : mAs) : Int64 := 31 * dg5 A + (savD (aT A)).toInt64
def dg7 (A : mAs) : Int64 := 31 * dg6 A + (nI (aB A)).toInt64
def dgM (A : mAs) : Int64 := mxF (fun k => nI (aD A k)) (dg7 A) (aB A)
theorem bos_sav {T : mSt} (h : ShOK T) : bosD (savD T) = some (savD T).toInt64 := by
  unfold savD
  split
  · exact bos0
  · next q => exact shrT_3 (h q)
set_option maxHeartbeats 4000000 in
set_option maxRecDepth 100000 in
theorem c_digest {X : mX} {h : mH} {A : mAs} (hA : ClsN h A) (hro : RO X) (hl : LkOK A) : CnU X m_X6_digest [.ref 0] h (fun v h1 => v = some (.long (dgM A)) ∧ ClsN h1 A ∧ Out h h1 0 270) := by
  obtain ⟨a0, hT, hH, hBf, hW⟩ := id hA
  obtain ⟨t0, ⟨f, t1, t2⟩, hcs, hsto, hset⟩ := id hT
  obtain ⟨m0, hm6, -⟩ := id hH
  obtain ⟨⟨b0, bf, b1, hbf⟩, hb60, hbd⟩ := id hBf
  refine cn_of_ev (L0 := [_, _, _, _]) (by decide +kernel) rfl rfl (Nat.le_of_ble_eq_true rfl) rfl ?_
  refine ev_ldc2 _ dX6_digest_0 lc_6_288 ?_
  refine ev_lstore_n (L' := [_, _, _, _]) dX6_digest_3 rfl (Nat.le_of_ble_eq_true rfl) rfl ?_
  refine ev_iconst (nI 0) dX6_digest_4 rfl ?_
  refine ev_istore_n (L' := [_, _, _, _]) dX6_digest_5 rfl (Nat.le_of_ble_eq_true rfl) rfl ?_
  refine ev_pc (pc' := 6) rfl ?_
  have LP6 : ∀ (mz : Nat) (w : Nat), 10 - w = mz → (w ≤ 10) → Ev X m_X6_digest B0 6 [.ref 0, .long (mxF (fun w => nI (cntV A w)) 2663 w), jk, .int (nI w)] [] h (fun o h1 => ∃ v, o = .inl v ∧ (v = some (.long (dgM A)) ∧ ClsN h1 A ∧ Out h h1 0 270)) := by
    intro mz
    induction mz using Nat.strongRecOn with
    | _ mz ih =>
      intro w hmz hw
      refine ev_iload_n dX6_digest_6 rfl rfl ?_
      refine ev_bipush (nI 9) dX6_digest_7 rfl ?_
      refine ev_icmp_gtN 29 dX6_digest_9 rfl (by omega) (by omega) (fun hc9 => ?_) (fun hc9 => ?_)
      · refine ev_pc (pc' := 29) rfl ?_
        have ew : w = 10 := by omega
        subst ew
        refine ev_iconst (nI 0) dX6_digest_29 rfl ?_
        refine ev_istore_n (L' := [_, _, _, _]) dX6_digest_30 rfl (Nat.le_of_ble_eq_true rfl) rfl ?_
        refine ev_pc (pc' := 31) rfl ?_
        have LP31 : ∀ (mz : Nat) (k : Nat), 5 - k = mz → (k ≤ 5) → Ev X m_X6_digest B0 31 [.ref 0, .long (mxF (fun k => nI (tV (aT A) k)) (dg1 A) k), jk, .int (nI k)] [] h (fun o h1 => ∃ v, o = .inl v ∧ (v = some (.long (dgM A)) ∧ ClsN h1 A ∧ Out h h1 0 270)) := by
          intro mz
          induction mz using Nat.strongRecOn with
          | _ mz ih =>
            intro k hmz hk
            refine ev_iload_n dX6_digest_31 rfl rfl ?_
            refine ev_iconst (nI 5) dX6_digest_32 rfl ?_
            refine ev_icmp_geN 53 dX6_digest_33 rfl (by omega) (by omega) (fun hc33 => ?_) (fun hc33 => ?_)
            · refine ev_pc (pc' := 53) rfl ?_
              have ew : k = 5 := by omega
              subst ew
              refine ev_iconst (nI 0) dX6_digest_53 rfl ?_
              refine ev_istore_n (L' := [_, _, _, _]) dX6_digest_54 rfl (Nat.le_of_ble_eq_true rfl) rfl ?_
              refine ev_pc (pc' := 55) rfl ?_
              have LP55 : ∀ (mz : Nat) (t : Nat) (h3 : mH), 4 - t = mz → (t ≤ 4) → (ClsN h3 A) → (Out h h3 0 270) → Ev X m_X6_digest B0 55 [.ref 0, .long (txN A (dg2 A) t), jk, .int (nI t)] [] h3 (fun o h1 => ∃ v, o = .inl v ∧ (v = some (.long (dgM A)) ∧ ClsN h1 A ∧ Out h h1 0 270)) := by
                intro mz
                induction mz using Nat.strongRecOn with
                | _ mz ih =>
                  intro t h3 hmz ht hA3 ho
                  have a3 := hA3.1
                  refine ev_iload_n dX6_digest_55 rfl rfl ?_
                  refine ev_iconst (nI 4) dX6_digest_56 rfl ?_
                  refine ev_icmp_geN 73 dX6_digest_57 rfl (by omega) (by omega) (fun hc57 => ?_) (fun hc57 => ?_)
                  · refine ev_pc (pc' := 73) rfl ?_
                    have ew : t = 4 := by omega
                    subst ew
                    refine ev_iconst (nI 0) dX6_digest_73 rfl ?_
                    refine ev_istore_n (L' := [_, _, _, _]) dX6_digest_74 rfl (Nat.le_of_ble_eq_true rfl) rfl ?_
                    refine ev_pc (pc' := 75) rfl ?_
                    have LP75 : ∀ (mz : Nat) (k : Nat), 60 - k = mz → (k ≤ 60) → Ev X m_X6_digest B0 75 [.ref 0, .long (slN (aT A) (dg3 A) k), jk, .int (nI k)] [] h3 (fun o h1 => ∃ v, o = .inl v ∧ (v = some (.long (dgM A)) ∧ ClsN h1 A ∧ Out h h1 0 270)) := by
                      intro mz
                      induction mz using Nat.strongRecOn with
                      | _ mz ih =>
                        intro k hmz hk
                        refine ev_iload_n dX6_digest_75 rfl rfl ?_
                        refine ev_bipush (nI 60) dX6_digest_76 rfl ?_
                        refine ev_icmp_geN 94 dX6_digest_78 rfl (by omega) (by omega) (fun hc78 => ?_) (fun hc78 => ?_)
                        · refine ev_pc (pc' := 94) rfl ?_
                          have ew : k = 60 := by omega
                          subst ew
                          refine ev_lload_n dX6_digest_94 rfl rfl ?_
                          refine ev_aload_n dX6_digest_95 rfl rfl ?_
                          refine ev_callVU0 dX6_digest_96 cal_X6_bestDivisor lk_6_307 ⟨(Nat.le_of_ble_eq_true rfl), (Nat.le_of_ble_eq_true rfl)⟩ rfl (a3) (Nat.le_of_ble_eq_true rfl) (c_bestDivisor hA3 hl.2.1) (fun v h96 hq96 => ?_)
                          refine ev_pc (pc' := 99) rfl ?_
                          obtain ⟨rfl, hA4, o4⟩ := hq96
                          have o34 := ho.tr o4
                          have a4 := hA4.1
                          obtain ⟨-, -, -, ⟨⟨b04, bf4, b14, hbf4⟩, hb60, hbd⟩, -⟩ := id hA4
                          have hb31 : aB A < 2 ^ 31 := by omega
                          generalize h96 = h4 at *
                          refine ev_i2l dX6_digest_99 ?_
                          refine ev_callSP2 dX6_digest_100 cal_X6_mix lk_6_293 ⟨(Nat.le_of_ble_eq_true rfl), (Nat.le_of_ble_eq_true rfl)⟩ rfl (Nat.le_of_ble_eq_true rfl) (c_mix _ _) ?_
                          refine ev_lstore_n (L' := [_, _, _, _]) dX6_digest_103 rfl (Nat.le_of_ble_eq_true rfl) rfl ?_
                          refine ev_lload_n dX6_digest_104 rfl rfl ?_
                          refine ev_aload_n dX6_digest_105 rfl rfl ?_
                          first | refine ev_callVP0 dX6_digest_106 cal_X6_savedShare lk_6_310 ⟨(Nat.le_of_ble_eq_true rfl), (Nat.le_of_ble_eq_true rfl)⟩ rfl (a4) (Nat.le_of_ble_eq_true rfl) (c_savedShare hA4 hl.1 hl.2.2.2.2.1) ?_ | refine ev_callVP0 dX6_digest_106 cal_X6_savedShare lk_6_310 ⟨(Nat.le_of_ble_eq_true rfl), (Nat.le_of_ble_eq_true rfl)⟩ rfl (b04) (Nat.le_of_ble_eq_true rfl) (c_savedShare hA4 hl.1 hl.2.2.2.2.1) ?_
                          refine ev_callSP1 dX6_digest_109 cal_X6_bitsOfShare lk_6_314 ⟨(Nat.le_of_ble_eq_true rfl), (Nat.le_of_ble_eq_true rfl)⟩ rfl (Nat.le_of_ble_eq_true rfl) (c_bitsOfShare _ _ (bos_sav hl.2.2.2.2.1)) ?_
                          refine ev_callSP2 dX6_digest_112 cal_X6_mix lk_6_293 ⟨(Nat.le_of_ble_eq_true rfl), (Nat.le_of_ble_eq_true rfl)⟩ rfl (Nat.le_of_ble_eq_true rfl) (c_mix _ _) ?_
                          refine ev_lstore_n (L' := [_, _, _, _]) dX6_digest_115 rfl (Nat.le_of_ble_eq_true rfl) rfl ?_
                          refine ev_lload_n dX6_digest_116 rfl rfl ?_
                          refine ev_aload_n dX6_digest_117 rfl rfl ?_
                          first | refine ev_getfield dX6_digest_118 lf_6_26 (a4) rfl ?_ | refine ev_getfield dX6_digest_118 lf_6_26 (b04) rfl ?_
                          first | refine ev_getfield dX6_digest_121 lf_6_143 (a4) rfl ?_ | refine ev_getfield dX6_digest_121 lf_6_143 (b04) rfl ?_
                          refine ev_i2l dX6_digest_124 ?_
                          refine ev_callSP2 dX6_digest_125 cal_X6_mix lk_6_293 ⟨(Nat.le_of_ble_eq_true rfl), (Nat.le_of_ble_eq_true rfl)⟩ rfl (Nat.le_of_ble_eq_true rfl) (c_mix _ _) ?_
                          refine ev_lstore_n (L' := [_, _, _, _]) dX6_digest_128 rfl (Nat.le_of_ble_eq_true rfl) rfl ?_
                          refine ev_iconst (nI 0) dX6_digest_129 rfl ?_
                          refine ev_istore_n (L' := [_, _, _, _]) dX6_digest_130 rfl (Nat.le_of_ble_eq_true rfl) rfl ?_
                          refine ev_pc (pc' := 131) rfl ?_
                          have LP131 : ∀ (mz : Nat) (k : Nat), aB A - k = mz → (k ≤ aB A) → Ev X m_X6_digest B0 131 [.ref 0, .long (mxF (fun k => nI (aD A k)) (dg7 A) k), jk, .int (nI k)] [] h4 (fun o h1 => ∃ v, o = .inl v ∧ (v = some (.long (dgM A)) ∧ ClsN h1 A ∧ Out h h1 0 270)) := by
                            intro mz
                            induction mz using Nat.strongRecOn with
                            | _ mz ih =>
                              intro k hmz hk
                              refine ev_iload_n dX6_digest_131 rfl rfl ?_
                              refine ev_aload_n dX6_digest_132 rfl rfl ?_
                              first | refine ev_getfield dX6_digest_133 lf_6_26 (a4) rfl ?_ | refine ev_getfield dX6_digest_133 lf_6_26 (b04) rfl ?_ | refine ev_getfield dX6_digest_133 lf_6_26 (b14) rfl ?_
                              first | refine ev_getfield dX6_digest_136 lf_6_143 (a4) rfl ?_ | refine ev_getfield dX6_digest_136 lf_6_143 (b04) rfl ?_ | refine ev_getfield dX6_digest_136 lf_6_143 (b14) rfl ?_
                              refine ev_icmp_geN 163 dX6_digest_139 rfl (by omega) (by omega) (fun hc139 => ?_) (fun hc139 => ?_)
                              · refine ev_lload_n dX6_digest_163 rfl rfl ?_
                                refine ev_lreturn dX6_digest_164 rfl (Or.inl rfl) (Nat.zero_le _) (Nat.zero_le _) ?_
                                have e : k = aB A := by omega
                                rw [e]
                                exact ⟨_, rfl, rfl, hA4, o34⟩
                              · refine ev_lload_n dX6_digest_142 rfl rfl ?_
                                refine ev_aload_n dX6_digest_143 rfl rfl ?_
                                first | refine ev_getfield dX6_digest_144 lf_6_26 (a4) rfl ?_ | refine ev_getfield dX6_digest_144 lf_6_26 (b04) rfl ?_ | refine ev_getfield dX6_digest_144 lf_6_26 (b14) rfl ?_
                                first | refine ev_getfield dX6_digest_147 lf_6_318 (a4) rfl ?_ | refine ev_getfield dX6_digest_147 lf_6_318 (b04) rfl ?_ | refine ev_getfield dX6_digest_147 lf_6_318 (b14) rfl ?_
                                refine ev_iload_n dX6_digest_150 rfl rfl ?_
                                first | refine ev_ialoadF dX6_digest_151 (a4) (by omega) (by decide) ?_ | refine ev_ialoadF dX6_digest_151 (b04) (by omega) (by decide) ?_ | refine ev_ialoadF dX6_digest_151 (b14) (by omega) (by decide) ?_
                                rw [hbf4 k (by omega)]
                                refine ev_i2l dX6_digest_152 ?_
                                refine ev_callSP2 dX6_digest_153 cal_X6_mix lk_6_293 ⟨(Nat.le_of_ble_eq_true rfl), (Nat.le_of_ble_eq_true rfl)⟩ rfl (Nat.le_of_ble_eq_true rfl) (c_mix _ _) ?_
                                refine ev_lstore_n (L' := [_, _, _, _]) dX6_digest_156 rfl (Nat.le_of_ble_eq_true rfl) rfl ?_
                                refine ev_iincN (L' := [_, _, _, _]) 1 dX6_digest_157 rfl rfl ?_
                                refine ev_goto 131 dX6_digest_160 rfl ?_
                                refine ev_pc (pc' := 131) rfl ?_
                                exact ih _ (by omega) (k + 1) rfl (by omega)
                          exact LP131 _ 0 rfl (Nat.zero_le _)
                        · refine ev_aload_n dX6_digest_81 rfl rfl ?_
                          refine ev_lload_n dX6_digest_82 rfl rfl ?_
                          refine ev_iload_n dX6_digest_83 rfl rfl ?_
                          refine ev_callVP2 dX6_digest_84 cal_X6_mixSlot lk_6_304 ⟨(Nat.le_of_ble_eq_true rfl), (Nat.le_of_ble_eq_true rfl)⟩ rfl (a3) (Nat.le_of_ble_eq_true rfl) (c_mixSlot hA3 hl k (by omega) _) ?_
                          refine ev_lstore_n (L' := [_, _, _, _]) dX6_digest_87 rfl (Nat.le_of_ble_eq_true rfl) rfl ?_
                          refine ev_iincN (L' := [_, _, _, _]) 1 dX6_digest_88 rfl rfl ?_
                          refine ev_goto 75 dX6_digest_91 rfl ?_
                          refine ev_pc (pc' := 75) rfl ?_
                          exact ih _ (by omega) (k + 1) rfl (by omega)
                    exact LP75 _ 0 rfl (Nat.zero_le _)
                  · refine ev_aload_n dX6_digest_60 rfl rfl ?_
                    refine ev_lload_n dX6_digest_61 rfl rfl ?_
                    refine ev_iload_n dX6_digest_62 rfl rfl ?_
                    refine ev_callVU2 dX6_digest_63 cal_X6_mixText lk_6_300 ⟨(Nat.le_of_ble_eq_true rfl), (Nat.le_of_ble_eq_true rfl)⟩ rfl (a3) (Nat.le_of_ble_eq_true rfl) (c_mixText hA3 hro hl t (by omega) _) (fun v h63 hq63 => ?_)
                    refine ev_pc (pc' := 66) rfl ?_
                    obtain ⟨rfl, hA5, o5⟩ := hq63
                    refine ev_lstore_n (L' := [_, _, _, _]) dX6_digest_66 rfl (Nat.le_of_ble_eq_true rfl) rfl ?_
                    refine ev_iincN (L' := [_, _, _, _]) 1 dX6_digest_67 rfl rfl ?_
                    refine ev_goto 55 dX6_digest_70 rfl ?_
                    refine ev_pc (pc' := 55) rfl ?_
                    exact ih _ (by omega) (t + 1) _ rfl (by omega) hA5 (ho.tr o5)
              exact LP55 _ 0 h rfl (Nat.zero_le _) hA Out.rf
            · refine ev_lload_n dX6_digest_36 rfl rfl ?_
              refine ev_aload_n dX6_digest_37 rfl rfl ?_
              refine ev_iload_n dX6_digest_38 rfl rfl ?_
              refine ev_callVP1 dX6_digest_39 cal_X6_setting lk_6_297 ⟨(Nat.le_of_ble_eq_true rfl), (Nat.le_of_ble_eq_true rfl)⟩ rfl (a0) (Nat.le_of_ble_eq_true rfl) (c_setting hA k (by omega)) ?_
              refine ev_i2l dX6_digest_42 ?_
              refine ev_callSP2 dX6_digest_43 cal_X6_mix lk_6_293 ⟨(Nat.le_of_ble_eq_true rfl), (Nat.le_of_ble_eq_true rfl)⟩ rfl (Nat.le_of_ble_eq_true rfl) (c_mix _ _) ?_
              refine ev_lstore_n (L' := [_, _, _, _]) dX6_digest_46 rfl (Nat.le_of_ble_eq_true rfl) rfl ?_
              refine ev_iincN (L' := [_, _, _, _]) 1 dX6_digest_47 rfl rfl ?_
              refine ev_goto 31 dX6_digest_50 rfl ?_
              refine ev_pc (pc' := 31) rfl ?_
              exact ih _ (by omega) (k + 1) rfl (by omega)
        exact LP31 _ 0 rfl (Nat.zero_le _)
      · refine ev_lload_n dX6_digest_12 rfl rfl ?_
        refine ev_aload_n dX6_digest_13 rfl rfl ?_
        refine ev_iload_n dX6_digest_14 rfl rfl ?_
        refine ev_callVP1 dX6_digest_15 cal_X6_count lk_6_290 ⟨(Nat.le_of_ble_eq_true rfl), (Nat.le_of_ble_eq_true rfl)⟩ rfl (a0) (Nat.le_of_ble_eq_true rfl) (c_count hA hl.1 w (by omega)) ?_
        refine ev_i2l dX6_digest_18 ?_
        refine ev_callSP2 dX6_digest_19 cal_X6_mix lk_6_293 ⟨(Nat.le_of_ble_eq_true rfl), (Nat.le_of_ble_eq_true rfl)⟩ rfl (Nat.le_of_ble_eq_true rfl) (c_mix _ _) ?_
        refine ev_lstore_n (L' := [_, _, _, _]) dX6_digest_22 rfl (Nat.le_of_ble_eq_true rfl) rfl ?_
        refine ev_iincN (L' := [_, _, _, _]) 1 dX6_digest_23 rfl rfl ?_
        refine ev_goto 6 dX6_digest_26 rfl ?_
        refine ev_pc (pc' := 6) rfl ?_
        exact ih _ (by omega) (w + 1) rfl (by omega)
  exact LP6 _ 0 rfl (Nat.zero_le _)
