theorem c_isNaN {X : mX} {h : mH} (x : UInt64) (hx : FP.dcmp x x = some .eq) : CnP X m_Jxe99ae_isNaN_b9ae7 [.double x] h (some (.int (bI false))) := by
  refine cn_of_ev (L0 := [_, _]) (by decide +kernel) rfl rfl (Nat.le_of_ble_eq_true rfl) rfl ?_
  refine ev_dload_n dJxe99ae_isNaN_b9ae7_0 rfl rfl ?_
  refine ev_dload_n dJxe99ae_isNaN_b9ae7_1 rfl rfl ?_
  refine ev_dcmp dJxe99ae_isNaN_b9ae7_2 ?_
  rw [hx, show Op.cmpValue (some .eq) .l = nI 0 from rfl]
  refine ev_if_eqN 10 dJxe99ae_isNaN_b9ae7_3 rfl (by omega) (fun hc3 => ?_) (fun hc3 => ?_)
  · refine ev_iconst (nI 0) dJxe99ae_isNaN_b9ae7_10 rfl ?_
    refine ev_zreturn dJxe99ae_isNaN_b9ae7_11 rfl (by first | rfl | exact bI_nar _) (Or.inl rfl) (Nat.zero_le _) (Nat.zero_le _) ?_
    exact ⟨rfl, rfl⟩
  · first | omega | exact absurd hc3 (by decide)
theorem c_dtl {X : mX} {h : mH} (x : UInt64) (hx : FP.dcmp x x = some .eq) : CnP X m_Jxe99ae_doubleToLongBits_ccdee [.double x] h (some (.long x.toInt64)) := by
  refine cn_of_ev (L0 := [_, _]) (by decide +kernel) rfl rfl (Nat.le_of_ble_eq_true rfl) rfl ?_
  refine ev_dload_n dJxe99ae_doubleToLongBits_ccdee_0 rfl rfl ?_
  refine ev_callSP1 dJxe99ae_doubleToLongBits_ccdee_1 cal_Jxe99ae_isNaN_b9ae7 lk_9_122 ⟨(Nat.le_of_ble_eq_true rfl), (Nat.le_of_ble_eq_true rfl)⟩ rfl (Nat.le_of_ble_eq_true rfl) (c_isNaN x hx) ?_
  refine ev_if_neB 12 dJxe99ae_doubleToLongBits_ccdee_4 rfl (fun hc4 => ?_) (fun hc4 => ?_)
  · first | omega | exact absurd hc4 (by decide)
  · refine ev_dload_n dJxe99ae_doubleToLongBits_ccdee_7 rfl rfl ?_
    refine ev_rawbits dJxe99ae_doubleToLongBits_ccdee_8 lk_9_134 w_dn w_ds wi_9 (Nat.le_of_ble_eq_true rfl) (Nat.le_of_ble_eq_true rfl) ?_
    refine ev_lreturn dJxe99ae_doubleToLongBits_ccdee_11 rfl (Or.inl rfl) (Nat.zero_le _) (Nat.zero_le _) ?_
    exact ⟨rfl, rfl⟩
set_option maxHeartbeats 4000000 in
set_option maxRecDepth 100000 in
theorem k_mix {X : mX} {h : mH} {gz : Nat → Nat} {gc : Nat → Int64} {gs : Nat} {gh : Nat → Nat} {gk : Nat → Int64} {gl : Nat} {gb : Nat → Nat} {gt : Nat} {gr : Nat → Nat} {gm : Nat} {gp : Nat → Int64} {gq : Nat → Nat} {ge : Nat → Nat} {gn : Nat} {go : Nat → Nat} {gu : Nat} {gi : Bool} {ga : Nat → Int64} {gv : Nat → Nat} {gw : Nat} {gx : Int64} (hm : MN h gz gc gs gh gk gl gb gt gr gm gp gq ge gn go gu gi ga gv gw gx) (v1 : Int64) : CnU X m_X7_mix [.ref 270, .long v1] h (fun v h1 => v = none ∧ MN h1 gz gc gs gh gk gl gb gt gr gm gp gq ge gn go gu gi ga gv gw (31 * gx + v1) ∧ Out h h1 270 13) := by
  obtain ⟨m0, m1, m2, m3, m4, m5, m6, m7, m8, m9, m10, m11, m12⟩ := id hm
  have ho : Out h h 270 13 := Out.rf
  refine cn_of_ev (L0 := [_, _, _]) (by decide +kernel) rfl rfl (Nat.le_of_ble_eq_true rfl) rfl ?_
  refine ev_aload_n dX7_mix_0 rfl rfl ?_
  refine ev_ldc2 _ dX7_mix_1 lc_7_291 ?_
  refine ev_aload_n dX7_mix_4 rfl rfl ?_
  refine ev_getfield dX7_mix_5 lf_7_293 m0 rfl ?_
  refine ev_lmul dX7_mix_8 ?_
  refine ev_lload_n dX7_mix_9 rfl rfl ?_
  refine ev_ladd dX7_mix_10 ?_
  refine em_pHa dX7_mix_11 lf_7_293 hm (fun h11 hm11 o11 => ?_)
  have ho := ho.tr o11
  obtain ⟨m0, m1, m2, m3, m4, m5, m6, m7, m8, m9, m10, m11, m12⟩ := id hm11
  refine ev_return dX7_mix_14 rfl (Or.inl rfl) (Nat.zero_le _) (Nat.zero_le _) ?_
  exact ⟨none, rfl, rfl, hm11, ho⟩
set_option maxHeartbeats 4000000 in
set_option maxRecDepth 100000 in
theorem k_mixText {X : mX} {h : mH} {gz : Nat → Nat} {gc : Nat → Int64} {gs : Nat} {gh : Nat → Nat} {gk : Nat → Int64} {gl : Nat} {gb : Nat → Nat} {gt : Nat} {gr : Nat → Nat} {gm : Nat} {gp : Nat → Int64} {gq : Nat → Nat} {ge : Nat → Nat} {gn : Nat} {go : Nat → Nat} {gu : Nat} {gi : Bool} {ga : Nat → Int64} {gv : Nat → Nat} {gw : Nat} {gx : Int64} (hm : MN h gz gc gs gh gk gl gb gt gr gm gp gq ge gn go gu gi ga gv gw gx) {A : mAs} (hr : RelT gz gc (aT A)) (hT : InvT (aT A)) (hgl : gl = aB A) (hgb : ∀ j, j < gl → gb j = aD A j) (hl60 : gl ≤ 60) (hb : ∀ j, j < gl → gb j ≤ 200) (t : Nat) (ht : t < 4) : CnU X m_X7_mixText [.ref 270, .int (nI t)] h (fun v h1 => v = none ∧ MS h1 gz gc gs gh gk gl gb gt (txM A t gx) ∧ Out h h1 270 13) := by
  obtain ⟨m0, m1, m2, m3, m4, m5, m6, m7, m8, m9, m10, m11, m12⟩ := id hm
  have ho : Out h h 270 13 := Out.rf
  have hkp := hr.2.1.kp
  have hxs : ∀ t, t < 4 → TxB gz t := fun t ht => hr.tx hT ht
  have hx := hxs t ht
  have hX := hr.2.2 t ht
  have hK := hT.2.1 t ht
  have h40 := hK.1
  have hn40 := hK.n40
  have h7 := hX.1
  have hpc := rel_pcu hX hK
  have hpv : ∀ w, (if whol gb gl = true then nI (ifpV (aT A) t (cutK (tV (aT A)) (smN (addN gb) gl) (tlN gb gl)) w) else -1) = ifpI A t w := fun w => by
    rw [ifpI, putK, ← hgl, whol_congr hgb, smA_congr hgb (Nat.le_refl gl), tlN_congr hgb gl (Nat.le_refl gl)]
  refine cn_of_ev (L0 := [_, _, _, _]) (by decide +kernel) rfl rfl (Nat.le_of_ble_eq_true rfl) rfl ?_
  refine ev_iconst (nI 0) dX7_mixText_0 rfl ?_
  refine ev_istore_n (L' := [_, _, _, _]) dX7_mixText_1 rfl (Nat.le_of_ble_eq_true rfl) rfl ?_
  refine ev_pc (pc' := 2) rfl ?_
  have LP2 : ∀ (mz : Nat) (k : Nat) (h2 : mH) (r : Nat → Nat) (m : Nat) (p : Nat → Int64) (q : Nat → Nat) (e : Nat → Nat) (n : Nat) (vo : Nat → Nat) (u : Nat) (ii : Bool) (a : Nat → Int64) (b : Nat → Nat) (c : Nat), 6 - k = mz → (k ≤ 6) → (MN h2 gz gc gs gh gk gl gb gt r m p q e n vo u ii a b c (mxF (fun w => nI (txtV (aT A) t w)) gx k)) → (Out h h2 270 13) → Ev X m_X7_mixText B0 2 [.ref 270, .int (nI t), .int (nI k), jk] [] h2 (fun o h1 => ∃ v, o = .inl v ∧ (v = none ∧ MS h1 gz gc gs gh gk gl gb gt (txM A t gx) ∧ Out h h1 270 13)) := by
    intro mz
    induction mz using Nat.strongRecOn with
    | _ mz ih =>
      intro k h2 r m p q e n vo u ii a b c hmz hk hm2 ho
      obtain ⟨m0, m1, m2, m3, m4, m5, m6, m7, m8, m9, m10, m11, m12⟩ := id hm2
      refine ev_iload_n dX7_mixText_2 rfl rfl ?_
      refine ev_bipush (nI 6) dX7_mixText_3 rfl ?_
      refine ev_icmp_geN 25 dX7_mixText_5 rfl (by omega) (by omega) (fun hc5 => ?_) (fun hc5 => ?_)
      · refine ev_pc (pc' := 25) rfl ?_
        have ek : k = 6 := by omega
        subst ek
        refine ev_iconst (nI 0) dX7_mixText_25 rfl ?_
        refine ev_istore_n (L' := [_, _, _, _]) dX7_mixText_26 rfl (Nat.le_of_ble_eq_true rfl) rfl ?_
        refine ev_pc (pc' := 27) rfl ?_
        have LP27 : ∀ (mz : Nat) (k : Nat) (h3 : mH) (r : Nat → Nat) (m : Nat) (p : Nat → Int64) (q : Nat → Nat) (e : Nat → Nat) (n : Nat) (vo : Nat → Nat) (u : Nat) (ii : Bool) (a : Nat → Int64) (b : Nat → Nat) (c : Nat), 4 * kL (tC (aT A) t) - k = mz → (k ≤ 4 * kL (tC (aT A) t)) → (MN h3 gz gc gs gh gk gl gb gt r m p q e n vo u ii a b c (mxF (fun q => nI (sgnV (aT A) t (q / 4) (q % 4))) (mxF (fun w => nI (txtV (aT A) t w)) gx 6) k)) → (Out h h3 270 13) → Ev X m_X7_mixText B0 27 [.ref 270, .int (nI t), .int (nI k), jk] [] h3 (fun o h1 => ∃ v, o = .inl v ∧ (v = none ∧ MS h1 gz gc gs gh gk gl gb gt (txM A t gx) ∧ Out h h1 270 13)) := by
          intro mz
          induction mz using Nat.strongRecOn with
          | _ mz ih =>
            intro k h3 r m p q e n vo u ii a b c hmz hk hm3 ho
            obtain ⟨m0, m1, m2, m3, m4, m5, m6, m7, m8, m9, m10, m11, m12⟩ := id hm3
            refine ev_iload_n dX7_mixText_27 rfl rfl ?_
            refine ev_iconst (nI 4) dX7_mixText_28 rfl ?_
            refine ev_aload_n dX7_mixText_29 rfl rfl ?_
            refine ev_iload_n dX7_mixText_30 rfl rfl ?_
            refine ev_callVP1 dX7_mixText_31 cal_X7_signsOf lk_7_58 ⟨(Nat.le_of_ble_eq_true rfl), (Nat.le_of_ble_eq_true rfl)⟩ rfl m0 (Nat.le_of_ble_eq_true rfl) ((show CnP X m_X7_signsOf _ _ (some (.int (nI (kL (tC (aT A) t))))) from by have z := k_signsOf (X := X) hm3 t ht; rwa [h7] at z)) ?_
            refine ev_imulN dX7_mixText_34 ?_
            refine ev_icmp_geN 60 dX7_mixText_35 rfl (by omega) (by omega) (fun hc35 => ?_) (fun hc35 => ?_)
            · refine ev_pc (pc' := 60) rfl ?_
              have ek : k = 4 * kL (tC (aT A) t) := by omega
              subst ek
              refine ev_aload_n dX7_mixText_60 rfl rfl ?_
              refine ev_iload_n dX7_mixText_61 rfl rfl ?_
              refine ev_callVP1 dX7_mixText_62 cal_X7_piecesOf lk_7_204 ⟨(Nat.le_of_ble_eq_true rfl), (Nat.le_of_ble_eq_true rfl)⟩ rfl m0 (Nat.le_of_ble_eq_true rfl) ((show CnP X m_X7_piecesOf _ _ (some (.int (nI (kN (tC (aT A) t))))) from by have z := k_piecesOf (X := X) hm3 t ht hx; rwa [hpc] at z)) ?_
              refine ev_istore_n (L' := [_, _, _, _]) dX7_mixText_65 rfl (Nat.le_of_ble_eq_true rfl) rfl ?_
              refine ev_iconst (nI 0) dX7_mixText_66 rfl ?_
              refine ev_istore_n (L' := [_, _, _, _]) dX7_mixText_67 rfl (Nat.le_of_ble_eq_true rfl) rfl ?_
              refine ev_pc (pc' := 68) rfl ?_
              have LP68 : ∀ (mz : Nat) (k : Nat) (h4 : mH) (r : Nat → Nat) (m : Nat) (p : Nat → Int64) (q : Nat → Nat) (e : Nat → Nat) (n : Nat) (vo : Nat → Nat) (u : Nat) (ii : Bool) (a : Nat → Int64) (b : Nat → Nat) (c : Nat), 5 * kN (tC (aT A) t) - k = mz → (k ≤ 5 * kN (tC (aT A) t)) → (MN h4 gz gc gs gh gk gl gb gt r m p q e n vo u ii a b c (mxF (fun q => pceV (aT A) t (q / 5) (q % 5)) (mxF (fun q => nI (sgnV (aT A) t (q / 4) (q % 4))) (mxF (fun w => nI (txtV (aT A) t w)) gx 6) (4 * kL (tC (aT A) t))) k)) → (Out h h4 270 13) → Ev X m_X7_mixText B0 68 [.ref 270, .int (nI t), .int (nI (kN (tC (aT A) t))), .int (nI k)] [] h4 (fun o h1 => ∃ v, o = .inl v ∧ (v = none ∧ MS h1 gz gc gs gh gk gl gb gt (txM A t gx) ∧ Out h h1 270 13)) := by
                intro mz
                induction mz using Nat.strongRecOn with
                | _ mz ih =>
                  intro k h4 r m p q e n vo u ii a b c hmz hk hm4 ho
                  obtain ⟨m0, m1, m2, m3, m4, m5, m6, m7, m8, m9, m10, m11, m12⟩ := id hm4
                  refine ev_iload_n dX7_mixText_68 rfl rfl ?_
                  refine ev_iconst (nI 5) dX7_mixText_69 rfl ?_
                  refine ev_iload_n dX7_mixText_70 rfl rfl ?_
                  refine ev_imulN dX7_mixText_71 ?_
                  refine ev_icmp_geN 97 dX7_mixText_72 rfl (by omega) (by omega) (fun hc72 => ?_) (fun hc72 => ?_)
                  · refine ev_pc (pc' := 97) rfl ?_
                    have ek : k = 5 * kN (tC (aT A) t) := by omega
                    subst ek
                    refine ev_iconst (nI 0) dX7_mixText_97 rfl ?_
                    refine ev_istore_n (L' := [_, _, _, _]) dX7_mixText_98 rfl (Nat.le_of_ble_eq_true rfl) rfl ?_
                    refine ev_pc (pc' := 99) rfl ?_
                    have LP99 : ∀ (mz : Nat) (k : Nat) (h5 : mH) (r : Nat → Nat) (m : Nat) (p : Nat → Int64) (q : Nat → Nat) (e : Nat → Nat) (n : Nat) (vo : Nat → Nat) (u : Nat) (ii : Bool) (a : Nat → Int64) (b : Nat → Nat) (c : Nat), 3 - k = mz → (k ≤ 3) → (MN h5 gz gc gs gh gk gl gb gt r m p q e n vo u ii a b c (mxF (fun w => nI (comV (tC (aT A) t) (tC (aT A) 0) w)) (mxF (fun q => pceV (aT A) t (q / 5) (q % 5)) (mxF (fun q => nI (sgnV (aT A) t (q / 4) (q % 4))) (mxF (fun w => nI (txtV (aT A) t w)) gx 6) (4 * kL (tC (aT A) t))) (5 * kN (tC (aT A) t))) k)) → (Out h h5 270 13) → Ev X m_X7_mixText B0 99 [.ref 270, .int (nI t), .int (nI (kN (tC (aT A) t))), .int (nI k)] [] h5 (fun o h1 => ∃ v, o = .inl v ∧ (v = none ∧ MS h1 gz gc gs gh gk gl gb gt (txM A t gx) ∧ Out h h1 270 13)) := by
                      intro mz
                      induction mz using Nat.strongRecOn with
                      | _ mz ih =>
                        intro k h5 r m p q e n vo u ii a b c hmz hk hm5 ho
                        obtain ⟨m0, m1, m2, m3, m4, m5, m6, m7, m8, m9, m10, m11, m12⟩ := id hm5
                        refine ev_iload_n dX7_mixText_99 rfl rfl ?_
                        refine ev_iconst (nI 3) dX7_mixText_100 rfl ?_
                        refine ev_icmp_geN 122 dX7_mixText_101 rfl (by omega) (by omega) (fun hc101 => ?_) (fun hc101 => ?_)
                        · refine ev_pc (pc' := 122) rfl ?_
                          have ek : k = 3 := by omega
                          subst ek
                          refine ev_iconst (nI 0) dX7_mixText_122 rfl ?_
                          refine ev_istore_n (L' := [_, _, _, _]) dX7_mixText_123 rfl (Nat.le_of_ble_eq_true rfl) rfl ?_
                          refine ev_pc (pc' := 124) rfl ?_
                          have LP124 : ∀ (mz : Nat) (k : Nat) (h6 : mH) (r : Nat → Nat) (m : Nat) (p : Nat → Int64) (q : Nat → Nat) (e : Nat → Nat) (n : Nat) (vo : Nat → Nat) (u : Nat) (ii : Bool) (a : Nat → Int64) (b : Nat → Nat) (c : Nat), 4 - k = mz → (k ≤ 4) → (MN h6 gz gc gs gh gk gl gb gt r m p q e n vo u ii a b c (mxF (ifpI A t) (mxF (fun w => nI (comV (tC (aT A) t) (tC (aT A) 0) w)) (mxF (fun q => pceV (aT A) t (q / 5) (q % 5)) (mxF (fun q => nI (sgnV (aT A) t (q / 4) (q % 4))) (mxF (fun w => nI (txtV (aT A) t w)) gx 6) (4 * kL (tC (aT A) t))) (5 * kN (tC (aT A) t))) 3) k)) → (Out h h6 270 13) → Ev X m_X7_mixText B0 124 [.ref 270, .int (nI t), .int (nI (kN (tC (aT A) t))), .int (nI k)] [] h6 (fun o h1 => ∃ v, o = .inl v ∧ (v = none ∧ MS h1 gz gc gs gh gk gl gb gt (txM A t gx) ∧ Out h h1 270 13)) := by
                            intro mz
                            induction mz using Nat.strongRecOn with
                            | _ mz ih =>
                              intro k h6 r m p q e n vo u ii a b c hmz hk hm6 ho
                              obtain ⟨m0, m1, m2, m3, m4, m5, m6, m7, m8, m9, m10, m11, m12⟩ := id hm6
                              refine ev_iload_n dX7_mixText_124 rfl rfl ?_
                              refine ev_iconst (nI 4) dX7_mixText_125 rfl ?_
                              refine ev_icmp_geN 146 dX7_mixText_126 rfl (by omega) (by omega) (fun hc126 => ?_) (fun hc126 => ?_)
                              · refine ev_pc (pc' := 146) rfl ?_
                                have ek : k = 4 := by omega
                                subst ek
                                refine ev_aload_n dX7_mixText_146 rfl rfl ?_
                                refine ev_aload_n dX7_mixText_147 rfl rfl ?_
                                refine ev_iload_n dX7_mixText_148 rfl rfl ?_
                                refine ev_iconst (nI 1) dX7_mixText_149 rfl ?_
                                refine ev_iconst (nI 2) dX7_mixText_150 rfl ?_
                                refine ev_callVU3 dX7_mixText_151 cal_X7_setThen lk_7_272 ⟨(Nat.le_of_ble_eq_true rfl), (Nat.le_of_ble_eq_true rfl)⟩ rfl m0 (Nat.le_of_ble_eq_true rfl) (k_setThen hm6 hr hT t 1 2 ht (by decide) (by decide) (by decide)) (fun v h151 hq151 => ?_)
                                refine ev_pc (pc' := 154) rfl ?_
                                obtain ⟨rfl, ⟨_, _, _, _, _, hm151, -⟩, o151⟩ := hq151
                                have ho := ho.tr o151
                                obtain ⟨m0, m1, m2, m3, m4, m5, m6, m7, m8, m9, m10, m11, m12⟩ := id hm151
                                refine ev_i2l dX7_mixText_154 ?_
                                refine ev_callVU1 dX7_mixText_155 cal_X7_mix lk_7_297 ⟨(Nat.le_of_ble_eq_true rfl), (Nat.le_of_ble_eq_true rfl)⟩ rfl m0 (Nat.le_of_ble_eq_true rfl) (k_mix hm151 _) (fun v h155 hq155 => ?_)
                                obtain ⟨rfl, hm155, o155⟩ := hq155
                                have ho := ho.tr o155
                                obtain ⟨m0, m1, m2, m3, m4, m5, m6, m7, m8, m9, m10, m11, m12⟩ := id hm155
                                refine ev_return dX7_mixText_158 rfl (Or.inl rfl) (Nat.zero_le _) (Nat.zero_le _) ?_
                                exact ⟨_, rfl, rfl, hm155.ms, ho⟩
                              · refine ev_aload_n dX7_mixText_129 rfl rfl ?_
                                refine ev_aload_n dX7_mixText_130 rfl rfl ?_
                                refine ev_iload_n dX7_mixText_131 rfl rfl ?_
                                refine ev_iload_n dX7_mixText_132 rfl rfl ?_
                                refine ev_callVU2 dX7_mixText_133 cal_X7_putThen lk_7_269 ⟨(Nat.le_of_ble_eq_true rfl), (Nat.le_of_ble_eq_true rfl)⟩ rfl m0 (Nat.le_of_ble_eq_true rfl) (k_putThen hm6 hr hT hl60 hb t k ht (by omega)) (fun v h133 hq133 => ?_)
                                refine ev_pc (pc' := 136) rfl ?_
                                obtain ⟨rfl, ⟨_, _, _, _, _, _, _, _, _, _, _, _, hm133⟩, o133⟩ := hq133
                                have ho := ho.tr o133
                                obtain ⟨m0, m1, m2, m3, m4, m5, m6, m7, m8, m9, m10, m11, m12⟩ := id hm133
                                rw [hpv k]
                                refine ev_i2l dX7_mixText_136 ?_
                                refine ev_callVU1 dX7_mixText_137 cal_X7_mix lk_7_297 ⟨(Nat.le_of_ble_eq_true rfl), (Nat.le_of_ble_eq_true rfl)⟩ rfl m0 (Nat.le_of_ble_eq_true rfl) (k_mix hm133 _) (fun v h137 hq137 => ?_)
                                obtain ⟨rfl, hm137, o137⟩ := hq137
                                have ho := ho.tr o137
                                obtain ⟨m0, m1, m2, m3, m4, m5, m6, m7, m8, m9, m10, m11, m12⟩ := id hm137
                                refine ev_iincN (L' := [_, _, _, _]) 1 dX7_mixText_140 rfl rfl ?_
                                refine ev_goto 124 dX7_mixText_143 rfl ?_
                                refine ev_pc (pc' := 124) rfl ?_
                                exact ih _ (by omega) (k + 1) _ _ _ _ _ _ _ _ _ _ _ _ _ rfl (by omega) hm137 ho
                          exact LP124 _ 0 _ _ _ _ _ _ _ _ _ _ _ _ _ rfl (Nat.zero_le _) hm5 ho
                        · refine ev_aload_n dX7_mixText_104 rfl rfl ?_
                          refine ev_aload_n dX7_mixText_105 rfl rfl ?_
                          refine ev_iload_n dX7_mixText_106 rfl rfl ?_
                          refine ev_iconst (nI 0) dX7_mixText_107 rfl ?_
                          refine ev_iload_n dX7_mixText_108 rfl rfl ?_
                          refine ev_callVP3 dX7_mixText_109 cal_X7_commonNow lk_7_251 ⟨(Nat.le_of_ble_eq_true rfl), (Nat.le_of_ble_eq_true rfl)⟩ rfl m0 (Nat.le_of_ble_eq_true rfl) (k_commonNow hm5 hr hT t 0 k ht (by decide) (by omega)) ?_
                          refine ev_i2l dX7_mixText_112 ?_
                          refine ev_callVU1 dX7_mixText_113 cal_X7_mix lk_7_297 ⟨(Nat.le_of_ble_eq_true rfl), (Nat.le_of_ble_eq_true rfl)⟩ rfl m0 (Nat.le_of_ble_eq_true rfl) (k_mix hm5 _) (fun v h113 hq113 => ?_)
                          obtain ⟨rfl, hm113, o113⟩ := hq113
                          have ho := ho.tr o113
                          obtain ⟨m0, m1, m2, m3, m4, m5, m6, m7, m8, m9, m10, m11, m12⟩ := id hm113
                          refine ev_iincN (L' := [_, _, _, _]) 1 dX7_mixText_116 rfl rfl ?_
                          refine ev_goto 99 dX7_mixText_119 rfl ?_
                          refine ev_pc (pc' := 99) rfl ?_
                          exact ih _ (by omega) (k + 1) _ _ _ _ _ _ _ _ _ _ _ _ _ rfl (by omega) hm113 ho
                    exact LP99 _ 0 _ _ _ _ _ _ _ _ _ _ _ _ _ rfl (Nat.zero_le _) hm4 ho
                  · refine ev_aload_n dX7_mixText_75 rfl rfl ?_
                    refine ev_aload_n dX7_mixText_76 rfl rfl ?_
                    refine ev_iload_n dX7_mixText_77 rfl rfl ?_
                    refine ev_iload_n dX7_mixText_78 rfl rfl ?_
                    refine ev_iconst (nI 5) dX7_mixText_79 rfl ?_
                    refine ev_idivN dX7_mixText_80 (by omega) (by omega) (by omega) ?_
                    refine ev_iload_n dX7_mixText_81 rfl rfl ?_
                    refine ev_iconst (nI 5) dX7_mixText_82 rfl ?_
                    refine ev_iremN dX7_mixText_83 (by omega) (by omega) (by omega) ?_
                    refine ev_callVP3 dX7_mixText_84 cal_X7_pieceNow lk_7_216 ⟨(Nat.le_of_ble_eq_true rfl), (Nat.le_of_ble_eq_true rfl)⟩ rfl m0 (Nat.le_of_ble_eq_true rfl) ((show CnP X m_X7_pieceNow _ _ (some (.int (pceV (aT A) t (k / 5) (k % 5)))) from by have z := k_pieceNow (X := X) hm4 hr hT t (k / 5) (k % 5) ht (by omega) (by omega); rwa [if_pos (show k / 5 < kN (tC (aT A) t) by omega)] at z)) ?_
                    refine ev_i2l dX7_mixText_87 ?_
                    refine ev_callVU1 dX7_mixText_88 cal_X7_mix lk_7_297 ⟨(Nat.le_of_ble_eq_true rfl), (Nat.le_of_ble_eq_true rfl)⟩ rfl m0 (Nat.le_of_ble_eq_true rfl) (k_mix hm4 _) (fun v h88 hq88 => ?_)
                    obtain ⟨rfl, hm88, o88⟩ := hq88
                    have ho := ho.tr o88
                    obtain ⟨m0, m1, m2, m3, m4, m5, m6, m7, m8, m9, m10, m11, m12⟩ := id hm88
                    refine ev_iincN (L' := [_, _, _, _]) 1 dX7_mixText_91 rfl rfl ?_
                    refine ev_goto 68 dX7_mixText_94 rfl ?_
                    refine ev_pc (pc' := 68) rfl ?_
                    exact ih _ (by omega) (k + 1) _ _ _ _ _ _ _ _ _ _ _ _ _ rfl (by omega) hm88 ho
              exact LP68 _ 0 _ _ _ _ _ _ _ _ _ _ _ _ _ rfl (Nat.zero_le _) hm3 ho
            · refine ev_aload_n dX7_mixText_38 rfl rfl ?_
              refine ev_aload_n dX7_mixText_39 rfl rfl ?_
              refine ev_iload_n dX7_mixText_40 rfl rfl ?_
              refine ev_iload_n dX7_mixText_41 rfl rfl ?_
              refine ev_iconst (nI 4) dX7_mixText_42 rfl ?_
              refine ev_idivN dX7_mixText_43 (by omega) (by omega) (by omega) ?_
              refine ev_iload_n dX7_mixText_44 rfl rfl ?_
              refine ev_iconst (nI 4) dX7_mixText_45 rfl ?_
              refine ev_iremN dX7_mixText_46 (by omega) (by omega) (by omega) ?_
              refine ev_callVU3 dX7_mixText_47 cal_X7_signNow lk_7_197 ⟨(Nat.le_of_ble_eq_true rfl), (Nat.le_of_ble_eq_true rfl)⟩ rfl m0 (Nat.le_of_ble_eq_true rfl) (k_signNow hm3 hr hT t (k / 4) (k % 4) ht (by omega) (by omega)) (fun v h47 hq47 => ?_)
              refine ev_pc (pc' := 50) rfl ?_
              obtain ⟨rfl, ⟨_, _, _, _, _, _, _, _, _, _, _, _, hm47⟩, o47⟩ := hq47
              have ho := ho.tr o47
              obtain ⟨m0, m1, m2, m3, m4, m5, m6, m7, m8, m9, m10, m11, m12⟩ := id hm47
              refine ev_i2l dX7_mixText_50 ?_
              refine ev_callVU1 dX7_mixText_51 cal_X7_mix lk_7_297 ⟨(Nat.le_of_ble_eq_true rfl), (Nat.le_of_ble_eq_true rfl)⟩ rfl m0 (Nat.le_of_ble_eq_true rfl) (k_mix hm47 _) (fun v h51 hq51 => ?_)
              obtain ⟨rfl, hm51, o51⟩ := hq51
              have ho := ho.tr o51
              obtain ⟨m0, m1, m2, m3, m4, m5, m6, m7, m8, m9, m10, m11, m12⟩ := id hm51
              refine ev_iincN (L' := [_, _, _, _]) 1 dX7_mixText_54 rfl rfl ?_
              refine ev_goto 27 dX7_mixText_57 rfl ?_
              refine ev_pc (pc' := 27) rfl ?_
              exact ih _ (by omega) (k + 1) _ _ _ _ _ _ _ _ _ _ _ _ _ rfl (by omega) hm51 ho
        exact LP27 _ 0 _ _ _ _ _ _ _ _ _ _ _ _ _ rfl (Nat.zero_le _) hm2 ho
      · refine ev_aload_n dX7_mixText_8 rfl rfl ?_
        refine ev_aload_n dX7_mixText_9 rfl rfl ?_
        refine ev_iload_n dX7_mixText_10 rfl rfl ?_
        refine ev_iload_n dX7_mixText_11 rfl rfl ?_
        refine ev_callVP2 dX7_mixText_12 cal_X7_textNow lk_7_239 ⟨(Nat.le_of_ble_eq_true rfl), (Nat.le_of_ble_eq_true rfl)⟩ rfl m0 (Nat.le_of_ble_eq_true rfl) (k_textNow hm2 hr hT t k ht (by omega)) ?_
        refine ev_i2l dX7_mixText_15 ?_
        refine ev_callVU1 dX7_mixText_16 cal_X7_mix lk_7_297 ⟨(Nat.le_of_ble_eq_true rfl), (Nat.le_of_ble_eq_true rfl)⟩ rfl m0 (Nat.le_of_ble_eq_true rfl) (k_mix hm2 _) (fun v h16 hq16 => ?_)
        obtain ⟨rfl, hm16, o16⟩ := hq16
        have ho := ho.tr o16
        obtain ⟨m0, m1, m2, m3, m4, m5, m6, m7, m8, m9, m10, m11, m12⟩ := id hm16
        refine ev_iincN (L' := [_, _, _, _]) 1 dX7_mixText_19 rfl rfl ?_
        refine ev_goto 2 dX7_mixText_22 rfl ?_
        refine ev_pc (pc' := 2) rfl ?_
        exact ih _ (by omega) (k + 1) _ _ _ _ _ _ _ _ _ _ _ _ _ rfl (by omega) hm16 ho
  exact LP2 _ 0 _ _ _ _ _ _ _ _ _ _ _ _ _ rfl (Nat.zero_le _) hm ho
