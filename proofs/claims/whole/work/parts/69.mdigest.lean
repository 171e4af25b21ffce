set_option maxHeartbeats 4000000 in
set_option maxRecDepth 100000 in
theorem k_digest {X : mX} {h : mH} {gz : Nat → Nat} {gc : Nat → Int64} {gs : Nat} {gh : Nat → Nat} {gk : Nat → Int64} {gl : Nat} {gb : Nat → Nat} {gt : Nat} {gr : Nat → Nat} {gm : Nat} {gp : Nat → Int64} {gq : Nat → Nat} {ge : Nat → Nat} {gn : Nat} {go : Nat → Nat} {gu : Nat} {gi : Bool} {ga : Nat → Int64} {gv : Nat → Nat} {gw : Nat} {gx : Int64} (hm : MN h gz gc gs gh gk gl gb gt gr gm gp gq ge gn go gu gi ga gv gw gx) {A : mAs} (hr : RelT gz gc (aT A)) (hT : InvT (aT A)) (hgs : gs = aN A) (hgl : gl = aB A) (hgb : ∀ j, j < gl → gb j = aD A j) (hl60 : gl ≤ 60) (hb : ∀ j, j < gl → gb j ≤ 200) (hsh : ShOK (aT A)) (hs2 : FP.dcmp (savD (aT A)) (savD (aT A)) = some .eq) : CnU X m_X7_digest [.ref 270] h (fun v h1 => v = some (.long (dgM A)) ∧ (∃ x, MS h1 gz gc gs gh gk gl gb 0 x) ∧ Out h h1 270 13) := by
  obtain ⟨m0, m1, m2, m3, m4, m5, m6, m7, m8, m9, m10, m11, m12⟩ := id hm
  have ho : Out h h 270 13 := Out.rf
  have hkp := hr.2.1.kp
  refine cn_of_ev (L0 := [_, _, _]) (by decide +kernel) rfl rfl (Nat.le_of_ble_eq_true rfl) rfl ?_
  refine ev_aload_n dX7_digest_0 rfl rfl ?_
  refine ev_iconst (nI 0) dX7_digest_1 rfl ?_
  refine em_pTh dX7_digest_2 lf_7_47 hm (fun h2 hm2 o2 => ?_)
  have ho := ho.tr o2
  obtain ⟨m0, m1, m2, m3, m4, m5, m6, m7, m8, m9, m10, m11, m12⟩ := id hm2
  refine ev_aload_n dX7_digest_5 rfl rfl ?_
  refine ev_ldc2 _ dX7_digest_6 lc_7_301 ?_
  refine em_pHa dX7_digest_9 lf_7_293 hm2 (fun h9 hm9 o9 => ?_)
  have ho := ho.tr o9
  obtain ⟨m0, m1, m2, m3, m4, m5, m6, m7, m8, m9, m10, m11, m12⟩ := id hm9
  refine ev_iconst (nI 0) dX7_digest_12 rfl ?_
  refine ev_istore_n (L' := [_, _, _]) dX7_digest_13 rfl (Nat.le_of_ble_eq_true rfl) rfl ?_
  refine ev_pc (pc' := 14) rfl ?_
  have LP14 : ∀ (mz : Nat) (k : Nat) (h3 : mH) (r : Nat → Nat) (m : Nat) (p : Nat → Int64) (q : Nat → Nat) (e : Nat → Nat) (n : Nat) (vo : Nat → Nat) (u : Nat) (ii : Bool) (a : Nat → Int64) (b : Nat → Nat) (c : Nat), 10 - k = mz → (k ≤ 10) → (MN h3 gz gc gs gh gk gl gb 0 r m p q e n vo u ii a b c (mxF (fun w => nI (cntV A w)) 2663 k)) → (Out h h3 270 13) → Ev X m_X7_digest B0 14 [.ref 270, .int (nI k), jk] [] h3 (fun o h1 => ∃ v, o = .inl v ∧ (v = some (.long (dgM A)) ∧ (∃ x, MS h1 gz gc gs gh gk gl gb 0 x) ∧ Out h h1 270 13)) := by
    intro mz
    induction mz using Nat.strongRecOn with
    | _ mz ih =>
      intro k h3 r m p q e n vo u ii a b c hmz hk hm3 ho
      obtain ⟨m0, m1, m2, m3, m4, m5, m6, m7, m8, m9, m10, m11, m12⟩ := id hm3
      refine ev_iload_n dX7_digest_14 rfl rfl ?_
      refine ev_bipush (nI 10) dX7_digest_15 rfl ?_
      refine ev_icmp_geN 36 dX7_digest_17 rfl (by omega) (by omega) (fun hc17 => ?_) (fun hc17 => ?_)
      · refine ev_pc (pc' := 36) rfl ?_
        have ek : k = 10 := by omega
        subst ek
        refine ev_iconst (nI 0) dX7_digest_36 rfl ?_
        refine ev_istore_n (L' := [_, _, _]) dX7_digest_37 rfl (Nat.le_of_ble_eq_true rfl) rfl ?_
        refine ev_pc (pc' := 38) rfl ?_
        have LP38 : ∀ (mz : Nat) (k : Nat) (h4 : mH) (r : Nat → Nat) (m : Nat) (p : Nat → Int64) (q : Nat → Nat) (e : Nat → Nat) (n : Nat) (vo : Nat → Nat) (u : Nat) (ii : Bool) (a : Nat → Int64) (b : Nat → Nat) (c : Nat), 5 - k = mz → (k ≤ 5) → (MN h4 gz gc gs gh gk gl gb 0 r m p q e n vo u ii a b c (mxF (fun k => nI (tV (aT A) k)) (dg1 A) k)) → (Out h h4 270 13) → Ev X m_X7_digest B0 38 [.ref 270, .int (nI k), jk] [] h4 (fun o h1 => ∃ v, o = .inl v ∧ (v = some (.long (dgM A)) ∧ (∃ x, MS h1 gz gc gs gh gk gl gb 0 x) ∧ Out h h1 270 13)) := by
          intro mz
          induction mz using Nat.strongRecOn with
          | _ mz ih =>
            intro k h4 r m p q e n vo u ii a b c hmz hk hm4 ho
            obtain ⟨m0, m1, m2, m3, m4, m5, m6, m7, m8, m9, m10, m11, m12⟩ := id hm4
            refine ev_iload_n dX7_digest_38 rfl rfl ?_
            refine ev_iconst (nI 5) dX7_digest_39 rfl ?_
            refine ev_icmp_geN 60 dX7_digest_40 rfl (by omega) (by omega) (fun hc40 => ?_) (fun hc40 => ?_)
            · refine ev_pc (pc' := 60) rfl ?_
              have ek : k = 5 := by omega
              subst ek
              refine ev_iconst (nI 0) dX7_digest_60 rfl ?_
              refine ev_istore_n (L' := [_, _, _]) dX7_digest_61 rfl (Nat.le_of_ble_eq_true rfl) rfl ?_
              refine ev_pc (pc' := 62) rfl ?_
              have LP62 : ∀ (mz : Nat) (k : Nat) (h5 : mH) (r : Nat → Nat) (m : Nat) (p : Nat → Int64) (q : Nat → Nat) (e : Nat → Nat) (n : Nat) (vo : Nat → Nat) (u : Nat) (ii : Bool) (a : Nat → Int64) (b : Nat → Nat) (c : Nat), 4 - k = mz → (k ≤ 4) → (MN h5 gz gc gs gh gk gl gb 0 r m p q e n vo u ii a b c (txN A (dg2 A) k)) → (Out h h5 270 13) → Ev X m_X7_digest B0 62 [.ref 270, .int (nI k), jk] [] h5 (fun o h1 => ∃ v, o = .inl v ∧ (v = some (.long (dgM A)) ∧ (∃ x, MS h1 gz gc gs gh gk gl gb 0 x) ∧ Out h h1 270 13)) := by
                intro mz
                induction mz using Nat.strongRecOn with
                | _ mz ih =>
                  intro k h5 r m p q e n vo u ii a b c hmz hk hm5 ho
                  obtain ⟨m0, m1, m2, m3, m4, m5, m6, m7, m8, m9, m10, m11, m12⟩ := id hm5
                  refine ev_iload_n dX7_digest_62 rfl rfl ?_
                  refine ev_iconst (nI 4) dX7_digest_63 rfl ?_
                  refine ev_icmp_geN 78 dX7_digest_64 rfl (by omega) (by omega) (fun hc64 => ?_) (fun hc64 => ?_)
                  · refine ev_pc (pc' := 78) rfl ?_
                    have ek : k = 4 := by omega
                    subst ek
                    refine ev_iconst (nI 0) dX7_digest_78 rfl ?_
                    refine ev_istore_n (L' := [_, _, _]) dX7_digest_79 rfl (Nat.le_of_ble_eq_true rfl) rfl ?_
                    refine ev_pc (pc' := 80) rfl ?_
                    have LP80 : ∀ (mz : Nat) (k : Nat) (h6 : mH) (r : Nat → Nat) (m : Nat) (p : Nat → Int64) (q : Nat → Nat) (e : Nat → Nat) (n : Nat) (vo : Nat → Nat) (u : Nat) (ii : Bool) (a : Nat → Int64) (b : Nat → Nat) (c : Nat), 60 - k = mz → (k ≤ 60) → (MN h6 gz gc gs gh gk gl gb 0 r m p q e n vo u ii a b c (slN (aT A) (dg3 A) k)) → (Out h h6 270 13) → Ev X m_X7_digest B0 80 [.ref 270, .int (nI k), jk] [] h6 (fun o h1 => ∃ v, o = .inl v ∧ (v = some (.long (dgM A)) ∧ (∃ x, MS h1 gz gc gs gh gk gl gb 0 x) ∧ Out h h1 270 13)) := by
                      intro mz
                      induction mz using Nat.strongRecOn with
                      | _ mz ih =>
                        intro k h6 r m p q e n vo u ii a b c hmz hk hm6 ho
                        have ihk := ih
                        obtain ⟨m0, m1, m2, m3, m4, m5, m6, m7, m8, m9, m10, m11, m12⟩ := id hm6
                        refine ev_iload_n dX7_digest_80 rfl rfl ?_
                        refine ev_bipush (nI 60) dX7_digest_81 rfl ?_
                        refine ev_icmp_geN 130 dX7_digest_83 rfl (by omega) (by omega) (fun hc83 => ?_) (fun hc83 => ?_)
                        · refine ev_pc (pc' := 130) rfl ?_
                          have ek : k = 60 := by omega
                          subst ek
                          refine ev_aload_n dX7_digest_130 rfl rfl ?_
                          refine ev_aload_n dX7_digest_131 rfl rfl ?_
                          refine ev_callVU0 dX7_digest_132 cal_X7_bestNow lk_7_284 ⟨(Nat.le_of_ble_eq_true rfl), (Nat.le_of_ble_eq_true rfl)⟩ rfl m0 (Nat.le_of_ble_eq_true rfl) (k_bestNow hm6 hr hT) (fun v h132 hq132 => ?_)
                          refine ev_pc (pc' := 135) rfl ?_
                          obtain ⟨rfl, ⟨_, _, _, _, _, _, _, _, _, _, _, _, hm132⟩, o132⟩ := hq132
                          have ho := ho.tr o132
                          obtain ⟨m0, m1, m2, m3, m4, m5, m6, m7, m8, m9, m10, m11, m12⟩ := id hm132
                          refine ev_i2l dX7_digest_135 ?_
                          refine ev_callVU1 dX7_digest_136 cal_X7_mix lk_7_297 ⟨(Nat.le_of_ble_eq_true rfl), (Nat.le_of_ble_eq_true rfl)⟩ rfl m0 (Nat.le_of_ble_eq_true rfl) (k_mix hm132 _) (fun v h136 hq136 => ?_)
                          obtain ⟨rfl, hm136, o136⟩ := hq136
                          have ho := ho.tr o136
                          obtain ⟨m0, m1, m2, m3, m4, m5, m6, m7, m8, m9, m10, m11, m12⟩ := id hm136
                          refine ev_aload_n dX7_digest_139 rfl rfl ?_
                          refine ev_aload_n dX7_digest_140 rfl rfl ?_
                          refine ev_callVP0 dX7_digest_141 cal_X7_saved lk_7_287 ⟨(Nat.le_of_ble_eq_true rfl), (Nat.le_of_ble_eq_true rfl)⟩ rfl m0 (Nat.le_of_ble_eq_true rfl) (k_saved hm136 hr hT hsh) ?_
                          refine ev_callSP1 dX7_digest_144 cal_Jxe99ae_doubleToLongBits_ccdee lk_7_306 ⟨(Nat.le_of_ble_eq_true rfl), (Nat.le_of_ble_eq_true rfl)⟩ rfl (Nat.le_of_ble_eq_true rfl) (c_dtl _ hs2) ?_
                          refine ev_callVU1 dX7_digest_147 cal_X7_mix lk_7_297 ⟨(Nat.le_of_ble_eq_true rfl), (Nat.le_of_ble_eq_true rfl)⟩ rfl m0 (Nat.le_of_ble_eq_true rfl) (k_mix hm136 _) (fun v h147 hq147 => ?_)
                          obtain ⟨rfl, hm147, o147⟩ := hq147
                          have ho := ho.tr o147
                          obtain ⟨m0, m1, m2, m3, m4, m5, m6, m7, m8, m9, m10, m11, m12⟩ := id hm147
                          refine ev_aload_n dX7_digest_150 rfl rfl ?_
                          refine ev_aload_n dX7_digest_151 rfl rfl ?_
                          refine ev_getfield dX7_digest_152 lf_7_145 m0 rfl ?_
                          refine ev_i2l dX7_digest_155 ?_
                          refine ev_callVU1 dX7_digest_156 cal_X7_mix lk_7_297 ⟨(Nat.le_of_ble_eq_true rfl), (Nat.le_of_ble_eq_true rfl)⟩ rfl m0 (Nat.le_of_ble_eq_true rfl) (k_mix hm147 _) (fun v h156 hq156 => ?_)
                          obtain ⟨rfl, hm156, o156⟩ := hq156
                          have ho := ho.tr o156
                          obtain ⟨m0, m1, m2, m3, m4, m5, m6, m7, m8, m9, m10, m11, m12⟩ := id hm156
                          refine ev_iconst (nI 0) dX7_digest_159 rfl ?_
                          refine ev_istore_n (L' := [_, _, _]) dX7_digest_160 rfl (Nat.le_of_ble_eq_true rfl) rfl ?_
                          refine ev_pc (pc' := 161) rfl ?_
                          have e7 : 31 * (31 * (31 * slN (aT A) (dg3 A) 60 + (nI (bsD (aT A) 8).1).toInt64) + (savD (aT A)).toInt64) + (nI gl).toInt64 = dg7 A := by rw [hgl]; rfl
                          rw [e7] at hm156
                          refine ev_fgt 2 (L' := [_, _, _]) rfl ?_
                          have LP161 : ∀ (mz : Nat) (k : Nat) (h8 : mH) (r : Nat → Nat) (m : Nat) (p : Nat → Int64) (q : Nat → Nat) (e : Nat → Nat) (n : Nat) (vo : Nat → Nat) (u : Nat) (ii : Bool) (a : Nat → Int64) (b : Nat → Nat) (c : Nat), gl - k = mz → (k ≤ gl) → (MN h8 gz gc gs gh gk gl gb 0 r m p q e n vo u ii a b c (mxF (fun k => nI (aD A k)) (dg7 A) k)) → (Out h h8 270 13) → Ev X m_X7_digest B0 161 [.ref 270, .int (nI k), jk] [] h8 (fun o h1 => ∃ v, o = .inl v ∧ (v = some (.long (dgM A)) ∧ (∃ x, MS h1 gz gc gs gh gk gl gb 0 x) ∧ Out h h1 270 13)) := by
                            intro mz
                            induction mz using Nat.strongRecOn with
                            | _ mz ih =>
                              intro k h8 r m p q e n vo u ii a b c hmz hk hm8 ho
                              obtain ⟨m0, m1, m2, m3, m4, m5, m6, m7, m8, m9, m10, m11, m12⟩ := id hm8
                              refine ev_iload_n dX7_digest_161 rfl rfl ?_
                              refine ev_aload_n dX7_digest_162 rfl rfl ?_
                              refine ev_getfield dX7_digest_163 lf_7_145 m0 rfl ?_
                              refine ev_icmp_geN 186 dX7_digest_166 rfl (by omega) (by omega) (fun hc166 => ?_) (fun hc166 => ?_)
                              · refine ev_pc (pc' := 186) rfl ?_
                                have ek : k = gl := by omega
                                rw [ek] at hm8
                                obtain ⟨m0, m1, m2, m3, m4, m5, m6, m7, m8, m9, m10, m11, m12⟩ := id hm8
                                refine ev_aload_n dX7_digest_186 rfl rfl ?_
                                refine ev_getfield dX7_digest_187 lf_7_293 m0 rfl ?_
                                refine ev_lreturn dX7_digest_190 rfl (Or.inl rfl) (Nat.zero_le _) (Nat.zero_le _) ?_
                                rw [show mxF (fun k => nI (aD A k)) (dg7 A) gl = dgM A from by rw [dgM, hgl]]
                                exact ⟨_, rfl, rfl, ⟨_, hm8.ms⟩, ho⟩
                              · refine ev_aload_n dX7_digest_169 rfl rfl ?_
                                refine ev_aload_n dX7_digest_170 rfl rfl ?_
                                refine ev_getfield dX7_digest_171 lf_7_23 m0 rfl ?_
                                refine ev_iload_n dX7_digest_174 rfl rfl ?_
                                refine ev_ialoadF dX7_digest_175 m5 (by omega) (by decide) ?_
                                rw [hgb k (by omega)]
                                refine ev_i2l dX7_digest_176 ?_
                                refine ev_callVU1 dX7_digest_177 cal_X7_mix lk_7_297 ⟨(Nat.le_of_ble_eq_true rfl), (Nat.le_of_ble_eq_true rfl)⟩ rfl m0 (Nat.le_of_ble_eq_true rfl) (k_mix hm8 _) (fun v h177 hq177 => ?_)
                                obtain ⟨rfl, hm177, o177⟩ := hq177
                                have ho := ho.tr o177
                                obtain ⟨m0, m1, m2, m3, m4, m5, m6, m7, m8, m9, m10, m11, m12⟩ := id hm177
                                refine ev_iincN (L' := [_, _, _]) 1 dX7_digest_180 rfl rfl ?_
                                refine ev_goto 161 dX7_digest_183 rfl ?_
                                refine ev_pc (pc' := 161) rfl ?_
                                exact ih _ (by omega) (k + 1) _ _ _ _ _ _ _ _ _ _ _ _ _ rfl (by omega) hm177 ho
                          exact LP161 _ 0 _ _ _ _ _ _ _ _ _ _ _ _ _ rfl (Nat.zero_le _) hm156 ho
                        · refine ev_aload_n dX7_digest_86 rfl rfl ?_
                          refine ev_iload_n dX7_digest_87 rfl rfl ?_
                          refine ev_callVP1 dX7_digest_88 cal_X7_isKept lk_7_82 ⟨(Nat.le_of_ble_eq_true rfl), (Nat.le_of_ble_eq_true rfl)⟩ rfl m0 (Nat.le_of_ble_eq_true rfl) (k_isKept hm6 k (by omega) (by have := hkp k (by omega); omega)) ?_
                          refine ev_if_eqB 124 dX7_digest_91 rfl (fun hc91 => ?_) (fun hc91 => ?_)
                          · refine ev_pc (pc' := 124) rfl ?_
                            have hnf : isF (tS (aT A)) k = true := isF_iff.mpr (Classical.byContradiction (fun z => of_decide_eq_false hc91 ((hr.2.1.pos (by omega)).mpr z)))
                            rw [show slN (aT A) (dg3 A) k = slN (aT A) (dg3 A) (k + 1) from by rw [slN, slM, if_pos hnf]] at hm6
                            refine ev_iincN (L' := [_, _, _]) 1 dX7_digest_124 rfl rfl ?_
                            refine ev_goto 80 dX7_digest_127 rfl ?_
                            refine ev_pc (pc' := 80) rfl ?_
                            exact ihk _ (by omega) (k + 1) _ _ _ _ _ _ _ _ _ _ _ _ _ rfl (by omega) hm6 ho
                          · refine ev_pc (pc' := 94) rfl ?_
                            have hnf : ¬ isF (tS (aT A)) k = true := fun z => (hr.2.1.pos (by omega)).mp (of_decide_eq_true hc91) (isF_iff.mp z)
                            refine ev_aload_n dX7_digest_94 rfl rfl ?_
                            refine ev_iload_n dX7_digest_95 rfl rfl ?_
                            refine ev_i2l dX7_digest_96 ?_
                            refine ev_callVU1 dX7_digest_97 cal_X7_mix lk_7_297 ⟨(Nat.le_of_ble_eq_true rfl), (Nat.le_of_ble_eq_true rfl)⟩ rfl m0 (Nat.le_of_ble_eq_true rfl) (k_mix hm6 _) (fun v h97 hq97 => ?_)
                            obtain ⟨rfl, hm97, o97⟩ := hq97
                            have ho := ho.tr o97
                            obtain ⟨m0, m1, m2, m3, m4, m5, m6, m7, m8, m9, m10, m11, m12⟩ := id hm97
                            refine ev_iconst (nI 0) dX7_digest_100 rfl ?_
                            refine ev_istore_n (L' := [_, _, _]) dX7_digest_101 rfl (Nat.le_of_ble_eq_true rfl) rfl ?_
                            refine ev_pc (pc' := 102) rfl ?_
                            have LP102 : ∀ (mz : Nat) (w : Nat) (h7 : mH) (r2 : Nat → Nat) (m2x : Nat) (p2 : Nat → Int64) (q2 : Nat → Nat) (e2 : Nat → Nat) (n2 : Nat) (vo2 : Nat → Nat) (u2 : Nat) (ii2 : Bool) (a2 : Nat → Int64) (b2 : Nat → Nat) (c2 : Nat), 5 - w = mz → (w ≤ 5) → (MN h7 gz gc gs gh gk gl gb 0 r2 m2x p2 q2 e2 n2 vo2 u2 ii2 a2 b2 c2 (mxF (sltV (aT A) k) (31 * slN (aT A) (dg3 A) k + (nI k).toInt64) w)) → (Out h h7 270 13) → Ev X m_X7_digest B0 102 [.ref 270, .int (nI k), .int (nI w)] [] h7 (fun o h1 => ∃ v, o = .inl v ∧ (v = some (.long (dgM A)) ∧ (∃ x, MS h1 gz gc gs gh gk gl gb 0 x) ∧ Out h h1 270 13)) := by
                              intro mz
                              induction mz using Nat.strongRecOn with
                              | _ mz ih =>
                                intro w h7 r2 m2 p2 q2 e2 n2 vo2 u2 ii2 a2 b2 c2 hmz hw hm7 ho
                                obtain ⟨m0, m1, m2, m3, m4, m5, m6, m7, m8, m9, m10, m11, m12⟩ := id hm7
                                refine ev_iload_n dX7_digest_102 rfl rfl ?_
                                refine ev_iconst (nI 5) dX7_digest_103 rfl ?_
                                refine ev_icmp_geN 124 dX7_digest_104 rfl (by omega) (by omega) (fun hc104 => ?_) (fun hc104 => ?_)
                                · refine ev_pc (pc' := 124) rfl ?_
                                  have ew : w = 5 := by omega
                                  subst ew
                                  refine ev_fgt 2 (L' := [_, _, _]) rfl ?_
                                  rw [show mxF (sltV (aT A) k) (31 * slN (aT A) (dg3 A) k + (nI k).toInt64) 5 = slN (aT A) (dg3 A) (k + 1) from by rw [slN, slM, if_neg hnf]] at hm7
                                  refine ev_iincN (L' := [_, _, _]) 1 dX7_digest_124 rfl rfl ?_
                                  refine ev_goto 80 dX7_digest_127 rfl ?_
                                  refine ev_pc (pc' := 80) rfl ?_
                                  exact ihk _ (by omega) (k + 1) _ _ _ _ _ _ _ _ _ _ _ _ _ rfl (by omega) hm7 ho
                                · refine ev_aload_n dX7_digest_107 rfl rfl ?_
                                  refine ev_aload_n dX7_digest_108 rfl rfl ?_
                                  refine ev_iload_n dX7_digest_109 rfl rfl ?_
                                  refine ev_iload_n dX7_digest_110 rfl rfl ?_
                                  refine ev_callVP2 dX7_digest_111 cal_X7_slotNow lk_7_224 ⟨(Nat.le_of_ble_eq_true rfl), (Nat.le_of_ble_eq_true rfl)⟩ rfl m0 (Nat.le_of_ble_eq_true rfl) ((show CnP X m_X7_slotNow _ _ (some (.int (sltV (aT A) k w))) from by have z := k_slotNow (X := X) hm7 hr hT k w (by omega) (by omega); rwa [if_neg hnf] at z)) ?_
                                  refine ev_i2l dX7_digest_114 ?_
                                  refine ev_callVU1 dX7_digest_115 cal_X7_mix lk_7_297 ⟨(Nat.le_of_ble_eq_true rfl), (Nat.le_of_ble_eq_true rfl)⟩ rfl m0 (Nat.le_of_ble_eq_true rfl) (k_mix hm7 _) (fun v h115 hq115 => ?_)
                                  obtain ⟨rfl, hm115, o115⟩ := hq115
                                  have ho := ho.tr o115
                                  obtain ⟨m0, m1, m2, m3, m4, m5, m6, m7, m8, m9, m10, m11, m12⟩ := id hm115
                                  refine ev_iincN (L' := [_, _, _]) 1 dX7_digest_118 rfl rfl ?_
                                  refine ev_goto 102 dX7_digest_121 rfl ?_
                                  refine ev_pc (pc' := 102) rfl ?_
                                  exact ih _ (by omega) (w + 1) _ _ _ _ _ _ _ _ _ _ _ _ _ rfl (by omega) hm115 ho
                            exact LP102 _ 0 _ _ _ _ _ _ _ _ _ _ _ _ _ rfl (Nat.zero_le _) hm97 ho
                    exact LP80 _ 0 _ _ _ _ _ _ _ _ _ _ _ _ _ rfl (Nat.zero_le _) hm5 ho
                  · refine ev_aload_n dX7_digest_67 rfl rfl ?_
                    refine ev_iload_n dX7_digest_68 rfl rfl ?_
                    refine ev_callVU1 dX7_digest_69 cal_X7_mixText lk_7_303 ⟨(Nat.le_of_ble_eq_true rfl), (Nat.le_of_ble_eq_true rfl)⟩ rfl m0 (Nat.le_of_ble_eq_true rfl) (k_mixText hm5 hr hT hgl hgb hl60 hb k (by omega)) (fun v h69 hq69 => ?_)
                    refine ev_pc (pc' := 72) rfl ?_
                    obtain ⟨rfl, ⟨_, _, _, _, _, _, _, _, _, _, _, _, hm69⟩, o69⟩ := hq69
                    have ho := ho.tr o69
                    obtain ⟨m0, m1, m2, m3, m4, m5, m6, m7, m8, m9, m10, m11, m12⟩ := id hm69
                    refine ev_iincN (L' := [_, _, _]) 1 dX7_digest_72 rfl rfl ?_
                    refine ev_goto 62 dX7_digest_75 rfl ?_
                    refine ev_pc (pc' := 62) rfl ?_
                    exact ih _ (by omega) (k + 1) _ _ _ _ _ _ _ _ _ _ _ _ _ rfl (by omega) hm69 ho
              exact LP62 _ 0 _ _ _ _ _ _ _ _ _ _ _ _ _ rfl (Nat.zero_le _) hm4 ho
            · refine ev_aload_n dX7_digest_43 rfl rfl ?_
              refine ev_aload_n dX7_digest_44 rfl rfl ?_
              refine ev_getfield dX7_digest_45 lf_7_7 m0 rfl ?_
              refine ev_iload_n dX7_digest_48 rfl rfl ?_
              refine ev_ialoadF dX7_digest_49 m1 (by omega) (by decide) ?_
              rw [hr.1 k (by omega)]
              refine ev_i2l dX7_digest_50 ?_
              refine ev_callVU1 dX7_digest_51 cal_X7_mix lk_7_297 ⟨(Nat.le_of_ble_eq_true rfl), (Nat.le_of_ble_eq_true rfl)⟩ rfl m0 (Nat.le_of_ble_eq_true rfl) (k_mix hm4 _) (fun v h51 hq51 => ?_)
              obtain ⟨rfl, hm51, o51⟩ := hq51
              have ho := ho.tr o51
              obtain ⟨m0, m1, m2, m3, m4, m5, m6, m7, m8, m9, m10, m11, m12⟩ := id hm51
              refine ev_iincN (L' := [_, _, _]) 1 dX7_digest_54 rfl rfl ?_
              refine ev_goto 38 dX7_digest_57 rfl ?_
              refine ev_pc (pc' := 38) rfl ?_
              exact ih _ (by omega) (k + 1) _ _ _ _ _ _ _ _ _ _ _ _ _ rfl (by omega) hm51 ho
        exact LP38 _ 0 _ _ _ _ _ _ _ _ _ _ _ _ _ rfl (Nat.zero_le _) hm3 ho
      · refine ev_aload_n dX7_digest_20 rfl rfl ?_
        refine ev_aload_n dX7_digest_21 rfl rfl ?_
        refine ev_iload_n dX7_digest_22 rfl rfl ?_
        refine ev_callVP1 dX7_digest_23 cal_X7_counted lk_7_266 ⟨(Nat.le_of_ble_eq_true rfl), (Nat.le_of_ble_eq_true rfl)⟩ rfl m0 (Nat.le_of_ble_eq_true rfl) (k_counted hm3 hr hT hgs k (by omega)) ?_
        refine ev_i2l dX7_digest_26 ?_
        refine ev_callVU1 dX7_digest_27 cal_X7_mix lk_7_297 ⟨(Nat.le_of_ble_eq_true rfl), (Nat.le_of_ble_eq_true rfl)⟩ rfl m0 (Nat.le_of_ble_eq_true rfl) (k_mix hm3 _) (fun v h27 hq27 => ?_)
        obtain ⟨rfl, hm27, o27⟩ := hq27
        have ho := ho.tr o27
        obtain ⟨m0, m1, m2, m3, m4, m5, m6, m7, m8, m9, m10, m11, m12⟩ := id hm27
        refine ev_iincN (L' := [_, _, _]) 1 dX7_digest_30 rfl rfl ?_
        refine ev_goto 14 dX7_digest_33 rfl ?_
        refine ev_pc (pc' := 14) rfl ?_
        exact ih _ (by omega) (k + 1) _ _ _ _ _ _ _ _ _ _ _ _ _ rfl (by omega) hm27 ho
  exact LP14 _ 0 _ _ _ _ _ _ _ _ _ _ _ _ _ rfl (Nat.zero_le _) hm9 ho
