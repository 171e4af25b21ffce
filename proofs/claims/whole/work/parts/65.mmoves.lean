set_option maxHeartbeats 4000000 in
set_option maxRecDepth 100000 in
theorem k_save {X : mX} {h : mH} {gz : Nat → Nat} {gc : Nat → Int64} {gs : Nat} {gh : Nat → Nat} {gk : Nat → Int64} {gl : Nat} {gb : Nat → Nat} {gt : Nat} {gr : Nat → Nat} {gm : Nat} {gp : Nat → Int64} {gq : Nat → Nat} {ge : Nat → Nat} {gn : Nat} {go : Nat → Nat} {gu : Nat} {gi : Bool} {ga : Nat → Int64} {gv : Nat → Nat} {gw : Nat} {gx : Int64} (hm : MN h gz gc gs gh gk gl gb gt gr gm gp gq ge gn go gu gi ga gv gw gx) {T : mSt} (hr : RelT gz gc T) (hT : InvT T) {n : Nat} {Ts : Nat → mSt} (hh : HisR gs gh gk n Ts) (hI : ∀ i, i < n → InvT (Ts i)) (hn6 : n ≤ 6) : CnU X m_X7_save [.ref 270] h (fun v h1 => v = none ∧ (∃ s H K, MN h1 gz gc s H K gl gb gt gr gm gp gq ge gn go gu gi ga gv gw gx ∧ HisR s H K (pshN n) (pshT n Ts T)) ∧ Out h h1 270 13) := by
  obtain ⟨m0, m1, m2, m3, m4, m5, m6, m7, m8, m9, m10, m11, m12⟩ := id hm
  have ho : Out h h 270 13 := Out.rf
  obtain ⟨hgs, hh2⟩ := id hh
  refine cn_of_ev (L0 := [_, _]) (by decide +kernel) rfl rfl (Nat.le_of_ble_eq_true rfl) rfl ?_
  have TAIL : ∀ (h2 : mH) (m : Nat) (G : Nat → Nat) (GK : Nat → Int64), m ≤ 5 → pshN n = m + 1 → (∀ i, i = m → pshT n Ts T i = T) → (∀ i, i < m → RelT (fun k => G (611 * i + k)) (fun k => GK (60 * i + k)) (pshT n Ts T i)) → (∀ i, i < m → InvT (pshT n Ts T i)) → MN h2 gz gc m G GK gl gb gt gr gm gp gq ge gn go gu gi ga gv gw gx → Out h h2 270 13 → Ev X m_X7_save B0 83 [.ref 270, jk] [] h2 (fun o h1 => ∃ v, o = .inl v ∧ (v = none ∧ (∃ s H K, MN h1 gz gc s H K gl gb gt gr gm gp gq ge gn go gu gi ga gv gw gx ∧ HisR s H K (pshN n) (pshT n Ts T)) ∧ Out h h1 270 13)) := by
    intro h2 m G GK hm5 hpn hTm hG hGI hm2 ho
    refine ev_iconst (nI 0) dX7_save_83 rfl ?_
    refine ev_istore_n (L' := [_, _]) dX7_save_84 rfl (Nat.le_of_ble_eq_true rfl) rfl ?_
    refine ev_pc (pc' := 85) rfl ?_
    have LP85 : ∀ (mz : Nat) (k : Nat) (h3 : mH) (H : Nat → Nat), 611 - k = mz → (k ≤ 611) → (MN h3 gz gc m H GK gl gb gt gr gm gp gq ge gn go gu gi ga gv gw gx) → (Out h h3 270 13) → (∀ j, j < k → H (611 * m + j) = gz j) → (∀ q, q < 611 * m → H q = G q) → Ev X m_X7_save B0 85 [.ref 270, .int (nI k)] [] h3 (fun o h1 => ∃ v, o = .inl v ∧ (v = none ∧ (∃ s H K, MN h1 gz gc s H K gl gb gt gr gm gp gq ge gn go gu gi ga gv gw gx ∧ HisR s H K (pshN n) (pshT n Ts T)) ∧ Out h h1 270 13)) := by
      intro mz
      induction mz using Nat.strongRecOn with
      | _ mz ih =>
        intro k h3 H hmz hk hm3 ho hC1 hC2
        obtain ⟨m0, m1, m2, m3, m4, m5, m6, m7, m8, m9, m10, m11, m12⟩ := id hm3
        refine ev_iload_n dX7_save_85 rfl rfl ?_
        refine ev_sipush (nI 611) dX7_save_86 rfl ?_
        refine ev_icmp_geN 119 dX7_save_89 rfl (by omega) (by omega) (fun hc89 => ?_) (fun hc89 => ?_)
        · refine ev_pc (pc' := 119) rfl ?_
          refine ev_iconst (nI 0) dX7_save_119 rfl ?_
          refine ev_istore_n (L' := [_, _]) dX7_save_120 rfl (Nat.le_of_ble_eq_true rfl) rfl ?_
          refine ev_pc (pc' := 121) rfl ?_
          have e611 : k = 611 := by omega
          subst e611
          have LP121 : ∀ (mz : Nat) (k : Nat) (h4 : mH) (K : Nat → Int64), 60 - k = mz → (k ≤ 60) → (MN h4 gz gc m H K gl gb gt gr gm gp gq ge gn go gu gi ga gv gw gx) → (Out h h4 270 13) → (∀ j, j < k → K (60 * m + j) = gc j) → (∀ q, q < 60 * m → K q = GK q) → Ev X m_X7_save B0 121 [.ref 270, .int (nI k)] [] h4 (fun o h1 => ∃ v, o = .inl v ∧ (v = none ∧ (∃ s H K, MN h1 gz gc s H K gl gb gt gr gm gp gq ge gn go gu gi ga gv gw gx ∧ HisR s H K (pshN n) (pshT n Ts T)) ∧ Out h h1 270 13)) := by
            intro mz
            induction mz using Nat.strongRecOn with
            | _ mz ih =>
              intro k h4 K hmz hk hm4 ho hD1 hD2
              obtain ⟨m0, m1, m2, m3, m4, m5, m6, m7, m8, m9, m10, m11, m12⟩ := id hm4
              refine ev_iload_n dX7_save_121 rfl rfl ?_
              refine ev_bipush (nI 60) dX7_save_122 rfl ?_
              refine ev_icmp_geN 153 dX7_save_124 rfl (by omega) (by omega) (fun hc124 => ?_) (fun hc124 => ?_)
              · refine ev_aload_n dX7_save_153 rfl rfl ?_
                refine ev_dup dX7_save_154 rfl ?_
                refine ev_getfield dX7_save_155 lf_7_51 m0 rfl ?_
                refine ev_iconst (nI 1) dX7_save_158 rfl ?_
                refine ev_iaddN dX7_save_159 ?_
                refine em_pSt dX7_save_160 lf_7_51 hm4 (fun h160 hm160 o160 => ?_)
                have ho := ho.tr o160
                obtain ⟨m0, m1, m2, m3, m4, m5, m6, m7, m8, m9, m10, m11, m12⟩ := id hm160
                refine ev_return dX7_save_163 rfl (Or.inl rfl) (Nat.zero_le _) (Nat.zero_le _) ?_
                refine ⟨none, rfl, rfl, ⟨_, _, _, hm160, hpn.symm, fun i hi => ?_⟩, ho⟩
                have hi' : i < m + 1 := by omega
                by_cases ei : i = m
                · rw [hTm i ei]
                  refine hr.congr hT (fun j hj => ?_) (fun j hj => ?_)
                  · show H (611 * i + j) = gz j
                    rw [ei]; exact hC1 j (by omega)
                  · show K (60 * i + j) = gc j
                    rw [ei]; exact hD1 j (by omega)
                · refine (hG i (by omega)).congr (hGI i (by omega)) (fun j hj => ?_) (fun j hj => ?_)
                  · show H (611 * i + j) = G (611 * i + j)
                    exact hC2 _ (by omega)
                  · show K (60 * i + j) = GK (60 * i + j)
                    exact hD2 _ (by omega)
              · refine ev_aload_n dX7_save_127 rfl rfl ?_
                refine ev_getfield dX7_save_128 lf_7_20 m0 rfl ?_
                refine ev_bipush (nI 60) dX7_save_131 rfl ?_
                refine ev_aload_n dX7_save_133 rfl rfl ?_
                refine ev_getfield dX7_save_134 lf_7_51 m0 rfl ?_
                refine ev_imulN dX7_save_137 ?_
                refine ev_iload_n dX7_save_138 rfl rfl ?_
                refine ev_iaddN dX7_save_139 ?_
                refine ev_aload_n dX7_save_140 rfl rfl ?_
                refine ev_getfield dX7_save_141 lf_7_13 m0 rfl ?_
                refine ev_iload_n dX7_save_144 rfl rfl ?_
                refine ev_laloadN dX7_save_145 m2 (by omega) (by decide) ?_
                refine em_lCH dX7_save_146 hm4 (by omega) (fun h146 hm146 o146 => ?_)
                have ho := ho.tr o146
                obtain ⟨m0, m1, m2, m3, m4, m5, m6, m7, m8, m9, m10, m11, m12⟩ := id hm146
                refine ev_iincN (L' := [_, _]) 1 dX7_save_147 rfl rfl ?_
                refine ev_goto 121 dX7_save_150 rfl ?_
                refine ev_pc (pc' := 121) rfl ?_
                refine ih _ (by omega) (k + 1) _ _ rfl (by omega) hm146 ho (fun j hj => ?_) (fun q hq => ?_)
                · by_cases e : j = k
                  · rw [e, upL_s]
                  · rw [upL_n (by omega)]; exact hD1 j (by omega)
                · rw [upL_n (by omega)]; exact hD2 q hq
          exact LP121 _ 0 h3 GK rfl (Nat.zero_le _) hm3 ho (fun j hj => absurd hj (Nat.not_lt_zero j)) (fun q _ => rfl)
        · refine ev_aload_n dX7_save_92 rfl rfl ?_
          refine ev_getfield dX7_save_93 lf_7_17 m0 rfl ?_
          refine ev_sipush (nI 611) dX7_save_96 rfl ?_
          refine ev_aload_n dX7_save_99 rfl rfl ?_
          refine ev_getfield dX7_save_100 lf_7_51 m0 rfl ?_
          refine ev_imulN dX7_save_103 ?_
          refine ev_iload_n dX7_save_104 rfl rfl ?_
          refine ev_iaddN dX7_save_105 ?_
          refine ev_aload_n dX7_save_106 rfl rfl ?_
          refine ev_getfield dX7_save_107 lf_7_7 m0 rfl ?_
          refine ev_iload_n dX7_save_110 rfl rfl ?_
          refine ev_ialoadF dX7_save_111 m1 (by omega) (by decide) ?_
          refine em_iH dX7_save_112 hm3 (by omega) (fun h112 hm112 o112 => ?_)
          have ho := ho.tr o112
          obtain ⟨m0, m1, m2, m3, m4, m5, m6, m7, m8, m9, m10, m11, m12⟩ := id hm112
          refine ev_iincN (L' := [_, _]) 1 dX7_save_113 rfl rfl ?_
          refine ev_goto 85 dX7_save_116 rfl ?_
          refine ev_pc (pc' := 85) rfl ?_
          refine ih _ (by omega) (k + 1) _ _ rfl (by omega) hm112 ho (fun j hj => ?_) (fun q hq => ?_)
          · by_cases e : j = k
            · rw [e, upN_s]
            · rw [upN_n (by omega)]; exact hC1 j (by omega)
          · rw [upN_n (by omega)]; exact hC2 q hq
    exact LP85 _ 0 h2 G rfl (Nat.zero_le _) hm2 ho (fun j hj => absurd hj (Nat.not_lt_zero j)) (fun q _ => rfl)
  refine ev_aload_n dX7_save_0 rfl rfl ?_
  refine ev_getfield dX7_save_1 lf_7_51 m0 rfl ?_
  refine ev_bipush (nI 6) dX7_save_4 rfl ?_
  refine ev_icmp_neN 83 dX7_save_6 rfl (by omega) (by omega) (fun hc6 => ?_) (fun hc6 => ?_)
  · refine ev_pc (pc' := 83) rfl ?_
    have eP : ∀ i, i < n → pshT n Ts T i = Ts i := fun i hi => by rw [pshT, if_pos (by omega), if_neg (by omega)]
    exact TAIL _ gs gh gk (by omega) (by rw [pshN, if_pos (by omega), hgs]) (fun i ei => by rw [pshT, if_pos (by omega), if_pos (by omega)]) (fun i hi => by rw [eP i (by omega)]; exact hh2 i (by omega)) (fun i hi => by rw [eP i (by omega)]; exact hI _ (by omega)) hm ho
  · refine ev_sipush (nI 611) dX7_save_9 rfl ?_
    refine ev_istore_n (L' := [_, _]) dX7_save_12 rfl (Nat.le_of_ble_eq_true rfl) rfl ?_
    refine ev_pc (pc' := 13) rfl ?_
    have LP13 : ∀ (mz : Nat) (k : Nat) (h2 : mH) (H : Nat → Nat), 3666 - k = mz → (611 ≤ k) → (k ≤ 3666) → (MN h2 gz gc gs H gk gl gb gt gr gm gp gq ge gn go gu gi ga gv gw gx) → (Out h h2 270 13) → (∀ q, q < k - 611 → H q = gh (q + 611)) → (∀ q, k - 611 ≤ q → H q = gh q) → Ev X m_X7_save B0 13 [.ref 270, .int (nI k)] [] h2 (fun o h1 => ∃ v, o = .inl v ∧ (v = none ∧ (∃ s H K, MN h1 gz gc s H K gl gb gt gr gm gp gq ge gn go gu gi ga gv gw gx ∧ HisR s H K (pshN n) (pshT n Ts T)) ∧ Out h h1 270 13)) := by
      intro mz
      induction mz using Nat.strongRecOn with
      | _ mz ih =>
        intro k h2 H hmz hk0 hk hm2 ho hA1 hA2
        obtain ⟨m0, m1, m2, m3, m4, m5, m6, m7, m8, m9, m10, m11, m12⟩ := id hm2
        refine ev_iload_n dX7_save_13 rfl rfl ?_
        refine ev_sipush (nI 3666) dX7_save_14 rfl ?_
        refine ev_icmp_geN 42 dX7_save_17 rfl (by omega) (by omega) (fun hc17 => ?_) (fun hc17 => ?_)
        · refine ev_pc (pc' := 42) rfl ?_
          refine ev_bipush (nI 60) dX7_save_42 rfl ?_
          refine ev_istore_n (L' := [_, _]) dX7_save_44 rfl (Nat.le_of_ble_eq_true rfl) rfl ?_
          refine ev_pc (pc' := 45) rfl ?_
          have LP45 : ∀ (mz : Nat) (k : Nat) (h3 : mH) (K : Nat → Int64), 360 - k = mz → (60 ≤ k) → (k ≤ 360) → (MN h3 gz gc gs H K gl gb gt gr gm gp gq ge gn go gu gi ga gv gw gx) → (Out h h3 270 13) → (∀ q, q < k - 60 → K q = gk (q + 60)) → (∀ q, k - 60 ≤ q → K q = gk q) → Ev X m_X7_save B0 45 [.ref 270, .int (nI k)] [] h3 (fun o h1 => ∃ v, o = .inl v ∧ (v = none ∧ (∃ s H K, MN h1 gz gc s H K gl gb gt gr gm gp gq ge gn go gu gi ga gv gw gx ∧ HisR s H K (pshN n) (pshT n Ts T)) ∧ Out h h1 270 13)) := by
            intro mz
            induction mz using Nat.strongRecOn with
            | _ mz ih =>
              intro k h3 K hmz hk0 hk hm3 ho hB1 hB2
              obtain ⟨m0, m1, m2, m3, m4, m5, m6, m7, m8, m9, m10, m11, m12⟩ := id hm3
              refine ev_iload_n dX7_save_45 rfl rfl ?_
              refine ev_sipush (nI 360) dX7_save_46 rfl ?_
              refine ev_icmp_geN 73 dX7_save_49 rfl (by omega) (by omega) (fun hc49 => ?_) (fun hc49 => ?_)
              · refine ev_aload_n dX7_save_73 rfl rfl ?_
                refine ev_dup dX7_save_74 rfl ?_
                refine ev_getfield dX7_save_75 lf_7_51 m0 rfl ?_
                refine ev_iconst (nI 1) dX7_save_78 rfl ?_
                refine ev_isubN dX7_save_79 (by omega) ?_
                refine em_pSt dX7_save_80 lf_7_51 hm3 (fun h80 hm80 o80 => ?_)
                have ho := ho.tr o80
                obtain ⟨m0, m1, m2, m3, m4, m5, m6, m7, m8, m9, m10, m11, m12⟩ := id hm80
                refine ev_pc (pc' := 83) rfl ?_
                refine ev_fgt 1 (L' := [_, _]) rfl ?_
                have eP : ∀ i, i < 5 → pshT n Ts T i = Ts (i + 1) := fun i hi => by rw [pshT, if_neg (by omega), if_neg (by omega)]
                refine TAIL _ 5 H K (by omega) (by rw [pshN, if_neg (by omega)]) (fun i ei => by rw [pshT, if_neg (by omega), ei, if_pos rfl]) (fun i hi => ?_) (fun i hi => by rw [eP i hi]; exact hI _ (by omega)) (by rw [show (5 : Nat) = gs - 1 by omega]; exact hm80) ho
                rw [eP i hi]
                refine (hh2 (i + 1) (by omega)).congr (hI _ (by omega)) (fun j hj => ?_) (fun j hj => ?_)
                · show H (611 * i + j) = gh (611 * (i + 1) + j)
                  rw [hA1 _ (by omega)]
                  congr 1
                  omega
                · show K (60 * i + j) = gk (60 * (i + 1) + j)
                  rw [hB1 _ (by omega)]
                  congr 1
                  omega
              · refine ev_aload_n dX7_save_52 rfl rfl ?_
                refine ev_getfield dX7_save_53 lf_7_20 m0 rfl ?_
                refine ev_iload_n dX7_save_56 rfl rfl ?_
                refine ev_bipush (nI 60) dX7_save_57 rfl ?_
                refine ev_isubN dX7_save_59 (by omega) ?_
                refine ev_aload_n dX7_save_60 rfl rfl ?_
                refine ev_getfield dX7_save_61 lf_7_20 m0 rfl ?_
                refine ev_iload_n dX7_save_64 rfl rfl ?_
                refine ev_laloadN dX7_save_65 m4 (by omega) (by decide) ?_
                refine em_lCH dX7_save_66 hm3 (by omega) (fun h66 hm66 o66 => ?_)
                have ho := ho.tr o66
                obtain ⟨m0, m1, m2, m3, m4, m5, m6, m7, m8, m9, m10, m11, m12⟩ := id hm66
                refine ev_iincN (L' := [_, _]) 1 dX7_save_67 rfl rfl ?_
                refine ev_goto 45 dX7_save_70 rfl ?_
                refine ev_pc (pc' := 45) rfl ?_
                refine ih _ (by omega) (k + 1) _ _ rfl (by omega) (by omega) hm66 ho (fun q hq => ?_) (fun q hq => ?_)
                · by_cases e : q = k - 60
                  · rw [e, upL_s, hB2 k (by omega)]
                    congr 1
                    omega
                  · rw [upL_n e]; exact hB1 q (by omega)
                · rw [upL_n (by omega)]; exact hB2 q (by omega)
          exact LP45 _ 60 h2 gk rfl (by omega) (by omega) hm2 ho (fun q hq => by omega) (fun q _ => rfl)
        · refine ev_aload_n dX7_save_20 rfl rfl ?_
          refine ev_getfield dX7_save_21 lf_7_17 m0 rfl ?_
          refine ev_iload_n dX7_save_24 rfl rfl ?_
          refine ev_sipush (nI 611) dX7_save_25 rfl ?_
          refine ev_isubN dX7_save_28 (by omega) ?_
          refine ev_aload_n dX7_save_29 rfl rfl ?_
          refine ev_getfield dX7_save_30 lf_7_17 m0 rfl ?_
          refine ev_iload_n dX7_save_33 rfl rfl ?_
          refine ev_ialoadF dX7_save_34 m3 (by omega) (by decide) ?_
          refine em_iH dX7_save_35 hm2 (by omega) (fun h35 hm35 o35 => ?_)
          have ho := ho.tr o35
          obtain ⟨m0, m1, m2, m3, m4, m5, m6, m7, m8, m9, m10, m11, m12⟩ := id hm35
          refine ev_iincN (L' := [_, _]) 1 dX7_save_36 rfl rfl ?_
          refine ev_goto 13 dX7_save_39 rfl ?_
          refine ev_pc (pc' := 13) rfl ?_
          refine ih _ (by omega) (k + 1) _ _ rfl (by omega) (by omega) hm35 ho (fun q hq => ?_) (fun q hq => ?_)
          · by_cases e : q = k - 611
            · rw [e, upN_s, hA2 k (by omega)]
              congr 1
              omega
            · rw [upN_n e]; exact hA1 q (by omega)
          · rw [upN_n (by omega)]; exact hA2 q (by omega)
    exact LP13 _ 611 h gh rfl (by omega) (by omega) hm ho (fun q hq => by omega) (fun q _ => rfl)
set_option maxHeartbeats 4000000 in
set_option maxRecDepth 100000 in
theorem k_undo1 {X : mX} {h : mH} {gz : Nat → Nat} {gc : Nat → Int64} {gs : Nat} {gh : Nat → Nat} {gk : Nat → Int64} {gl : Nat} {gb : Nat → Nat} {gt : Nat} {gr : Nat → Nat} {gm : Nat} {gp : Nat → Int64} {gq : Nat → Nat} {ge : Nat → Nat} {gn : Nat} {go : Nat → Nat} {gu : Nat} {gi : Bool} {ga : Nat → Int64} {gv : Nat → Nat} {gw : Nat} {gx : Int64} (hm : MN h gz gc gs gh gk gl gb gt gr gm gp gq ge gn go gu gi ga gv gw gx) (hs : gs = 0) : CnU X m_X7_undo [.ref 270] h (fun v h1 => v = some (.int (nI 0)) ∧ MS h1 gz gc gs gh gk gl gb 1 gx ∧ Out h h1 270 13) := by
  obtain ⟨m0, m1, m2, m3, m4, m5, m6, m7, m8, m9, m10, m11, m12⟩ := id hm
  have ho : Out h h 270 13 := Out.rf
  refine cn_of_ev (L0 := [_, _]) (by decide +kernel) rfl rfl (Nat.le_of_ble_eq_true rfl) rfl ?_
  refine ev_aload_n dX7_undo_0 rfl rfl ?_
  refine ev_aload_n dX7_undo_1 rfl rfl ?_
  refine ev_getfield dX7_undo_2 lf_7_51 m0 rfl ?_
  refine ev_if_leN 12 dX7_undo_5 rfl (by omega) (fun hc5 => ?_) (fun hc5 => ?_)
  · refine ev_iconst (nI 1) dX7_undo_12 rfl ?_
    refine em_pTh dX7_undo_13 lf_7_47 hm (fun h13 hm13 o13 => ?_)
    have ho := ho.tr o13
    obtain ⟨m0, m1, m2, m3, m4, m5, m6, m7, m8, m9, m10, m11, m12⟩ := id hm13
    refine ev_aload_n dX7_undo_16 rfl rfl ?_
    refine ev_getfield dX7_undo_17 lf_7_47 m0 rfl ?_
    refine ev_if_leN 25 dX7_undo_20 rfl (by omega) (fun hc20 => ?_) (fun hc20 => ?_)
    · first | omega | exact absurd hc20 (by decide)
    · refine ev_iconst (nI 0) dX7_undo_23 rfl ?_
      refine ev_ireturn dX7_undo_24 rfl (Or.inl rfl) (Nat.zero_le _) (Nat.zero_le _) ?_
      exact ⟨_, rfl, rfl, hm13.ms, ho⟩
  · first | omega | exact absurd hc5 (by decide)
set_option maxHeartbeats 4000000 in
set_option maxRecDepth 100000 in
theorem k_undo {X : mX} {h : mH} {gz : Nat → Nat} {gc : Nat → Int64} {gs : Nat} {gh : Nat → Nat} {gk : Nat → Int64} {gl : Nat} {gb : Nat → Nat} {gt : Nat} {gr : Nat → Nat} {gm : Nat} {gp : Nat → Int64} {gq : Nat → Nat} {ge : Nat → Nat} {gn : Nat} {go : Nat → Nat} {gu : Nat} {gi : Bool} {ga : Nat → Int64} {gv : Nat → Nat} {gw : Nat} {gx : Int64} (hm : MN h gz gc gs gh gk gl gb gt gr gm gp gq ge gn go gu gi ga gv gw gx) {n : Nat} {Ts : Nat → mSt} (hh : HisR gs gh gk (n + 1) Ts) (hI : ∀ i, i < n + 1 → InvT (Ts i)) (hn6 : n + 1 ≤ 6) : CnU X m_X7_undo [.ref 270] h (fun v h1 => v = some (.int (nI n)) ∧ (∃ Z C, MS h1 Z C n gh gk gl gb 0 gx ∧ RelT Z C (Ts n)) ∧ Out h h1 270 13) := by
  obtain ⟨m0, m1, m2, m3, m4, m5, m6, m7, m8, m9, m10, m11, m12⟩ := id hm
  have ho : Out h h 270 13 := Out.rf
  obtain ⟨hgs, hh2⟩ := id hh
  refine cn_of_ev (L0 := [_, _]) (by decide +kernel) rfl rfl (Nat.le_of_ble_eq_true rfl) rfl ?_
  refine ev_aload_n dX7_undo_0 rfl rfl ?_
  refine ev_aload_n dX7_undo_1 rfl rfl ?_
  refine ev_getfield dX7_undo_2 lf_7_51 m0 rfl ?_
  refine ev_if_leN 12 dX7_undo_5 rfl (by omega) (fun hc5 => ?_) (fun hc5 => ?_)
  · first | omega | exact absurd hc5 (by decide)
  · refine ev_iconst (nI 0) dX7_undo_8 rfl ?_
    refine ev_goto 13 dX7_undo_9 rfl ?_
    refine em_pTh dX7_undo_13 lf_7_47 hm (fun h13 hm13 o13 => ?_)
    have ho := ho.tr o13
    obtain ⟨m0, m1, m2, m3, m4, m5, m6, m7, m8, m9, m10, m11, m12⟩ := id hm13
    refine ev_aload_n dX7_undo_16 rfl rfl ?_
    refine ev_getfield dX7_undo_17 lf_7_47 m0 rfl ?_
    refine ev_if_leN 25 dX7_undo_20 rfl (by omega) (fun hc20 => ?_) (fun hc20 => ?_)
    · refine ev_aload_n dX7_undo_25 rfl rfl ?_
      refine ev_dup dX7_undo_26 rfl ?_
      refine ev_getfield dX7_undo_27 lf_7_51 m0 rfl ?_
      refine ev_iconst (nI 1) dX7_undo_30 rfl ?_
      refine ev_isubN dX7_undo_31 (by omega) ?_
      refine em_pSt dX7_undo_32 lf_7_51 hm13 (fun h32 hm32 o32 => ?_)
      have ho := ho.tr o32
      obtain ⟨m0, m1, m2, m3, m4, m5, m6, m7, m8, m9, m10, m11, m12⟩ := id hm32
      refine ev_iconst (nI 0) dX7_undo_35 rfl ?_
      refine ev_istore_n (L' := [_, _]) dX7_undo_36 rfl (Nat.le_of_ble_eq_true rfl) rfl ?_
      refine ev_pc (pc' := 37) rfl ?_
      have LP37 : ∀ (mz : Nat) (k : Nat) (h2 : mH) (Z : Nat → Nat), 611 - k = mz → (k ≤ 611) → (MN h2 Z gc n gh gk gl gb 0 gr gm gp gq ge gn go gu gi ga gv gw gx) → (Out h h2 270 13) → (∀ j, j < k → Z j = gh (611 * n + j)) → Ev X m_X7_undo B0 37 [.ref 270, .int (nI k)] [] h2 (fun o h1 => ∃ v, o = .inl v ∧ (v = some (.int (nI n)) ∧ (∃ Z C, MS h1 Z C n gh gk gl gb 0 gx ∧ RelT Z C (Ts n)) ∧ Out h h1 270 13)) := by
        intro mz
        induction mz using Nat.strongRecOn with
        | _ mz ih =>
          intro k h2 Z hmz hk hm2 ho hC1
          obtain ⟨m0, m1, m2, m3, m4, m5, m6, m7, m8, m9, m10, m11, m12⟩ := id hm2
          refine ev_iload_n dX7_undo_37 rfl rfl ?_
          refine ev_sipush (nI 611) dX7_undo_38 rfl ?_
          refine ev_icmp_geN 71 dX7_undo_41 rfl (by omega) (by omega) (fun hc41 => ?_) (fun hc41 => ?_)
          · refine ev_pc (pc' := 71) rfl ?_
            have e611 : k = 611 := by omega
            subst e611
            refine ev_iconst (nI 0) dX7_undo_71 rfl ?_
            refine ev_istore_n (L' := [_, _]) dX7_undo_72 rfl (Nat.le_of_ble_eq_true rfl) rfl ?_
            refine ev_pc (pc' := 73) rfl ?_
            have LP73 : ∀ (mz : Nat) (k : Nat) (h3 : mH) (C : Nat → Int64), 60 - k = mz → (k ≤ 60) → (MN h3 Z C n gh gk gl gb 0 gr gm gp gq ge gn go gu gi ga gv gw gx) → (Out h h3 270 13) → (∀ j, j < k → C j = gk (60 * n + j)) → Ev X m_X7_undo B0 73 [.ref 270, .int (nI k)] [] h3 (fun o h1 => ∃ v, o = .inl v ∧ (v = some (.int (nI n)) ∧ (∃ Z C, MS h1 Z C n gh gk gl gb 0 gx ∧ RelT Z C (Ts n)) ∧ Out h h1 270 13)) := by
              intro mz
              induction mz using Nat.strongRecOn with
              | _ mz ih =>
                intro k h3 C hmz hk hm3 ho hD1
                obtain ⟨m0, m1, m2, m3, m4, m5, m6, m7, m8, m9, m10, m11, m12⟩ := id hm3
                refine ev_iload_n dX7_undo_73 rfl rfl ?_
                refine ev_bipush (nI 60) dX7_undo_74 rfl ?_
                refine ev_icmp_geN 105 dX7_undo_76 rfl (by omega) (by omega) (fun hc76 => ?_) (fun hc76 => ?_)
                · refine ev_aload_n dX7_undo_105 rfl rfl ?_
                  refine ev_getfield dX7_undo_106 lf_7_51 m0 rfl ?_
                  refine ev_ireturn dX7_undo_109 rfl (Or.inl rfl) (Nat.zero_le _) (Nat.zero_le _) ?_
                  exact ⟨_, rfl, rfl, ⟨Z, C, hm3.ms, (hh2 n (by omega)).congr (hI n (by omega)) (fun j hj => hC1 j (by omega)) (fun j hj => hD1 j (by omega))⟩, ho⟩
                · refine ev_aload_n dX7_undo_79 rfl rfl ?_
                  refine ev_getfield dX7_undo_80 lf_7_13 m0 rfl ?_
                  refine ev_iload_n dX7_undo_83 rfl rfl ?_
                  refine ev_aload_n dX7_undo_84 rfl rfl ?_
                  refine ev_getfield dX7_undo_85 lf_7_20 m0 rfl ?_
                  refine ev_bipush (nI 60) dX7_undo_88 rfl ?_
                  refine ev_aload_n dX7_undo_90 rfl rfl ?_
                  refine ev_getfield dX7_undo_91 lf_7_51 m0 rfl ?_
                  refine ev_imulN dX7_undo_94 ?_
                  refine ev_iload_n dX7_undo_95 rfl rfl ?_
                  refine ev_iaddN dX7_undo_96 ?_
                  refine ev_laloadN dX7_undo_97 m4 (by omega) (by decide) ?_
                  refine em_lC dX7_undo_98 hm3 (by omega) (fun h98 hm98 o98 => ?_)
                  have ho := ho.tr o98
                  obtain ⟨m0, m1, m2, m3, m4, m5, m6, m7, m8, m9, m10, m11, m12⟩ := id hm98
                  refine ev_iincN (L' := [_, _]) 1 dX7_undo_99 rfl rfl ?_
                  refine ev_goto 73 dX7_undo_102 rfl ?_
                  refine ev_pc (pc' := 73) rfl ?_
                  refine ih _ (by omega) (k + 1) _ _ rfl (by omega) hm98 ho (fun j hj => ?_)
                  by_cases e : j = k
                  · rw [e, upL_s]
                  · rw [upL_n (by omega)]; exact hD1 j (by omega)
            exact LP73 _ 0 h2 gc rfl (Nat.zero_le _) hm2 ho (fun j hj => absurd hj (Nat.not_lt_zero j))
          · refine ev_aload_n dX7_undo_44 rfl rfl ?_
            refine ev_getfield dX7_undo_45 lf_7_7 m0 rfl ?_
            refine ev_iload_n dX7_undo_48 rfl rfl ?_
            refine ev_aload_n dX7_undo_49 rfl rfl ?_
            refine ev_getfield dX7_undo_50 lf_7_17 m0 rfl ?_
            refine ev_sipush (nI 611) dX7_undo_53 rfl ?_
            refine ev_aload_n dX7_undo_56 rfl rfl ?_
            refine ev_getfield dX7_undo_57 lf_7_51 m0 rfl ?_
            refine ev_imulN dX7_undo_60 ?_
            refine ev_iload_n dX7_undo_61 rfl rfl ?_
            refine ev_iaddN dX7_undo_62 ?_
            refine ev_ialoadF dX7_undo_63 m3 (by omega) (by decide) ?_
            refine em_iZ dX7_undo_64 hm2 (by omega) (fun h64 hm64 o64 => ?_)
            have ho := ho.tr o64
            obtain ⟨m0, m1, m2, m3, m4, m5, m6, m7, m8, m9, m10, m11, m12⟩ := id hm64
            refine ev_iincN (L' := [_, _]) 1 dX7_undo_65 rfl rfl ?_
            refine ev_goto 37 dX7_undo_68 rfl ?_
            refine ev_pc (pc' := 37) rfl ?_
            refine ih _ (by omega) (k + 1) _ _ rfl (by omega) hm64 ho (fun j hj => ?_)
            by_cases e : j = k
            · rw [e, upN_s]
            · rw [upN_n (by omega)]; exact hC1 j (by omega)
      exact LP37 _ 0 _ gz rfl (Nat.zero_le _) (by rw [show n = gs - 1 by omega]; exact hm32) ho (fun j hj => absurd hj (Nat.not_lt_zero j))
    · first | omega | exact absurd hc20 (by decide)
set_option maxHeartbeats 4000000 in
set_option maxRecDepth 100000 in
theorem k_set1 {X : mX} {h : mH} {gz : Nat → Nat} {gc : Nat → Int64} {gs : Nat} {gh : Nat → Nat} {gk : Nat → Int64} {gl : Nat} {gb : Nat → Nat} {gt : Nat} {gr : Nat → Nat} {gm : Nat} {gp : Nat → Int64} {gq : Nat → Nat} {ge : Nat → Nat} {gn : Nat} {go : Nat → Nat} {gu : Nat} {gi : Bool} {ga : Nat → Int64} {gv : Nat → Nat} {gw : Nat} {gx : Int64} (hm : MN h gz gc gs gh gk gl gb gt gr gm gp gq ge gn go gu gi ga gv gw gx) (t u : Int32) (ht : inX t 0 5 = false) : CnU X m_X7_set [.ref 270, .int t, .int u] h (fun v h1 => v = some (.int (nI 0)) ∧ MS h1 gz gc gs gh gk gl gb 1 gx ∧ Out h h1 270 13) := by
  obtain ⟨m0, m1, m2, m3, m4, m5, m6, m7, m8, m9, m10, m11, m12⟩ := id hm
  have ho : Out h h 270 13 := Out.rf
  refine cn_of_ev (L0 := [_, _, _, _]) (by decide +kernel) rfl rfl (Nat.le_of_ble_eq_true rfl) rfl ?_
  refine ev_aload_n dX7_set_0 rfl rfl ?_
  refine ev_iload_n dX7_set_1 rfl rfl ?_
  refine ev_callSP1 dX7_set_2 cal_X7_isSetting lk_7_188 ⟨(Nat.le_of_ble_eq_true rfl), (Nat.le_of_ble_eq_true rfl)⟩ rfl (Nat.le_of_ble_eq_true rfl) (k_isSetB ht) ?_
  refine ev_if_neB 12 dX7_set_5 rfl (fun hc5 => ?_) (fun hc5 => ?_)
  · first | omega | exact absurd hc5 (by decide)
  · refine ev_iconst (nI 1) dX7_set_8 rfl ?_
    refine ev_goto 25 dX7_set_9 rfl ?_
    refine em_pTh dX7_set_25 lf_7_47 hm (fun h25 hm25 o25 => ?_)
    have ho := ho.tr o25
    obtain ⟨m0, m1, m2, m3, m4, m5, m6, m7, m8, m9, m10, m11, m12⟩ := id hm25
    refine ev_aload_n dX7_set_28 rfl rfl ?_
    refine ev_getfield dX7_set_29 lf_7_47 m0 rfl ?_
    refine ev_if_leN 37 dX7_set_32 rfl (by omega) (fun hc32 => ?_) (fun hc32 => ?_)
    · first | omega | exact absurd hc32 (by decide)
    · refine ev_iconst (nI 0) dX7_set_35 rfl ?_
      refine ev_ireturn dX7_set_36 rfl (Or.inl rfl) (Nat.zero_le _) (Nat.zero_le _) ?_
      exact ⟨_, rfl, rfl, hm25.ms, ho⟩
set_option maxHeartbeats 4000000 in
set_option maxRecDepth 100000 in
theorem k_set2 {X : mX} {h : mH} {gz : Nat → Nat} {gc : Nat → Int64} {gs : Nat} {gh : Nat → Nat} {gk : Nat → Int64} {gl : Nat} {gb : Nat → Nat} {gt : Nat} {gr : Nat → Nat} {gm : Nat} {gp : Nat → Int64} {gq : Nat → Nat} {ge : Nat → Nat} {gn : Nat} {go : Nat → Nat} {gu : Nat} {gi : Bool} {ga : Nat → Int64} {gv : Nat → Nat} {gw : Nat} {gx : Int64} (hm : MN h gz gc gs gh gk gl gb gt gr gm gp gq ge gn go gu gi ga gv gw gx) (t : Nat) (u : Int32) (ht : t < 5) (hu : inX u (lowF t) (higF t + 1) = false) : CnU X m_X7_set [.ref 270, .int (nI t), .int u] h (fun v h1 => v = some (.int (nI 0)) ∧ MS h1 gz gc gs gh gk gl gb 2 gx ∧ Out h h1 270 13) := by
  obtain ⟨m0, m1, m2, m3, m4, m5, m6, m7, m8, m9, m10, m11, m12⟩ := id hm
  have ho : Out h h 270 13 := Out.rf
  refine cn_of_ev (L0 := [_, _, _, _]) (by decide +kernel) rfl rfl (Nat.le_of_ble_eq_true rfl) rfl ?_
  refine ev_aload_n dX7_set_0 rfl rfl ?_
  refine ev_iload_n dX7_set_1 rfl rfl ?_
  refine ev_callSP1 dX7_set_2 cal_X7_isSetting lk_7_188 ⟨(Nat.le_of_ble_eq_true rfl), (Nat.le_of_ble_eq_true rfl)⟩ rfl (Nat.le_of_ble_eq_true rfl) (k_isSetB (inY (by omega) (Nat.zero_le _) ht)) ?_
  refine ev_if_neB 12 dX7_set_5 rfl (fun hc5 => ?_) (fun hc5 => ?_)
  · refine ev_iload_n dX7_set_12 rfl rfl ?_
    refine ev_iload_n dX7_set_13 rfl rfl ?_
    refine ev_callSP2 dX7_set_14 cal_X7_isValue lk_7_191 ⟨(Nat.le_of_ble_eq_true rfl), (Nat.le_of_ble_eq_true rfl)⟩ rfl (Nat.le_of_ble_eq_true rfl) (k_isValB ht hu) ?_
    refine ev_if_eqB 24 dX7_set_17 rfl (fun hc17 => ?_) (fun hc17 => ?_)
    · refine ev_iconst (nI 2) dX7_set_24 rfl ?_
      refine em_pTh dX7_set_25 lf_7_47 hm (fun h25 hm25 o25 => ?_)
      have ho := ho.tr o25
      obtain ⟨m0, m1, m2, m3, m4, m5, m6, m7, m8, m9, m10, m11, m12⟩ := id hm25
      refine ev_aload_n dX7_set_28 rfl rfl ?_
      refine ev_getfield dX7_set_29 lf_7_47 m0 rfl ?_
      refine ev_if_leN 37 dX7_set_32 rfl (by omega) (fun hc32 => ?_) (fun hc32 => ?_)
      · first | omega | exact absurd hc32 (by decide)
      · refine ev_iconst (nI 0) dX7_set_35 rfl ?_
        refine ev_ireturn dX7_set_36 rfl (Or.inl rfl) (Nat.zero_le _) (Nat.zero_le _) ?_
        exact ⟨_, rfl, rfl, hm25.ms, ho⟩
    · first | omega | exact absurd hc17 (by decide)
  · first | omega | exact absurd hc5 (by decide)
set_option maxHeartbeats 4000000 in
set_option maxRecDepth 100000 in
theorem k_set {X : mX} {h : mH} {gz : Nat → Nat} {gc : Nat → Int64} {gs : Nat} {gh : Nat → Nat} {gk : Nat → Int64} {gl : Nat} {gb : Nat → Nat} {gt : Nat} {gr : Nat → Nat} {gm : Nat} {gp : Nat → Int64} {gq : Nat → Nat} {ge : Nat → Nat} {gn : Nat} {go : Nat → Nat} {gu : Nat} {gi : Bool} {ga : Nat → Int64} {gv : Nat → Nat} {gw : Nat} {gx : Int64} (hm : MN h gz gc gs gh gk gl gb gt gr gm gp gq ge gn go gu gi ga gv gw gx) {T : mSt} (hr : RelT gz gc T) (hT : InvT T) {n : Nat} {Ts : Nat → mSt} (hh : HisR gs gh gk n Ts) (hI : ∀ i, i < n → InvT (Ts i)) (hn6 : n ≤ 6) (t u : Nat) (ht : t < 5) (h1 : lowF t ≤ u) (h2 : u ≤ higF t) : CnU X m_X7_set [.ref 270, .int (nI t), .int (nI u)] h (fun v h1 => v = some (.int (nI (tV T t))) ∧ (∃ s H K, MS h1 (upN gz t u) gc s H K gl gb 0 gx ∧ HisR s H K (pshN n) (pshT n Ts T)) ∧ Out h h1 270 13) := by
  obtain ⟨m0, m1, m2, m3, m4, m5, m6, m7, m8, m9, m10, m11, m12⟩ := id hm
  have ho : Out h h 270 13 := Out.rf
  have hg20 := higF_le t
  refine cn_of_ev (L0 := [_, _, _, _]) (by decide +kernel) rfl rfl (Nat.le_of_ble_eq_true rfl) rfl ?_
  refine ev_aload_n dX7_set_0 rfl rfl ?_
  refine ev_iload_n dX7_set_1 rfl rfl ?_
  refine ev_callSP1 dX7_set_2 cal_X7_isSetting lk_7_188 ⟨(Nat.le_of_ble_eq_true rfl), (Nat.le_of_ble_eq_true rfl)⟩ rfl (Nat.le_of_ble_eq_true rfl) (k_isSetB (inY (by omega) (Nat.zero_le _) ht)) ?_
  refine ev_if_neB 12 dX7_set_5 rfl (fun hc5 => ?_) (fun hc5 => ?_)
  · refine ev_iload_n dX7_set_12 rfl rfl ?_
    refine ev_iload_n dX7_set_13 rfl rfl ?_
    refine ev_callSP2 dX7_set_14 cal_X7_isValue lk_7_191 ⟨(Nat.le_of_ble_eq_true rfl), (Nat.le_of_ble_eq_true rfl)⟩ rfl (Nat.le_of_ble_eq_true rfl) (k_isValB ht (inY (by omega) h1 (by omega))) ?_
    refine ev_if_eqB 24 dX7_set_17 rfl (fun hc17 => ?_) (fun hc17 => ?_)
    · first | omega | exact absurd hc17 (by decide)
    · refine ev_iconst (nI 0) dX7_set_20 rfl ?_
      refine ev_goto 25 dX7_set_21 rfl ?_
      refine em_pTh dX7_set_25 lf_7_47 hm (fun h25 hm25 o25 => ?_)
      have ho := ho.tr o25
      obtain ⟨m0, m1, m2, m3, m4, m5, m6, m7, m8, m9, m10, m11, m12⟩ := id hm25
      refine ev_aload_n dX7_set_28 rfl rfl ?_
      refine ev_getfield dX7_set_29 lf_7_47 m0 rfl ?_
      refine ev_if_leN 37 dX7_set_32 rfl (by omega) (fun hc32 => ?_) (fun hc32 => ?_)
      · refine ev_aload_n dX7_set_37 rfl rfl ?_
        refine ev_callVU0 dX7_set_38 cal_X7_save lk_7_169 ⟨(Nat.le_of_ble_eq_true rfl), (Nat.le_of_ble_eq_true rfl)⟩ rfl m0 (Nat.le_of_ble_eq_true rfl) (k_save hm25 hr hT hh hI hn6) (fun v h38 hq38 => ?_)
        refine ev_pc (pc' := 41) rfl ?_
        obtain ⟨rfl, ⟨s1, H1, K1, hm38, hh1⟩, o38⟩ := hq38
        have ho := ho.tr o38
        obtain ⟨m0, m1, m2, m3, m4, m5, m6, m7, m8, m9, m10, m11, m12⟩ := id hm38
        refine ev_aload_n dX7_set_41 rfl rfl ?_
        refine ev_getfield dX7_set_42 lf_7_7 m0 rfl ?_
        refine ev_iload_n dX7_set_45 rfl rfl ?_
        refine ev_ialoadF dX7_set_46 m1 (by omega) (by decide) ?_
        refine ev_istore_n (L' := [_, _, _, _]) dX7_set_47 rfl (Nat.le_of_ble_eq_true rfl) rfl ?_
        refine ev_aload_n dX7_set_48 rfl rfl ?_
        refine ev_getfield dX7_set_49 lf_7_7 m0 rfl ?_
        refine ev_iload_n dX7_set_52 rfl rfl ?_
        refine ev_iload_n dX7_set_53 rfl rfl ?_
        refine em_iZ dX7_set_54 hm38 (by omega) (fun h54 hm54 o54 => ?_)
        have ho := ho.tr o54
        obtain ⟨m0, m1, m2, m3, m4, m5, m6, m7, m8, m9, m10, m11, m12⟩ := id hm54
        refine ev_iload_n dX7_set_55 rfl rfl ?_
        refine ev_ireturn dX7_set_56 rfl (Or.inl rfl) (Nat.zero_le _) (Nat.zero_le _) ?_
        rw [hr.1 t ht]
        exact ⟨_, rfl, rfl, ⟨_, _, _, hm54.ms, hh1⟩, ho⟩
      · first | omega | exact absurd hc32 (by decide)
  · first | omega | exact absurd hc5 (by decide)
set_option maxHeartbeats 4000000 in
set_option maxRecDepth 100000 in
theorem k_drop1 {X : mX} {h : mH} {gz : Nat → Nat} {gc : Nat → Int64} {gs : Nat} {gh : Nat → Nat} {gk : Nat → Int64} {gl : Nat} {gb : Nat → Nat} {gt : Nat} {gr : Nat → Nat} {gm : Nat} {gp : Nat → Int64} {gq : Nat → Nat} {ge : Nat → Nat} {gn : Nat} {go : Nat → Nat} {gu : Nat} {gi : Bool} {ga : Nat → Int64} {gv : Nat → Nat} {gw : Nat} {gx : Int64} (hm : MN h gz gc gs gh gk gl gb gt gr gm gp gq ge gn go gu gi ga gv gw gx) (t : Int32) (ht : inX t 0 4 = false) : CnU X m_X7_drop [.ref 270, .int t] h (fun v h1 => v = some (.int (nI 0)) ∧ MS h1 gz gc gs gh gk gl gb 1 gx ∧ Out h h1 270 13) := by
  obtain ⟨m0, m1, m2, m3, m4, m5, m6, m7, m8, m9, m10, m11, m12⟩ := id hm
  have ho : Out h h 270 13 := Out.rf
  refine cn_of_ev (L0 := [_, _, _]) (by decide +kernel) rfl rfl (Nat.le_of_ble_eq_true rfl) rfl ?_
  refine ev_aload_n dX7_drop_0 rfl rfl ?_
  refine ev_iload_n dX7_drop_1 rfl rfl ?_
  refine ev_callSP1 dX7_drop_2 cal_X7_isText lk_7_157 ⟨(Nat.le_of_ble_eq_true rfl), (Nat.le_of_ble_eq_true rfl)⟩ rfl (Nat.le_of_ble_eq_true rfl) (k_isTextB ht) ?_
  refine ev_if_eqB 12 dX7_drop_5 rfl (fun hc5 => ?_) (fun hc5 => ?_)
  · refine ev_iconst (nI 1) dX7_drop_12 rfl ?_
    refine em_pTh dX7_drop_13 lf_7_47 hm (fun h13 hm13 o13 => ?_)
    have ho := ho.tr o13
    obtain ⟨m0, m1, m2, m3, m4, m5, m6, m7, m8, m9, m10, m11, m12⟩ := id hm13
    refine ev_aload_n dX7_drop_16 rfl rfl ?_
    refine ev_getfield dX7_drop_17 lf_7_47 m0 rfl ?_
    refine ev_if_leN 25 dX7_drop_20 rfl (by omega) (fun hc20 => ?_) (fun hc20 => ?_)
    · first | omega | exact absurd hc20 (by decide)
    · refine ev_iconst (nI 0) dX7_drop_23 rfl ?_
      refine ev_ireturn dX7_drop_24 rfl (Or.inl rfl) (Nat.zero_le _) (Nat.zero_le _) ?_
      exact ⟨_, rfl, rfl, hm13.ms, ho⟩
  · first | omega | exact absurd hc5 (by decide)
set_option maxHeartbeats 4000000 in
set_option maxRecDepth 100000 in
theorem k_drop {X : mX} {h : mH} {gz : Nat → Nat} {gc : Nat → Int64} {gs : Nat} {gh : Nat → Nat} {gk : Nat → Int64} {gl : Nat} {gb : Nat → Nat} {gt : Nat} {gr : Nat → Nat} {gm : Nat} {gp : Nat → Int64} {gq : Nat → Nat} {ge : Nat → Nat} {gn : Nat} {go : Nat → Nat} {gu : Nat} {gi : Bool} {ga : Nat → Int64} {gv : Nat → Nat} {gw : Nat} {gx : Int64} (hm : MN h gz gc gs gh gk gl gb gt gr gm gp gq ge gn go gu gi ga gv gw gx) {T : mSt} (hr : RelT gz gc T) (hT : InvT T) {n : Nat} {Ts : Nat → mSt} (hh : HisR gs gh gk n Ts) (hI : ∀ i, i < n → InvT (Ts i)) (hn6 : n ≤ 6) (t : Nat) (ht : t < 4) : CnU X m_X7_drop [.ref 270, .int (nI t)] h (fun v h1 => v = some (.int (nI (kL (tC T t)))) ∧ (∃ z s H K, MS h1 z gc s H K gl gb 0 gx ∧ RelT z gc (clrT T t) ∧ HisR s H K (pshN n) (pshT n Ts T)) ∧ Out h h1 270 13) := by
  obtain ⟨m0, m1, m2, m3, m4, m5, m6, m7, m8, m9, m10, m11, m12⟩ := id hm
  have ho : Out h h 270 13 := Out.rf
  refine cn_of_ev (L0 := [_, _, _]) (by decide +kernel) rfl rfl (Nat.le_of_ble_eq_true rfl) rfl ?_
  refine ev_aload_n dX7_drop_0 rfl rfl ?_
  refine ev_iload_n dX7_drop_1 rfl rfl ?_
  refine ev_callSP1 dX7_drop_2 cal_X7_isText lk_7_157 ⟨(Nat.le_of_ble_eq_true rfl), (Nat.le_of_ble_eq_true rfl)⟩ rfl (Nat.le_of_ble_eq_true rfl) (k_isTextB (inY (by omega) (Nat.zero_le _) ht)) ?_
  refine ev_if_eqB 12 dX7_drop_5 rfl (fun hc5 => ?_) (fun hc5 => ?_)
  · first | omega | exact absurd hc5 (by decide)
  · refine ev_iconst (nI 0) dX7_drop_8 rfl ?_
    refine ev_goto 13 dX7_drop_9 rfl ?_
    refine em_pTh dX7_drop_13 lf_7_47 hm (fun h13 hm13 o13 => ?_)
    have ho := ho.tr o13
    obtain ⟨m0, m1, m2, m3, m4, m5, m6, m7, m8, m9, m10, m11, m12⟩ := id hm13
    refine ev_aload_n dX7_drop_16 rfl rfl ?_
    refine ev_getfield dX7_drop_17 lf_7_47 m0 rfl ?_
    refine ev_if_leN 25 dX7_drop_20 rfl (by omega) (fun hc20 => ?_) (fun hc20 => ?_)
    · refine ev_aload_n dX7_drop_25 rfl rfl ?_
      refine ev_callVU0 dX7_drop_26 cal_X7_save lk_7_169 ⟨(Nat.le_of_ble_eq_true rfl), (Nat.le_of_ble_eq_true rfl)⟩ rfl m0 (Nat.le_of_ble_eq_true rfl) (k_save hm13 hr hT hh hI hn6) (fun v h26 hq26 => ?_)
      refine ev_pc (pc' := 29) rfl ?_
      obtain ⟨rfl, ⟨s1, H1, K1, hm26, hh1⟩, o26⟩ := hq26
      have ho := ho.tr o26
      obtain ⟨m0, m1, m2, m3, m4, m5, m6, m7, m8, m9, m10, m11, m12⟩ := id hm26
      refine ev_aload_n dX7_drop_29 rfl rfl ?_
      refine ev_iload_n dX7_drop_30 rfl rfl ?_
      refine ev_callVP1 dX7_drop_31 cal_X7_signsOf lk_7_58 ⟨(Nat.le_of_ble_eq_true rfl), (Nat.le_of_ble_eq_true rfl)⟩ rfl m0 (Nat.le_of_ble_eq_true rfl) (k_signsOf hm26 t ht) ?_
      refine ev_istore_n (L' := [_, _, _]) dX7_drop_34 rfl (Nat.le_of_ble_eq_true rfl) rfl ?_
      refine ev_aload_n dX7_drop_35 rfl rfl ?_
      refine ev_iload_n dX7_drop_36 rfl rfl ?_
      refine ev_callVU1 dX7_drop_37 cal_X7_clearText lk_7_128 ⟨(Nat.le_of_ble_eq_true rfl), (Nat.le_of_ble_eq_true rfl)⟩ rfl m0 (Nat.le_of_ble_eq_true rfl) (k_clearText hm26 t ht (hr.tx hT ht) (hr.ob hT ht)) (fun v h37 hq37 => ?_)
      obtain ⟨rfl, hm37, o37⟩ := hq37
      have ho := ho.tr o37
      obtain ⟨m0, m1, m2, m3, m4, m5, m6, m7, m8, m9, m10, m11, m12⟩ := id hm37
      refine ev_iload_n dX7_drop_40 rfl rfl ?_
      refine ev_ireturn dX7_drop_41 rfl (Or.inl rfl) (Nat.zero_le _) (Nat.zero_le _) ?_
      rw [(hr.2.2 t ht).1]
      exact ⟨_, rfl, rfl, ⟨_, _, _, _, hm37.ms, rel_clr hr hT ht, hh1⟩, ho⟩
    · first | omega | exact absurd hc20 (by decide)
theorem pk_isubN' {a b : Nat} (h : a ≤ b) : nI b - nI a = nI (b - a) := by
  have e : nI b = nI (b - a) + nI a := by
    show Int32.ofNat b = Int32.ofNat (b - a) + Int32.ofNat a
    rw [← Int32.ofNat_add, Nat.sub_add_cancel h]
  rw [e, Int32.add_sub_cancel]
set_option maxHeartbeats 4000000 in
set_option maxRecDepth 100000 in
theorem k_sweep {X : mX} {h : mH} {gz : Nat → Nat} {gc : Nat → Int64} {gs : Nat} {gh : Nat → Nat} {gk : Nat → Int64} {gl : Nat} {gb : Nat → Nat} {gt : Nat} {gr : Nat → Nat} {gm : Nat} {gp : Nat → Int64} {gq : Nat → Nat} {ge : Nat → Nat} {gn : Nat} {go : Nat → Nat} {gu : Nat} {gi : Bool} {ga : Nat → Int64} {gv : Nat → Nat} {gw : Nat} {gx : Int64} (hm : MN h gz gc gs gh gk gl gb gt gr gm gp gq ge gn go gu gi ga gv gw gx) {T : mSt} (hr : RelT gz gc T) (hT : InvT T) {n : Nat} {Ts : Nat → mSt} (hh : HisR gs gh gk n Ts) (hI : ∀ i, i < n → InvT (Ts i)) (hn6 : n ≤ 6) : CnU X m_X7_sweep [.ref 270] h (fun v h1 => v = some (.int (nI (ctN (rmS (tS T) (rawK 0 (fun _ => 0))) 60))) ∧ (∃ z c s H K, MS h1 z c s H K gl gb 0 gx ∧ RelT z c (swpT T) ∧ HisR s H K (pshN n) (pshT n Ts T)) ∧ Out h h1 270 13) := by
  obtain ⟨m0, m1, m2, m3, m4, m5, m6, m7, m8, m9, m10, m11, m12⟩ := id hm
  have ho : Out h h 270 13 := Out.rf
  refine cn_of_ev (L0 := [_, _, _]) (by decide +kernel) rfl rfl (Nat.le_of_ble_eq_true rfl) rfl ?_
  refine ev_aload_n dX7_sweep_0 rfl rfl ?_
  refine ev_iconst (nI 0) dX7_sweep_1 rfl ?_
  refine em_pTh dX7_sweep_2 lf_7_47 hm (fun h2 hm2 o2 => ?_)
  have ho := ho.tr o2
  obtain ⟨m0, m1, m2, m3, m4, m5, m6, m7, m8, m9, m10, m11, m12⟩ := id hm2
  refine ev_aload_n dX7_sweep_5 rfl rfl ?_
  refine ev_callVU0 dX7_sweep_6 cal_X7_save lk_7_169 ⟨(Nat.le_of_ble_eq_true rfl), (Nat.le_of_ble_eq_true rfl)⟩ rfl m0 (Nat.le_of_ble_eq_true rfl) (k_save hm2 hr hT hh hI hn6) (fun v h6 hq6 => ?_)
  refine ev_pc (pc' := 9) rfl ?_
  obtain ⟨rfl, ⟨s1, H1, K1, hm6, hh1⟩, o6⟩ := hq6
  have ho := ho.tr o6
  obtain ⟨m0, m1, m2, m3, m4, m5, m6, m7, m8, m9, m10, m11, m12⟩ := id hm6
  refine ev_aload_n dX7_sweep_9 rfl rfl ?_
  refine ev_getfield dX7_sweep_10 lf_7_7 m0 rfl ?_
  refine ev_bipush (nI 6) dX7_sweep_13 rfl ?_
  refine ev_ialoadF dX7_sweep_15 m1 (by omega) (by decide) ?_
  refine ev_istore_n (L' := [_, _, _]) dX7_sweep_16 rfl (Nat.le_of_ble_eq_true rfl) rfl ?_
  refine ev_iconst (nI 0) dX7_sweep_17 rfl ?_
  refine ev_istore_n (L' := [_, _, _]) dX7_sweep_18 rfl (Nat.le_of_ble_eq_true rfl) rfl ?_
  refine ev_pc (pc' := 19) rfl ?_
  have LP19 : ∀ (mz : Nat) (k : Nat) (h3 : mH) (z : Nat → Nat) (c : Nat → Int64), 60 - k = mz → (k ≤ 60) → (MN h3 z c s1 H1 K1 gl gb 0 gr gm gp gq ge gn go gu gi ga gv gw gx) → (Out h h3 270 13) → (RelS z c (swN (tS T) (rawK 0 (fun _ => 0)) k (sW (tS T) + ctN (rmS (tS T) (rawK 0 (fun _ => 0))) k))) → (∀ i, i ≠ 6 → (i < 491 ∨ 611 ≤ i) → z i = gz i) → Ev X m_X7_sweep B0 19 [.ref 270, .int (nI (gz 6)), .int (nI k)] [] h3 (fun o h1 => ∃ v, o = .inl v ∧ (v = some (.int (nI (ctN (rmS (tS T) (rawK 0 (fun _ => 0))) 60))) ∧ (∃ z c s H K, MS h1 z c s H K gl gb 0 gx ∧ RelT z c (swpT T) ∧ HisR s H K (pshN n) (pshT n Ts T)) ∧ Out h h1 270 13)) := by
    intro mz
    induction mz using Nat.strongRecOn with
    | _ mz ih =>
      intro k h3 z c hmz hk hm3 ho hz hzo
      obtain ⟨m0, m1, m2, m3, m4, m5, m6, m7, m8, m9, m10, m11, m12⟩ := id hm3
      have hkp := hz.kp
      have hSB : SoB (swN (tS T) (rawK 0 (fun _ => 0)) k (sW (tS T) + ctN (rmS (tS T) (rawK 0 (fun _ => 0))) k)) := swN_SoB hT.B
      have how : k < 60 → z (551 + k) ≤ 200 := fun q => hz.ow hSB q
      have hrm : k < 60 → (decide (0 < z (491 + k)) && decide (z (551 + k) = 0)) = rmS (tS T) (rawK 0 (fun _ => 0)) k := fun q => by rw [rel_rm0 hz q, rmS_raw]
      have hz6 : z 6 = sW (tS T) + ctN (rmS (tS T) (rawK 0 (fun _ => 0))) k := hz.2.1
      have hct := ctN_le (rmS (tS T) (rawK 0 (fun _ => 0))) k
      refine ev_iload_n dX7_sweep_19 rfl rfl ?_
      refine ev_bipush (nI 60) dX7_sweep_20 rfl ?_
      refine ev_icmp_geN 57 dX7_sweep_22 rfl (by omega) (by omega) (fun hc22 => ?_) (fun hc22 => ?_)
      · refine ev_aload_n dX7_sweep_57 rfl rfl ?_
        refine ev_getfield dX7_sweep_58 lf_7_7 m0 rfl ?_
        refine ev_bipush (nI 6) dX7_sweep_61 rfl ?_
        refine ev_ialoadF dX7_sweep_63 m1 (by omega) (by decide) ?_
        refine ev_iload_n dX7_sweep_64 rfl rfl ?_
        refine ev_pc (pc' := 65) rfl ?_
        have e60 : k = 60 := by omega
        subst e60
        have h6 : gz 6 = sW (tS T) := hr.2.1.2.1
        refine ev_isub dX7_sweep_65 ?_
        rw [pk_isubN' (by omega : gz 6 ≤ z 6)]
        refine ev_ireturn dX7_sweep_66 rfl (Or.inl rfl) (Nat.zero_le _) (Nat.zero_le _) ?_
        rw [show z 6 - gz 6 = ctN (rmS (tS T) (rawK 0 (fun _ => 0))) 60 by omega]
        exact ⟨_, rfl, rfl, ⟨_, _, _, _, _, hm3.ms, ⟨fun i hi => by rw [hzo i (by omega) (by omega)]; exact hr.1 i hi, hz, fun t ht => (hr.2.2 t ht).congr (hT.2.1 t ht) (fun i hi => hzo i (by omega) (by omega)) (fun p hp => (swpT_all hT).2 t p ht hp)⟩, hh1⟩, ho⟩
      · refine ev_aload_n dX7_sweep_25 rfl rfl ?_
        refine ev_iload_n dX7_sweep_26 rfl rfl ?_
        refine ev_callVP1 dX7_sweep_27 cal_X7_isKept lk_7_82 ⟨(Nat.le_of_ble_eq_true rfl), (Nat.le_of_ble_eq_true rfl)⟩ rfl m0 (Nat.le_of_ble_eq_true rfl) (k_isKept hm3 k (by omega) (by have := hkp k (by omega); omega)) ?_
        refine ev_if_eqB 51 dX7_sweep_30 rfl (fun hc30 => ?_) (fun hc30 => ?_)
        · refine ev_iincN (L' := [_, _, _]) 1 dX7_sweep_51 rfl rfl ?_
          refine ev_goto 19 dX7_sweep_54 rfl ?_
          refine ev_pc (pc' := 19) rfl ?_
          first
            | (have hn : rmS (tS T) (rawK 0 (fun _ => 0)) k = false := by rw [← hrm (by omega)]; first | (rw [hc30]; rfl) | (rw [decF hc43, Bool.and_false])
               refine ih _ (by omega) (k + 1) _ z c rfl (by omega) hm3 ho ?_ hzo
               rw [ctN_n hn]
               exact rel_swpN hz hn)
            | (have hy : rmS (tS T) (rawK 0 (fun _ => 0)) k = true := by rw [← hrm (by omega), hc30, decT hc43]; rfl
               refine ih _ (by omega) (k + 1) _ _ _ rfl (by omega) hm3 ho (?_ : RelS (swpZ z k) (vp_updL c k 0) _) (fun i hi hi2 => ?_)
               · rw [ctN_y hy]
                 exact rel_swpY hz (by omega) hy
               · show swpZ z k i = gz i
                 rw [swpZ_o hi (by omega) (by omega)]
                 exact hzo i hi hi2)
        · refine ev_aload_n dX7_sweep_33 rfl rfl ?_
          refine ev_getfield dX7_sweep_34 lf_7_7 m0 rfl ?_
          refine ev_sipush (nI 551) dX7_sweep_37 rfl ?_
          refine ev_iload_n dX7_sweep_40 rfl rfl ?_
          refine ev_iaddN dX7_sweep_41 ?_
          refine ev_ialoadF dX7_sweep_42 m1 (by omega) (by decide) ?_
          have hwk := how (by omega)
          refine ev_if_neN 51 dX7_sweep_43 rfl (by omega) (fun hc43 => ?_) (fun hc43 => ?_)
          · refine ev_iincN (L' := [_, _, _]) 1 dX7_sweep_51 rfl rfl ?_
            refine ev_goto 19 dX7_sweep_54 rfl ?_
            refine ev_pc (pc' := 19) rfl ?_
            first
              | (have hn : rmS (tS T) (rawK 0 (fun _ => 0)) k = false := by rw [← hrm (by omega)]; first | (rw [hc30]; rfl) | (rw [decF hc43, Bool.and_false])
                 refine ih _ (by omega) (k + 1) _ z c rfl (by omega) hm3 ho ?_ hzo
                 rw [ctN_n hn]
                 exact rel_swpN hz hn)
              | (have hy : rmS (tS T) (rawK 0 (fun _ => 0)) k = true := by rw [← hrm (by omega), hc30, decT hc43]; rfl
                 refine ih _ (by omega) (k + 1) _ _ _ rfl (by omega) hm3 ho (?_ : RelS (swpZ z k) (vp_updL c k 0) _) (fun i hi hi2 => ?_)
                 · rw [ctN_y hy]
                   exact rel_swpY hz (by omega) hy
                 · show swpZ z k i = gz i
                   rw [swpZ_o hi (by omega) (by omega)]
                   exact hzo i hi hi2)
          · refine ev_aload_n dX7_sweep_46 rfl rfl ?_
            refine ev_iload_n dX7_sweep_47 rfl rfl ?_
            refine ev_callVU1 dX7_sweep_48 cal_X7_sweepSlot lk_7_132 ⟨(Nat.le_of_ble_eq_true rfl), (Nat.le_of_ble_eq_true rfl)⟩ rfl m0 (Nat.le_of_ble_eq_true rfl) (k_sweepSlot hm3 k (by omega)) (fun v h48 hq48 => ?_)
            obtain ⟨rfl, hm48, o48⟩ := hq48
            have ho := ho.tr o48
            obtain ⟨m0, m1, m2, m3, m4, m5, m6, m7, m8, m9, m10, m11, m12⟩ := id hm48
            refine ev_iincN (L' := [_, _, _]) 1 dX7_sweep_51 rfl rfl ?_
            refine ev_goto 19 dX7_sweep_54 rfl ?_
            refine ev_pc (pc' := 19) rfl ?_
            first
              | (have hn : rmS (tS T) (rawK 0 (fun _ => 0)) k = false := by rw [← hrm (by omega)]; first | (rw [hc30]; rfl) | (rw [decF hc43, Bool.and_false])
                 refine ih _ (by omega) (k + 1) _ z c rfl (by omega) hm48 ho ?_ hzo
                 rw [ctN_n hn]
                 exact rel_swpN hz hn)
              | (have hy : rmS (tS T) (rawK 0 (fun _ => 0)) k = true := by rw [← hrm (by omega), hc30, decT hc43]; rfl
                 refine ih _ (by omega) (k + 1) _ _ _ rfl (by omega) hm48 ho (?_ : RelS (swpZ z k) (vp_updL c k 0) _) (fun i hi hi2 => ?_)
                 · rw [ctN_y hy]
                   exact rel_swpY hz (by omega) hy
                 · show swpZ z k i = gz i
                   rw [swpZ_o hi (by omega) (by omega)]
                   exact hzo i hi hi2)
  exact LP19 _ 0 _ gz gc rfl (Nat.zero_le _) hm6 ho (by rw [ctN, Nat.add_zero, swN_0]; exact hr.2.1) (fun _ _ _ => rfl)
