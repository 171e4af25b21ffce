set_option maxHeartbeats 4000000 in
set_option maxRecDepth 100000 in
theorem k_put1 {X : mX} {h : mH} {gz : Nat → Nat} {gc : Nat → Int64} {gs : Nat} {gh : Nat → Nat} {gk : Nat → Int64} {gl : Nat} {gb : Nat → Nat} {gt : Nat} {gr : Nat → Nat} {gm : Nat} {gp : Nat → Int64} {gq : Nat → Nat} {ge : Nat → Nat} {gn : Nat} {go : Nat → Nat} {gu : Nat} {gi : Bool} {ga : Nat → Int64} {gv : Nat → Nat} {gw : Nat} {gx : Int64} (hm : MN h gz gc gs gh gk gl gb gt gr gm gp gq ge gn go gu gi ga gv gw gx) (t : Int32) (ht : inX t 0 4 = false) : CnU X m_X7_put [.ref 270, .int t] h (fun v h1 => v = some (.int (nI 0)) ∧ MS h1 gz gc gs gh gk gl gb 1 gx ∧ Out h h1 270 13) := by
  obtain ⟨m0, m1, m2, m3, m4, m5, m6, m7, m8, m9, m10, m11, m12⟩ := id hm
  have ho : Out h h 270 13 := Out.rf
  refine cn_of_ev (L0 := [_, _]) (by decide +kernel) rfl rfl (Nat.le_of_ble_eq_true rfl) rfl ?_
  refine ev_aload_n dX7_put_0 rfl rfl ?_
  refine ev_iload_n dX7_put_1 rfl rfl ?_
  refine ev_callSP1 dX7_put_2 cal_X7_isText lk_7_157 ⟨(Nat.le_of_ble_eq_true rfl), (Nat.le_of_ble_eq_true rfl)⟩ rfl (Nat.le_of_ble_eq_true rfl) (k_isTextB ht) ?_
  refine ev_if_neB 12 dX7_put_5 rfl (fun hc5 => ?_) (fun hc5 => ?_)
  · first | omega | exact absurd hc5 (by decide)
  · refine ev_iconst (nI 1) dX7_put_8 rfl ?_
    refine ev_goto 24 dX7_put_9 rfl ?_
    refine em_pTh dX7_put_24 lf_7_47 hm (fun h24 hm24 o24 => ?_)
    have ho := ho.tr o24
    obtain ⟨m0, m1, m2, m3, m4, m5, m6, m7, m8, m9, m10, m11, m12⟩ := id hm24
    refine ev_aload_n dX7_put_27 rfl rfl ?_
    refine ev_getfield dX7_put_28 lf_7_47 m0 rfl ?_
    refine ev_if_neN 55 dX7_put_31 rfl (by omega) (fun hc31 => ?_) (fun hc31 => ?_)
    · refine ev_aload_n dX7_put_55 rfl rfl ?_
      refine ev_getfield dX7_put_56 lf_7_47 m0 rfl ?_
      refine ev_if_leN 64 dX7_put_59 rfl (by omega) (fun hc59 => ?_) (fun hc59 => ?_)
      · first | omega | exact absurd hc59 (by decide)
      · refine ev_iconst (nI 0) dX7_put_62 rfl ?_
        refine ev_ireturn dX7_put_63 rfl (Or.inl rfl) (Nat.zero_le _) (Nat.zero_le _) ?_
        exact ⟨_, rfl, rfl, hm24.ms, ho⟩
    · first | omega | exact absurd hc31 (by decide)
set_option maxHeartbeats 4000000 in
set_option maxRecDepth 100000 in
theorem k_put2 {X : mX} {h : mH} {gz : Nat → Nat} {gc : Nat → Int64} {gs : Nat} {gh : Nat → Nat} {gk : Nat → Int64} {gl : Nat} {gb : Nat → Nat} {gt : Nat} {gr : Nat → Nat} {gm : Nat} {gp : Nat → Int64} {gq : Nat → Nat} {ge : Nat → Nat} {gn : Nat} {go : Nat → Nat} {gu : Nat} {gi : Bool} {ga : Nat → Int64} {gv : Nat → Nat} {gw : Nat} {gx : Int64} (hm : MN h gz gc gs gh gk gl gb gt gr gm gp gq ge gn go gu gi ga gv gw gx) (hl60 : gl ≤ 60) (hb : ∀ j, j < gl → gb j ≤ 200) (t : Nat) (ht : t < 4) (hw : whol gb gl = false) : CnU X m_X7_put [.ref 270, .int (nI t)] h (fun v h1 => v = some (.int (nI 0)) ∧ MS h1 gz gc gs gh gk gl gb 2 gx ∧ Out h h1 270 13) := by
  obtain ⟨m0, m1, m2, m3, m4, m5, m6, m7, m8, m9, m10, m11, m12⟩ := id hm
  have ho : Out h h 270 13 := Out.rf
  refine cn_of_ev (L0 := [_, _]) (by decide +kernel) rfl rfl (Nat.le_of_ble_eq_true rfl) rfl ?_
  refine ev_aload_n dX7_put_0 rfl rfl ?_
  refine ev_iload_n dX7_put_1 rfl rfl ?_
  refine ev_callSP1 dX7_put_2 cal_X7_isText lk_7_157 ⟨(Nat.le_of_ble_eq_true rfl), (Nat.le_of_ble_eq_true rfl)⟩ rfl (Nat.le_of_ble_eq_true rfl) (k_isTextB (inY (by omega) (Nat.zero_le _) ht)) ?_
  refine ev_if_neB 12 dX7_put_5 rfl (fun hc5 => ?_) (fun hc5 => ?_)
  · refine ev_aload_n dX7_put_12 rfl rfl ?_
    refine ev_callVU0 dX7_put_13 cal_X7_isWhole lk_7_160 ⟨(Nat.le_of_ble_eq_true rfl), (Nat.le_of_ble_eq_true rfl)⟩ rfl m0 (Nat.le_of_ble_eq_true rfl) (k_isWhole hm hl60 hb) (fun v h13 hq13 => ?_)
    refine ev_pc (pc' := 16) rfl ?_
    obtain ⟨rfl, ⟨f, op, hm13, hf⟩, o13⟩ := hq13
    have ho := ho.tr o13
    rw [hw]
    obtain ⟨m0, m1, m2, m3, m4, m5, m6, m7, m8, m9, m10, m11, m12⟩ := id hm13
    refine ev_if_eqB 23 dX7_put_16 rfl (fun hc16 => ?_) (fun hc16 => ?_)
    · refine ev_iconst (nI 2) dX7_put_23 rfl ?_
      refine em_pTh dX7_put_24 lf_7_47 hm13 (fun h24 hm24 o24 => ?_)
      have ho := ho.tr o24
      obtain ⟨m0, m1, m2, m3, m4, m5, m6, m7, m8, m9, m10, m11, m12⟩ := id hm24
      refine ev_aload_n dX7_put_27 rfl rfl ?_
      refine ev_getfield dX7_put_28 lf_7_47 m0 rfl ?_
      refine ev_if_neN 55 dX7_put_31 rfl (by omega) (fun hc31 => ?_) (fun hc31 => ?_)
      · refine ev_aload_n dX7_put_55 rfl rfl ?_
        refine ev_getfield dX7_put_56 lf_7_47 m0 rfl ?_
        refine ev_if_leN 64 dX7_put_59 rfl (by omega) (fun hc59 => ?_) (fun hc59 => ?_)
        · first | omega | exact absurd hc59 (by decide)
        · refine ev_iconst (nI 0) dX7_put_62 rfl ?_
          refine ev_ireturn dX7_put_63 rfl (Or.inl rfl) (Nat.zero_le _) (Nat.zero_le _) ?_
          exact ⟨_, rfl, rfl, hm24.ms, ho⟩
      · first | omega | exact absurd hc31 (by decide)
    · first | omega | exact absurd hc16 (by decide)
  · first | omega | exact absurd hc5 (by decide)
set_option maxHeartbeats 4000000 in
set_option maxRecDepth 100000 in
theorem k_put {X : mX} {h : mH} {gz : Nat → Nat} {gc : Nat → Int64} {gs : Nat} {gh : Nat → Nat} {gk : Nat → Int64} {gl : Nat} {gb : Nat → Nat} {gt : Nat} {gr : Nat → Nat} {gm : Nat} {gp : Nat → Int64} {gq : Nat → Nat} {ge : Nat → Nat} {gn : Nat} {go : Nat → Nat} {gu : Nat} {gi : Bool} {ga : Nat → Int64} {gv : Nat → Nat} {gw : Nat} {gx : Int64} (hm : MN h gz gc gs gh gk gl gb gt gr gm gp gq ge gn go gu gi ga gv gw gx) {T : mSt} (hr : RelT gz gc T) (hT : InvT T) {n : Nat} {Ts : Nat → mSt} (hh : HisR gs gh gk n Ts) (hI : ∀ i, i < n → InvT (Ts i)) (hn6 : n ≤ 6) (hl60 : gl ≤ 60) (hb : ∀ j, j < gl → gb j ≤ 200) (t : Nat) (ht : t < 4) (hw : whol gb gl = true) (hok : okS T t (cutK (tV T) (smN (addN gb) gl) (tlN gb gl)) = true) : CnU X m_X7_put [.ref 270, .int (nI t)] h (fun v h1 => v = some (.int (nI (kN (cutK (tV T) (smN (addN gb) gl) (tlN gb gl))))) ∧ (∃ z c s H E, MS h1 z c s H E 0 gb 0 gx ∧ RelT z c (chgT T t (cutK (tV T) (smN (addN gb) gl) (tlN gb gl))) ∧ HisR s H E (pshN n) (pshT n Ts T)) ∧ Out h h1 270 13) := by
  obtain ⟨m0, m1, m2, m3, m4, m5, m6, m7, m8, m9, m10, m11, m12⟩ := id hm
  have ho : Out h h 270 13 := Out.rf
  obtain ⟨w1, w2⟩ := whol_ok hw
  have hK : Tile (cutK (tV T) (smN (addN gb) gl) (tlN gb gl)) := cutK_tile hT.1 w1 w2
  refine cn_of_ev (L0 := [_, _]) (by decide +kernel) rfl rfl (Nat.le_of_ble_eq_true rfl) rfl ?_
  refine ev_aload_n dX7_put_0 rfl rfl ?_
  refine ev_iload_n dX7_put_1 rfl rfl ?_
  refine ev_callSP1 dX7_put_2 cal_X7_isText lk_7_157 ⟨(Nat.le_of_ble_eq_true rfl), (Nat.le_of_ble_eq_true rfl)⟩ rfl (Nat.le_of_ble_eq_true rfl) (k_isTextB (inY (by omega) (Nat.zero_le _) ht)) ?_
  refine ev_if_neB 12 dX7_put_5 rfl (fun hc5 => ?_) (fun hc5 => ?_)
  · refine ev_aload_n dX7_put_12 rfl rfl ?_
    refine ev_callVU0 dX7_put_13 cal_X7_isWhole lk_7_160 ⟨(Nat.le_of_ble_eq_true rfl), (Nat.le_of_ble_eq_true rfl)⟩ rfl m0 (Nat.le_of_ble_eq_true rfl) (k_isWhole hm hl60 hb) (fun v h13 hq13 => ?_)
    refine ev_pc (pc' := 16) rfl ?_
    obtain ⟨rfl, ⟨f, op, hm13, hf⟩, o13⟩ := hq13
    have ho := ho.tr o13
    rw [hw]
    rw [(whol_all hw).2.1] at hm13 hf
    obtain ⟨m0, m1, m2, m3, m4, m5, m6, m7, m8, m9, m10, m11, m12⟩ := id hm13
    refine ev_if_eqB 23 dX7_put_16 rfl (fun hc16 => ?_) (fun hc16 => ?_)
    · first | omega | exact absurd hc16 (by decide)
    · refine ev_iconst (nI 0) dX7_put_19 rfl ?_
      refine ev_goto 24 dX7_put_20 rfl ?_
      refine em_pTh dX7_put_24 lf_7_47 hm13 (fun h24 hm24 o24 => ?_)
      have ho := ho.tr o24
      obtain ⟨m0, m1, m2, m3, m4, m5, m6, m7, m8, m9, m10, m11, m12⟩ := id hm24
      refine ev_aload_n dX7_put_27 rfl rfl ?_
      refine ev_getfield dX7_put_28 lf_7_47 m0 rfl ?_
      refine ev_if_neN 55 dX7_put_31 rfl (by omega) (fun hc31 => ?_) (fun hc31 => ?_)
      · first | omega | exact absurd hc31 (by decide)
      · refine ev_aload_n dX7_put_34 rfl rfl ?_
        refine ev_callVU0 dX7_put_35 cal_X7_takeTold lk_7_163 ⟨(Nat.le_of_ble_eq_true rfl), (Nat.le_of_ble_eq_true rfl)⟩ rfl m0 (Nat.le_of_ble_eq_true rfl) (k_takeTold hm24 (rel_setV hr hT) w1 (fun j hj => by rw [hf j hj]; exact w2 j hj)) (fun v h35 hq35 => ?_)
        refine ev_pc (pc' := 38) rfl ?_
        obtain ⟨rfl, ⟨f2, hm35, hf2⟩, o35⟩ := hq35
        have ho := ho.tr o35
        obtain ⟨m0, m1, m2, m3, m4, m5, m6, m7, m8, m9, m10, m11, m12⟩ := id hm35
        have hcm := cutM_of (v := tV T) (s := tlN gb gl) (z := gz) (r := f2) (n := smN (addN gb) gl) (gp := gp) (gq := gq) (ge := ge) hT.1 w2 (fun i hi => hr.1 i hi) (fun j hj => by rw [hf2 j hj, hf j hj])
        have hgr : ∀ j, j < kL (cutK (tV T) (smN (addN gb) gl) (tlN gb gl)) → f2 j = kS (cutK (tV T) (smN (addN gb) gl) (tlN gb gl)) j := fun j hj => by rw [hf2 j hj, hf j hj]; rfl
        have hgm : smN (addN gb) gl = kL (cutK (tV T) (smN (addN gb) gl) (tlN gb gl)) := rfl
        refine ev_aload_n dX7_put_38 rfl rfl ?_
        refine ev_aload_n dX7_put_39 rfl rfl ?_
        refine ev_iload_n dX7_put_40 rfl rfl ?_
        refine ev_callVP1 dX7_put_41 cal_X7_isRefused lk_7_166 ⟨(Nat.le_of_ble_eq_true rfl), (Nat.le_of_ble_eq_true rfl)⟩ rfl m0 (Nat.le_of_ble_eq_true rfl) ((show CnP X m_X7_isRefused _ _ (some (.int (bI false))) from by have z := k_isRefused (X := X) hm35 (hcm.q hK).1 (hcm.q hK).2 hr.2.1.kp t ht (hr.tx hT ht) (hr.ob hT ht); rwa [rel_ref hr hT hcm hK ht, hok] at z)) ?_
        refine ev_if_eqB 51 dX7_put_44 rfl (fun hc44 => ?_) (fun hc44 => ?_)
        · refine ev_iconst (nI 0) dX7_put_51 rfl ?_
          refine em_pTh dX7_put_52 lf_7_47 hm35 (fun h52 hm52 o52 => ?_)
          have ho := ho.tr o52
          obtain ⟨m0, m1, m2, m3, m4, m5, m6, m7, m8, m9, m10, m11, m12⟩ := id hm52
          refine ev_aload_n dX7_put_55 rfl rfl ?_
          refine ev_getfield dX7_put_56 lf_7_47 m0 rfl ?_
          refine ev_if_leN 64 dX7_put_59 rfl (by omega) (fun hc59 => ?_) (fun hc59 => ?_)
          · refine ev_aload_n dX7_put_64 rfl rfl ?_
            refine ev_callVU0 dX7_put_65 cal_X7_save lk_7_169 ⟨(Nat.le_of_ble_eq_true rfl), (Nat.le_of_ble_eq_true rfl)⟩ rfl m0 (Nat.le_of_ble_eq_true rfl) (k_save hm52 hr hT hh hI hn6) (fun v h65 hq65 => ?_)
            refine ev_pc (pc' := 68) rfl ?_
            obtain ⟨rfl, ⟨s1, H1, E1, hm65, hh1⟩, o65⟩ := hq65
            have ho := ho.tr o65
            obtain ⟨m0, m1, m2, m3, m4, m5, m6, m7, m8, m9, m10, m11, m12⟩ := id hm65
            refine ev_aload_n dX7_put_68 rfl rfl ?_
            refine ev_iconst (nI 0) dX7_put_69 rfl ?_
            refine em_pLn dX7_put_70 lf_7_145 hm65 (fun h70 hm70 o70 => ?_)
            have ho := ho.tr o70
            obtain ⟨m0, m1, m2, m3, m4, m5, m6, m7, m8, m9, m10, m11, m12⟩ := id hm70
            refine ev_aload_n dX7_put_73 rfl rfl ?_
            refine ev_iload_n dX7_put_74 rfl rfl ?_
            refine ev_callVU1 dX7_put_75 cal_X7_lay lk_7_172 ⟨(Nat.le_of_ble_eq_true rfl), (Nat.le_of_ble_eq_true rfl)⟩ rfl m0 (Nat.le_of_ble_eq_true rfl) (k_lay hm70 hr hT hK hcm hgm hgr t ht hok) (fun v h75 hq75 => ?_)
            refine ev_pc (pc' := 78) rfl ?_
            obtain ⟨rfl, ⟨z9, c9, hm75, hr9⟩, o75⟩ := hq75
            have ho := ho.tr o75
            refine ev_ireturn dX7_put_78 rfl (Or.inl rfl) (Nat.zero_le _) (Nat.zero_le _) ?_
            exact ⟨_, rfl, rfl, ⟨_, _, _, _, _, hm75.ms, hr9, hh1⟩, ho⟩
          · first | omega | exact absurd hc59 (by decide)
        · first | omega | exact absurd hc44 (by decide)
  · first | omega | exact absurd hc5 (by decide)
set_option maxHeartbeats 4000000 in
set_option maxRecDepth 100000 in
theorem k_put9 {X : mX} {h : mH} {gz : Nat → Nat} {gc : Nat → Int64} {gs : Nat} {gh : Nat → Nat} {gk : Nat → Int64} {gl : Nat} {gb : Nat → Nat} {gt : Nat} {gr : Nat → Nat} {gm : Nat} {gp : Nat → Int64} {gq : Nat → Nat} {ge : Nat → Nat} {gn : Nat} {go : Nat → Nat} {gu : Nat} {gi : Bool} {ga : Nat → Int64} {gv : Nat → Nat} {gw : Nat} {gx : Int64} (hm : MN h gz gc gs gh gk gl gb gt gr gm gp gq ge gn go gu gi ga gv gw gx) {T : mSt} (hr : RelT gz gc T) (hT : InvT T) (hl60 : gl ≤ 60) (hb : ∀ j, j < gl → gb j ≤ 200) (t : Nat) (ht : t < 4) (hw : whol gb gl = true) (hok : okS T t (cutK (tV T) (smN (addN gb) gl) (tlN gb gl)) = false) : CnU X m_X7_put [.ref 270, .int (nI t)] h (fun v h1 => v = some (.int (nI 0)) ∧ MS h1 gz gc gs gh gk gl gb 3 gx ∧ Out h h1 270 13) := by
  obtain ⟨m0, m1, m2, m3, m4, m5, m6, m7, m8, m9, m10, m11, m12⟩ := id hm
  have ho : Out h h 270 13 := Out.rf
  obtain ⟨w1, w2⟩ := whol_ok hw
  have hK : Tile (cutK (tV T) (smN (addN gb) gl) (tlN gb gl)) := cutK_tile hT.1 w1 w2
  refine cn_of_ev (L0 := [_, _]) (by decide +kernel) rfl rfl (Nat.le_of_ble_eq_true rfl) rfl ?_
  refine ev_aload_n dX7_put_0 rfl rfl ?_
  refine ev_iload_n dX7_put_1 rfl rfl ?_
  refine ev_callSP1 dX7_put_2 cal_X7_isText lk_7_157 ⟨(Nat.le_of_ble_eq_true rfl), (Nat.le_of_ble_eq_true rfl)⟩ rfl (Nat.le_of_ble_eq_true rfl) (k_isTextB (inY (by omega) (Nat.zero_le _) ht)) ?_
  refine ev_if_neB 12 dX7_put_5 rfl (fun hc5 => ?_) (fun hc5 => ?_)
  · refine ev_aload_n dX7_put_12 rfl rfl ?_
    refine ev_callVU0 dX7_put_13 cal_X7_isWhole lk_7_160 ⟨(Nat.le_of_ble_eq_true rfl), (Nat.le_of_ble_eq_true rfl)⟩ rfl m0 (Nat.le_of_ble_eq_true rfl) (k_isWhole hm hl60 hb) (fun v h13 hq13 => ?_)
    refine ev_pc (pc' := 16) rfl ?_
    obtain ⟨rfl, ⟨f, op, hm13, hf⟩, o13⟩ := hq13
    have ho := ho.tr o13
    rw [hw]
    rw [(whol_all hw).2.1] at hm13 hf
    obtain ⟨m0, m1, m2, m3, m4, m5, m6, m7, m8, m9, m10, m11, m12⟩ := id hm13
    refine ev_if_eqB 23 dX7_put_16 rfl (fun hc16 => ?_) (fun hc16 => ?_)
    · first | omega | exact absurd hc16 (by decide)
    · refine ev_iconst (nI 0) dX7_put_19 rfl ?_
      refine ev_goto 24 dX7_put_20 rfl ?_
      refine em_pTh dX7_put_24 lf_7_47 hm13 (fun h24 hm24 o24 => ?_)
      have ho := ho.tr o24
      obtain ⟨m0, m1, m2, m3, m4, m5, m6, m7, m8, m9, m10, m11, m12⟩ := id hm24
      refine ev_aload_n dX7_put_27 rfl rfl ?_
      refine ev_getfield dX7_put_28 lf_7_47 m0 rfl ?_
      refine ev_if_neN 55 dX7_put_31 rfl (by omega) (fun hc31 => ?_) (fun hc31 => ?_)
      · first | omega | exact absurd hc31 (by decide)
      · refine ev_aload_n dX7_put_34 rfl rfl ?_
        refine ev_callVU0 dX7_put_35 cal_X7_takeTold lk_7_163 ⟨(Nat.le_of_ble_eq_true rfl), (Nat.le_of_ble_eq_true rfl)⟩ rfl m0 (Nat.le_of_ble_eq_true rfl) (k_takeTold hm24 (rel_setV hr hT) w1 (fun j hj => by rw [hf j hj]; exact w2 j hj)) (fun v h35 hq35 => ?_)
        refine ev_pc (pc' := 38) rfl ?_
        obtain ⟨rfl, ⟨f2, hm35, hf2⟩, o35⟩ := hq35
        have ho := ho.tr o35
        obtain ⟨m0, m1, m2, m3, m4, m5, m6, m7, m8, m9, m10, m11, m12⟩ := id hm35
        have hcm := cutM_of (v := tV T) (s := tlN gb gl) (z := gz) (r := f2) (n := smN (addN gb) gl) (gp := gp) (gq := gq) (ge := ge) hT.1 w2 (fun i hi => hr.1 i hi) (fun j hj => by rw [hf2 j hj, hf j hj])
        have hgr : ∀ j, j < kL (cutK (tV T) (smN (addN gb) gl) (tlN gb gl)) → f2 j = kS (cutK (tV T) (smN (addN gb) gl) (tlN gb gl)) j := fun j hj => by rw [hf2 j hj, hf j hj]; rfl
        have hgm : smN (addN gb) gl = kL (cutK (tV T) (smN (addN gb) gl) (tlN gb gl)) := rfl
        refine ev_aload_n dX7_put_38 rfl rfl ?_
        refine ev_aload_n dX7_put_39 rfl rfl ?_
        refine ev_iload_n dX7_put_40 rfl rfl ?_
        refine ev_callVP1 dX7_put_41 cal_X7_isRefused lk_7_166 ⟨(Nat.le_of_ble_eq_true rfl), (Nat.le_of_ble_eq_true rfl)⟩ rfl m0 (Nat.le_of_ble_eq_true rfl) ((show CnP X m_X7_isRefused _ _ (some (.int (bI true))) from by have z := k_isRefused (X := X) hm35 (hcm.q hK).1 (hcm.q hK).2 hr.2.1.kp t ht (hr.tx hT ht) (hr.ob hT ht); rwa [rel_ref hr hT hcm hK ht, hok] at z)) ?_
        refine ev_if_eqB 51 dX7_put_44 rfl (fun hc44 => ?_) (fun hc44 => ?_)
        · first | omega | exact absurd hc44 (by decide)
        · refine ev_iconst (nI 3) dX7_put_47 rfl ?_
          refine ev_goto 52 dX7_put_48 rfl ?_
          refine em_pTh dX7_put_52 lf_7_47 hm35 (fun h52 hm52 o52 => ?_)
          have ho := ho.tr o52
          obtain ⟨m0, m1, m2, m3, m4, m5, m6, m7, m8, m9, m10, m11, m12⟩ := id hm52
          refine ev_aload_n dX7_put_55 rfl rfl ?_
          refine ev_getfield dX7_put_56 lf_7_47 m0 rfl ?_
          refine ev_if_leN 64 dX7_put_59 rfl (by omega) (fun hc59 => ?_) (fun hc59 => ?_)
          · first | omega | exact absurd hc59 (by decide)
          · refine ev_iconst (nI 0) dX7_put_62 rfl ?_
            refine ev_ireturn dX7_put_63 rfl (Or.inl rfl) (Nat.zero_le _) (Nat.zero_le _) ?_
            exact ⟨_, rfl, rfl, hm52.ms, ho⟩
  · first | omega | exact absurd hc5 (by decide)
set_option maxHeartbeats 4000000 in
set_option maxRecDepth 100000 in
theorem k_takeInserted {X : mX} {h : mH} {gz : Nat → Nat} {gc : Nat → Int64} {gs : Nat} {gh : Nat → Nat} {gk : Nat → Int64} {gl : Nat} {gb : Nat → Nat} {gt : Nat} {gr : Nat → Nat} {gm : Nat} {gp : Nat → Int64} {gq : Nat → Nat} {ge : Nat → Nat} {gn : Nat} {go : Nat → Nat} {gu : Nat} {gi : Bool} {ga : Nat → Int64} {gv : Nat → Nat} {gw : Nat} {gx : Int64} (hm : MN h gz gc gs gh gk gl gb gt gr gm gp gq ge gn go gu gi ga gv gw gx) {T : mSt} (hr : RelT gz gc T) (hT : InvT T) (t p : Nat) (ht : t < 4) (hp : p ≤ kL (tC T t)) (hu40 : kL (tC T t) + gu ≤ 40) {tl : Nat → Nat} (hgo : ∀ j, j < gu → go j = tl j ∧ 1 ≤ tl j ∧ tl j ≤ 8) : CnU X m_X7_takeInserted [.ref 270, .int (nI t), .int (nI p)] h (fun v h1 => v = none ∧ (∃ f a b c n, MN h1 gz gc gs gh gk gl gb gt f (kL (tC T t) + gu) a b c n go gu gi ga gv gw gx ∧ CutM a b c n (cutK (tV T) (kL (tC T t) + gu) (insF (kS (tC T t)) tl p gu)) ∧ ∀ j, j < kL (tC T t) + gu → f j = insF (kS (tC T t)) tl p gu j) ∧ Out h h1 270 13) := by
  obtain ⟨m0, m1, m2, m3, m4, m5, m6, m7, m8, m9, m10, m11, m12⟩ := id hm
  have ho : Out h h 270 13 := Out.rf
  have hX := hr.2.2 t ht
  have hKt := hT.2.1 t ht
  have h40 := hKt.1
  have h7 := hX.1
  have hsg : ∀ j, j < kL (tC T t) + gu → 1 ≤ insF (kS (tC T t)) tl p gu j ∧ insF (kS (tC T t)) tl p gu j ≤ 8 := fun j hj => by
    rw [insF]
    by_cases z1 : j < p
    · rw [if_pos z1]; exact hKt.2.1 _ (by omega)
    · rw [if_neg z1]
      by_cases z2 : j < p + gu
      · rw [if_pos z2]; exact (hgo _ (by omega)).2
      · rw [if_neg z2]; exact hKt.2.1 _ (by omega)
  refine cn_of_ev (L0 := [_, _, _, _]) (by decide +kernel) rfl rfl (Nat.le_of_ble_eq_true rfl) rfl ?_
  refine ev_aload_n dX7_takeInserted_0 rfl rfl ?_
  refine ev_iload_n dX7_takeInserted_1 rfl rfl ?_
  refine ev_callVU1 dX7_takeInserted_2 cal_X7_takeRow lk_7_175 ⟨(Nat.le_of_ble_eq_true rfl), (Nat.le_of_ble_eq_true rfl)⟩ rfl m0 (Nat.le_of_ble_eq_true rfl) (k_takeRow hm t ht (by omega)) (fun v h2 hq2 => ?_)
  refine ev_pc (pc' := 5) rfl ?_
  obtain ⟨rfl, ⟨f, hm2f, hf⟩, o2⟩ := hq2
  have ho := ho.tr o2
  rw [h7] at hm2f hf
  have hf2 : ∀ j, j < kL (tC T t) → f j = kS (tC T t) j := fun j hj => by rw [hf j hj]; exact hX.2.1 j hj
  obtain ⟨m0, m1, m2, m3, m4, m5, m6, m7, m8, m9, m10, m11, m12⟩ := id hm2f
  refine ev_aload_n dX7_takeInserted_5 rfl rfl ?_
  refine ev_getfield dX7_takeInserted_6 lf_7_62 m0 rfl ?_
  refine ev_iconst (nI 1) dX7_takeInserted_9 rfl ?_
  refine ev_isub dX7_takeInserted_10 ?_
  refine ev_istore_n (L' := [_, _, _, _]) dX7_takeInserted_11 rfl (Nat.le_of_ble_eq_true rfl) rfl ?_
  refine ev_pc (pc' := 12) rfl ?_
  have LP12 : ∀ (mz : Nat) (k : Nat) (h2 : mH) (F : Nat → Nat), k - p = mz → (p ≤ k) → (k ≤ kL (tC T t)) → (MN h2 gz gc gs gh gk gl gb gt F (kL (tC T t)) gp gq ge gn go gu gi ga gv gw gx) → (Out h h2 270 13) → (∀ j, k ≤ j → j < kL (tC T t) → F (j + gu) = f j) → (∀ j, j < k + gu → F j = f j) → Ev X m_X7_takeInserted B0 12 [.ref 270, .int (nI t), .int (nI p), .int (nI k - nI 1)] [] h2 (fun o h1 => ∃ v, o = .inl v ∧ (v = none ∧ (∃ f a b c n, MN h1 gz gc gs gh gk gl gb gt f (kL (tC T t) + gu) a b c n go gu gi ga gv gw gx ∧ CutM a b c n (cutK (tV T) (kL (tC T t) + gu) (insF (kS (tC T t)) tl p gu)) ∧ ∀ j, j < kL (tC T t) + gu → f j = insF (kS (tC T t)) tl p gu j) ∧ Out h h1 270 13)) := by
    intro mz
    induction mz using Nat.strongRecOn with
    | _ mz ih =>
      intro k h2 F hmz hk0 hk hm2 ho hF1 hF2
      obtain ⟨m0, m1, m2, m3, m4, m5, m6, m7, m8, m9, m10, m11, m12⟩ := id hm2
      refine ev_iload_n dX7_takeInserted_12 rfl rfl ?_
      refine ev_iload_n dX7_takeInserted_13 rfl rfl ?_
      refine ev_icmp_lt 40 dX7_takeInserted_14 rfl (fun hc14 => ?_) (fun hc14 => ?_)
      · refine ev_pc (pc' := 40) rfl ?_
        rw [i_lt, pk_sub_toInt (by omega) (by decide), nI_toInt (by omega)] at hc14
        have ek : p = k := by omega
        subst ek
        refine ev_fgt 3 (L' := [_, _, _, _]) rfl ?_
        refine ev_iconst (nI 0) dX7_takeInserted_40 rfl ?_
        refine ev_istore_n (L' := [_, _, _, _]) dX7_takeInserted_41 rfl (Nat.le_of_ble_eq_true rfl) rfl ?_
        refine ev_pc (pc' := 42) rfl ?_
        have LP42 : ∀ (mz : Nat) (k : Nat) (h3 : mH) (G : Nat → Nat), gu - k = mz → (k ≤ gu) → (MN h3 gz gc gs gh gk gl gb gt G (kL (tC T t)) gp gq ge gn go gu gi ga gv gw gx) → (Out h h3 270 13) → (∀ j, j < k → G (p + j) = tl j) → (∀ j, (j < p ∨ p + k ≤ j) → G j = F j) → Ev X m_X7_takeInserted B0 42 [.ref 270, .int (nI t), .int (nI p), .int (nI k)] [] h3 (fun o h1 => ∃ v, o = .inl v ∧ (v = none ∧ (∃ f a b c n, MN h1 gz gc gs gh gk gl gb gt f (kL (tC T t) + gu) a b c n go gu gi ga gv gw gx ∧ CutM a b c n (cutK (tV T) (kL (tC T t) + gu) (insF (kS (tC T t)) tl p gu)) ∧ ∀ j, j < kL (tC T t) + gu → f j = insF (kS (tC T t)) tl p gu j) ∧ Out h h1 270 13)) := by
          intro mz
          induction mz using Nat.strongRecOn with
          | _ mz ih =>
            intro k h3 G hmz hk hm3 ho hg1 hg2
            obtain ⟨m0, m1, m2, m3, m4, m5, m6, m7, m8, m9, m10, m11, m12⟩ := id hm3
            refine ev_iload_n dX7_takeInserted_42 rfl rfl ?_
            refine ev_aload_n dX7_takeInserted_43 rfl rfl ?_
            refine ev_getfield dX7_takeInserted_44 lf_7_142 m0 rfl ?_
            refine ev_icmp_geN 70 dX7_takeInserted_47 rfl (by omega) (by omega) (fun hc47 => ?_) (fun hc47 => ?_)
            · refine ev_pc (pc' := 70) rfl ?_
              have ek : k = gu := by omega
              subst ek
              have hrow : ∀ j, j < kL (tC T t) + k → G j = insF (kS (tC T t)) tl p k j := fun j hj => by
                rw [insF]
                by_cases z1 : j < p
                · rw [if_pos z1, hg2 j (Or.inl z1), hF2 j (by omega)]; exact hf2 j (by omega)
                · rw [if_neg z1]
                  by_cases z2 : j < p + k
                  · rw [if_pos z2]
                    have := hg1 (j - p) (by omega)
                    rwa [show p + (j - p) = j by omega] at this
                  · rw [if_neg z2, hg2 j (by omega)]
                    have := hF1 (j - k) (by omega) (by omega)
                    rw [show j - k + k = j by omega] at this
                    rw [this]; exact hf2 _ (by omega)
              obtain ⟨hKK, hcm, hrr⟩ := cut_row (gp := gp) (gq := gq) (ge := ge) (n := kL (tC T t) + k) (s := insF (kS (tC T t)) tl p k) hr hT (by omega) hsg hrow
              refine ev_aload_n dX7_takeInserted_70 rfl rfl ?_
              refine ev_dup dX7_takeInserted_71 rfl ?_
              refine ev_getfield dX7_takeInserted_72 lf_7_62 m0 rfl ?_
              refine ev_aload_n dX7_takeInserted_75 rfl rfl ?_
              refine ev_getfield dX7_takeInserted_76 lf_7_142 m0 rfl ?_
              refine ev_iaddN dX7_takeInserted_79 ?_
              refine em_pRM dX7_takeInserted_80 lf_7_62 hm3 (fun h80 hm80 o80 => ?_)
              have ho := ho.tr o80
              obtain ⟨m0, m1, m2, m3, m4, m5, m6, m7, m8, m9, m10, m11, m12⟩ := id hm80
              refine ev_aload_n dX7_takeInserted_83 rfl rfl ?_
              refine ev_callVU0 dX7_takeInserted_84 cal_X7_cut lk_7_154 ⟨(Nat.le_of_ble_eq_true rfl), (Nat.le_of_ble_eq_true rfl)⟩ rfl m0 (Nat.le_of_ble_eq_true rfl) (k_cut hm80 (rel_setV hr hT) hrr (by omega)) (fun v h84 hq84 => ?_)
              obtain ⟨rfl, hm84, o84⟩ := hq84
              have ho := ho.tr o84
              obtain ⟨m0, m1, m2, m3, m4, m5, m6, m7, m8, m9, m10, m11, m12⟩ := id hm84
              refine ev_return dX7_takeInserted_87 rfl (Or.inl rfl) (Nat.zero_le _) (Nat.zero_le _) ?_
              exact ⟨none, rfl, rfl, ⟨_, _, _, _, _, hm84, hcm, hrow⟩, ho⟩
            · refine ev_aload_n dX7_takeInserted_50 rfl rfl ?_
              refine ev_getfield dX7_takeInserted_51 lf_7_26 m0 rfl ?_
              refine ev_iload_n dX7_takeInserted_54 rfl rfl ?_
              refine ev_iload_n dX7_takeInserted_55 rfl rfl ?_
              refine ev_iaddN dX7_takeInserted_56 ?_
              refine ev_aload_n dX7_takeInserted_57 rfl rfl ?_
              refine ev_getfield dX7_takeInserted_58 lf_7_38 m0 rfl ?_
              refine ev_iload_n dX7_takeInserted_61 rfl rfl ?_
              refine ev_ialoadF dX7_takeInserted_62 m10 (by omega) (by decide) ?_
              refine em_iRw dX7_takeInserted_63 hm3 (by omega) (fun h63 hm63 o63 => ?_)
              have ho := ho.tr o63
              obtain ⟨m0, m1, m2, m3, m4, m5, m6, m7, m8, m9, m10, m11, m12⟩ := id hm63
              refine ev_iincN (L' := [_, _, _, _]) 1 dX7_takeInserted_64 rfl rfl ?_
              refine ev_goto 42 dX7_takeInserted_67 rfl ?_
              refine ev_pc (pc' := 42) rfl ?_
              refine ih _ (by omega) (k + 1) _ _ rfl (by omega) hm63 ho (fun j hj => ?_) (fun j hj => ?_)
              · by_cases e : j = k
                · rw [e, upN_s]; exact (hgo k (by omega)).1
                · rw [upN_n (by omega)]; exact hg1 j (by omega)
              · rw [upN_n (by omega)]; exact hg2 j (by omega)
        exact LP42 _ 0 _ F rfl (Nat.zero_le _) hm2 ho (fun j hj => absurd hj (Nat.not_lt_zero j)) (fun _ _ => rfl)
      · refine ev_pc (pc' := 17) rfl ?_
        rw [i_lt, pk_sub_toInt (by omega) (by decide), nI_toInt (by omega)] at hc14
        obtain ⟨q, rfl⟩ : ∃ q, k = q + 1 := ⟨k - 1, by omega⟩
        rw [pk_isubN' (show 1 ≤ q + 1 by omega), Nat.add_sub_cancel]
        refine ev_aload_n dX7_takeInserted_17 rfl rfl ?_
        refine ev_getfield dX7_takeInserted_18 lf_7_26 m0 rfl ?_
        refine ev_iload_n dX7_takeInserted_21 rfl rfl ?_
        refine ev_aload_n dX7_takeInserted_22 rfl rfl ?_
        refine ev_getfield dX7_takeInserted_23 lf_7_142 m0 rfl ?_
        refine ev_iaddN dX7_takeInserted_26 ?_
        refine ev_aload_n dX7_takeInserted_27 rfl rfl ?_
        refine ev_getfield dX7_takeInserted_28 lf_7_26 m0 rfl ?_
        refine ev_iload_n dX7_takeInserted_31 rfl rfl ?_
        refine ev_ialoadF dX7_takeInserted_32 m6 (by omega) (by decide) ?_
        refine em_iRw dX7_takeInserted_33 hm2 (by omega) (fun h33 hm33 o33 => ?_)
        have ho := ho.tr o33
        obtain ⟨m0, m1, m2, m3, m4, m5, m6, m7, m8, m9, m10, m11, m12⟩ := id hm33
        refine ev_iinc (nI q - nI 1) (L' := [_, _, _, _]) dX7_takeInserted_34 rfl (by rw [Int32.sub_eq_add_neg]; rfl) rfl ?_
        refine ev_goto 12 dX7_takeInserted_37 rfl ?_
        refine ev_pc (pc' := 12) rfl ?_
        refine ih _ (by omega) q _ _ rfl (by omega) (by omega) hm33 ho (fun j h1 h2 => ?_) (fun j hj => ?_)
        · by_cases e : j = q
          · rw [e, upN_s]; exact hF2 q (by omega)
          · rw [upN_n (by omega)]; exact hF1 j (by omega) h2
        · rw [upN_n (by omega)]; exact hF2 j (by omega)
  exact LP12 _ (kL (tC T t)) _ f rfl hp (Nat.le_refl _) hm2f ho (fun j h1 h2 => absurd h1 (by omega)) (fun _ _ => rfl)
set_option maxHeartbeats 4000000 in
set_option maxRecDepth 100000 in
theorem k_insert1 {X : mX} {h : mH} {gz : Nat → Nat} {gc : Nat → Int64} {gs : Nat} {gh : Nat → Nat} {gk : Nat → Int64} {gl : Nat} {gb : Nat → Nat} {gt : Nat} {gr : Nat → Nat} {gm : Nat} {gp : Nat → Int64} {gq : Nat → Nat} {ge : Nat → Nat} {gn : Nat} {go : Nat → Nat} {gu : Nat} {gi : Bool} {ga : Nat → Int64} {gv : Nat → Nat} {gw : Nat} {gx : Int64} (hm : MN h gz gc gs gh gk gl gb gt gr gm gp gq ge gn go gu gi ga gv gw gx) (t u : Int32) (ht : inX t 0 4 = false) : CnU X m_X7_insert [.ref 270, .int t, .int u] h (fun v h1 => v = some (.int (nI 0)) ∧ MS h1 gz gc gs gh gk gl gb 1 gx ∧ Out h h1 270 13) := by
  obtain ⟨m0, m1, m2, m3, m4, m5, m6, m7, m8, m9, m10, m11, m12⟩ := id hm
  have ho : Out h h 270 13 := Out.rf
  refine cn_of_ev (L0 := [_, _, _]) (by decide +kernel) rfl rfl (Nat.le_of_ble_eq_true rfl) rfl ?_
  refine ev_aload_n dX7_insert_0 rfl rfl ?_
  refine ev_iload_n dX7_insert_1 rfl rfl ?_
  refine ev_callSP1 dX7_insert_2 cal_X7_isText lk_7_157 ⟨(Nat.le_of_ble_eq_true rfl), (Nat.le_of_ble_eq_true rfl)⟩ rfl (Nat.le_of_ble_eq_true rfl) (k_isTextB ht) ?_
  refine ev_if_eqB 21 dX7_insert_5 rfl (fun hc5 => ?_) (fun hc5 => ?_)
  · refine ev_iconst (nI 1) dX7_insert_21 rfl ?_
    refine ev_goto 37 dX7_insert_22 rfl ?_
    refine em_pTh dX7_insert_37 lf_7_47 hm (fun h37 hm37 o37 => ?_)
    have ho := ho.tr o37
    obtain ⟨m0, m1, m2, m3, m4, m5, m6, m7, m8, m9, m10, m11, m12⟩ := id hm37
    refine ev_aload_n dX7_insert_40 rfl rfl ?_
    refine ev_getfield dX7_insert_41 lf_7_47 m0 rfl ?_
    refine ev_if_neN 71 dX7_insert_44 rfl (by omega) (fun hc44 => ?_) (fun hc44 => ?_)
    · refine ev_aload_n dX7_insert_71 rfl rfl ?_
      refine ev_getfield dX7_insert_72 lf_7_47 m0 rfl ?_
      refine ev_if_neN 101 dX7_insert_75 rfl (by omega) (fun hc75 => ?_) (fun hc75 => ?_)
      · refine ev_aload_n dX7_insert_101 rfl rfl ?_
        refine ev_getfield dX7_insert_102 lf_7_47 m0 rfl ?_
        refine ev_if_leN 110 dX7_insert_105 rfl (by omega) (fun hc105 => ?_) (fun hc105 => ?_)
        · first | omega | exact absurd hc105 (by decide)
        · refine ev_iconst (nI 0) dX7_insert_108 rfl ?_
          refine ev_ireturn dX7_insert_109 rfl (Or.inl rfl) (Nat.zero_le _) (Nat.zero_le _) ?_
          exact ⟨_, rfl, rfl, hm37.ms, ho⟩
      · first | omega | exact absurd hc75 (by decide)
    · first | omega | exact absurd hc44 (by decide)
  · first | omega | exact absurd hc5 (by decide)
set_option maxHeartbeats 4000000 in
set_option maxRecDepth 100000 in
theorem k_insert2 {X : mX} {h : mH} {gz : Nat → Nat} {gc : Nat → Int64} {gs : Nat} {gh : Nat → Nat} {gk : Nat → Int64} {gl : Nat} {gb : Nat → Nat} {gt : Nat} {gr : Nat → Nat} {gm : Nat} {gp : Nat → Int64} {gq : Nat → Nat} {ge : Nat → Nat} {gn : Nat} {go : Nat → Nat} {gu : Nat} {gi : Bool} {ga : Nat → Int64} {gv : Nat → Nat} {gw : Nat} {gx : Int64} (hm : MN h gz gc gs gh gk gl gb gt gr gm gp gq ge gn go gu gi ga gv gw gx) {T : mSt} (hr : RelT gz gc T) (hT : InvT T) (t : Nat) (u : Int32) (ht : t < 4) (hu : inX u 0 (kL (tC T t) + 1) = false) : CnU X m_X7_insert [.ref 270, .int (nI t), .int u] h (fun v h1 => v = some (.int (nI 0)) ∧ MS h1 gz gc gs gh gk gl gb 1 gx ∧ Out h h1 270 13) := by
  obtain ⟨m0, m1, m2, m3, m4, m5, m6, m7, m8, m9, m10, m11, m12⟩ := id hm
  have ho : Out h h 270 13 := Out.rf
  have hX := hr.2.2 t ht
  have hKt := hT.2.1 t ht
  have h40 := hKt.1
  have h7 := hX.1
  refine cn_of_ev (L0 := [_, _, _]) (by decide +kernel) rfl rfl (Nat.le_of_ble_eq_true rfl) rfl ?_
  refine ev_aload_n dX7_insert_0 rfl rfl ?_
  refine ev_iload_n dX7_insert_1 rfl rfl ?_
  refine ev_callSP1 dX7_insert_2 cal_X7_isText lk_7_157 ⟨(Nat.le_of_ble_eq_true rfl), (Nat.le_of_ble_eq_true rfl)⟩ rfl (Nat.le_of_ble_eq_true rfl) (k_isTextB (inY (by omega) (Nat.zero_le _) ht)) ?_
  refine ev_if_eqB 21 dX7_insert_5 rfl (fun hc5 => ?_) (fun hc5 => ?_)
  · first | omega | exact absurd hc5 (by decide)
  · refine ev_iload_n dX7_insert_8 rfl rfl ?_
    refine ev_iconst (nI 0) dX7_insert_9 rfl ?_
    refine ev_aload_n dX7_insert_10 rfl rfl ?_
    refine ev_iload_n dX7_insert_11 rfl rfl ?_
    refine ev_callVP1 dX7_insert_12 cal_X7_signsOf lk_7_58 ⟨(Nat.le_of_ble_eq_true rfl), (Nat.le_of_ble_eq_true rfl)⟩ rfl m0 (Nat.le_of_ble_eq_true rfl) ((show CnP X m_X7_signsOf _ _ (some (.int (nI (kL (tC T t))))) from by have z := k_signsOf (X := X) hm t ht; rwa [h7] at z)) ?_
    refine ev_callSP3 dX7_insert_15 cal_X7_within lk_7_54 ⟨(Nat.le_of_ble_eq_true rfl), (Nat.le_of_ble_eq_true rfl)⟩ rfl (Nat.le_of_ble_eq_true rfl) (k_wB hu (by decide) (by omega)) ?_
    refine ev_if_neB 25 dX7_insert_18 rfl (fun hc18 => ?_) (fun hc18 => ?_)
    · first | omega | exact absurd hc18 (by decide)
    · refine ev_iconst (nI 1) dX7_insert_21 rfl ?_
      refine ev_goto 37 dX7_insert_22 rfl ?_
      refine em_pTh dX7_insert_37 lf_7_47 hm (fun h37 hm37 o37 => ?_)
      have ho := ho.tr o37
      obtain ⟨m0, m1, m2, m3, m4, m5, m6, m7, m8, m9, m10, m11, m12⟩ := id hm37
      refine ev_aload_n dX7_insert_40 rfl rfl ?_
      refine ev_getfield dX7_insert_41 lf_7_47 m0 rfl ?_
      refine ev_if_neN 71 dX7_insert_44 rfl (by omega) (fun hc44 => ?_) (fun hc44 => ?_)
      · refine ev_aload_n dX7_insert_71 rfl rfl ?_
        refine ev_getfield dX7_insert_72 lf_7_47 m0 rfl ?_
        refine ev_if_neN 101 dX7_insert_75 rfl (by omega) (fun hc75 => ?_) (fun hc75 => ?_)
        · refine ev_aload_n dX7_insert_101 rfl rfl ?_
          refine ev_getfield dX7_insert_102 lf_7_47 m0 rfl ?_
          refine ev_if_leN 110 dX7_insert_105 rfl (by omega) (fun hc105 => ?_) (fun hc105 => ?_)
          · first | omega | exact absurd hc105 (by decide)
          · refine ev_iconst (nI 0) dX7_insert_108 rfl ?_
            refine ev_ireturn dX7_insert_109 rfl (Or.inl rfl) (Nat.zero_le _) (Nat.zero_le _) ?_
            exact ⟨_, rfl, rfl, hm37.ms, ho⟩
        · first | omega | exact absurd hc75 (by decide)
      · first | omega | exact absurd hc44 (by decide)
set_option maxHeartbeats 4000000 in
set_option maxRecDepth 100000 in
theorem k_insert3 {X : mX} {h : mH} {gz : Nat → Nat} {gc : Nat → Int64} {gs : Nat} {gh : Nat → Nat} {gk : Nat → Int64} {gl : Nat} {gb : Nat → Nat} {gt : Nat} {gr : Nat → Nat} {gm : Nat} {gp : Nat → Int64} {gq : Nat → Nat} {ge : Nat → Nat} {gn : Nat} {go : Nat → Nat} {gu : Nat} {gi : Bool} {ga : Nat → Int64} {gv : Nat → Nat} {gw : Nat} {gx : Int64} (hm : MN h gz gc gs gh gk gl gb gt gr gm gp gq ge gn go gu gi ga gv gw gx) {T : mSt} (hr : RelT gz gc T) (hT : InvT T) (hl60 : gl ≤ 60) (hb : ∀ j, j < gl → gb j ≤ 200) (t p : Nat) (ht : t < 4) (hp : p ≤ kL (tC T t)) (hw : whol gb gl = false) : CnU X m_X7_insert [.ref 270, .int (nI t), .int (nI p)] h (fun v h1 => v = some (.int (nI 0)) ∧ MS h1 gz gc gs gh gk gl gb 2 gx ∧ Out h h1 270 13) := by
  obtain ⟨m0, m1, m2, m3, m4, m5, m6, m7, m8, m9, m10, m11, m12⟩ := id hm
  have ho : Out h h 270 13 := Out.rf
  have hX := hr.2.2 t ht
  have hKt := hT.2.1 t ht
  have h40 := hKt.1
  have h7 := hX.1
  refine cn_of_ev (L0 := [_, _, _]) (by decide +kernel) rfl rfl (Nat.le_of_ble_eq_true rfl) rfl ?_
  refine ev_aload_n dX7_insert_0 rfl rfl ?_
  refine ev_iload_n dX7_insert_1 rfl rfl ?_
  refine ev_callSP1 dX7_insert_2 cal_X7_isText lk_7_157 ⟨(Nat.le_of_ble_eq_true rfl), (Nat.le_of_ble_eq_true rfl)⟩ rfl (Nat.le_of_ble_eq_true rfl) (k_isTextB (inY (by omega) (Nat.zero_le _) ht)) ?_
  refine ev_if_eqB 21 dX7_insert_5 rfl (fun hc5 => ?_) (fun hc5 => ?_)
  · first | omega | exact absurd hc5 (by decide)
  · refine ev_iload_n dX7_insert_8 rfl rfl ?_
    refine ev_iconst (nI 0) dX7_insert_9 rfl ?_
    refine ev_aload_n dX7_insert_10 rfl rfl ?_
    refine ev_iload_n dX7_insert_11 rfl rfl ?_
    refine ev_callVP1 dX7_insert_12 cal_X7_signsOf lk_7_58 ⟨(Nat.le_of_ble_eq_true rfl), (Nat.le_of_ble_eq_true rfl)⟩ rfl m0 (Nat.le_of_ble_eq_true rfl) ((show CnP X m_X7_signsOf _ _ (some (.int (nI (kL (tC T t))))) from by have z := k_signsOf (X := X) hm t ht; rwa [h7] at z)) ?_
    refine ev_callSP3 dX7_insert_15 cal_X7_within lk_7_54 ⟨(Nat.le_of_ble_eq_true rfl), (Nat.le_of_ble_eq_true rfl)⟩ rfl (Nat.le_of_ble_eq_true rfl) (k_wB (inY (by omega) (Nat.zero_le _) (by omega)) (by decide) (by omega)) ?_
    refine ev_if_neB 25 dX7_insert_18 rfl (fun hc18 => ?_) (fun hc18 => ?_)
    · refine ev_aload_n dX7_insert_25 rfl rfl ?_
      refine ev_callVU0 dX7_insert_26 cal_X7_isWhole lk_7_160 ⟨(Nat.le_of_ble_eq_true rfl), (Nat.le_of_ble_eq_true rfl)⟩ rfl m0 (Nat.le_of_ble_eq_true rfl) (k_isWhole hm hl60 hb) (fun v h26 hq26 => ?_)
      refine ev_pc (pc' := 29) rfl ?_
      obtain ⟨rfl, ⟨f, op, hm26, hf⟩, o26⟩ := hq26
      have ho := ho.tr o26
      rw [hw]
      obtain ⟨m0, m1, m2, m3, m4, m5, m6, m7, m8, m9, m10, m11, m12⟩ := id hm26
      refine ev_if_eqB 36 dX7_insert_29 rfl (fun hc29 => ?_) (fun hc29 => ?_)
      · refine ev_iconst (nI 2) dX7_insert_36 rfl ?_
        refine em_pTh dX7_insert_37 lf_7_47 hm26 (fun h37 hm37 o37 => ?_)
        have ho := ho.tr o37
        obtain ⟨m0, m1, m2, m3, m4, m5, m6, m7, m8, m9, m10, m11, m12⟩ := id hm37
        refine ev_aload_n dX7_insert_40 rfl rfl ?_
        refine ev_getfield dX7_insert_41 lf_7_47 m0 rfl ?_
        refine ev_if_neN 71 dX7_insert_44 rfl (by omega) (fun hc44 => ?_) (fun hc44 => ?_)
        · refine ev_aload_n dX7_insert_71 rfl rfl ?_
          refine ev_getfield dX7_insert_72 lf_7_47 m0 rfl ?_
          refine ev_if_neN 101 dX7_insert_75 rfl (by omega) (fun hc75 => ?_) (fun hc75 => ?_)
          · refine ev_aload_n dX7_insert_101 rfl rfl ?_
            refine ev_getfield dX7_insert_102 lf_7_47 m0 rfl ?_
            refine ev_if_leN 110 dX7_insert_105 rfl (by omega) (fun hc105 => ?_) (fun hc105 => ?_)
            · first | omega | exact absurd hc105 (by decide)
            · refine ev_iconst (nI 0) dX7_insert_108 rfl ?_
              refine ev_ireturn dX7_insert_109 rfl (Or.inl rfl) (Nat.zero_le _) (Nat.zero_le _) ?_
              exact ⟨_, rfl, rfl, hm37.ms, ho⟩
          · first | omega | exact absurd hc75 (by decide)
        · first | omega | exact absurd hc44 (by decide)
      · first | omega | exact absurd hc29 (by decide)
    · first | omega | exact absurd hc18 (by decide)
set_option maxHeartbeats 4000000 in
set_option maxRecDepth 100000 in
theorem k_insert4 {X : mX} {h : mH} {gz : Nat → Nat} {gc : Nat → Int64} {gs : Nat} {gh : Nat → Nat} {gk : Nat → Int64} {gl : Nat} {gb : Nat → Nat} {gt : Nat} {gr : Nat → Nat} {gm : Nat} {gp : Nat → Int64} {gq : Nat → Nat} {ge : Nat → Nat} {gn : Nat} {go : Nat → Nat} {gu : Nat} {gi : Bool} {ga : Nat → Int64} {gv : Nat → Nat} {gw : Nat} {gx : Int64} (hm : MN h gz gc gs gh gk gl gb gt gr gm gp gq ge gn go gu gi ga gv gw gx) {T : mSt} (hr : RelT gz gc T) (hT : InvT T) (hl60 : gl ≤ 60) (hb : ∀ j, j < gl → gb j ≤ 200) (t p : Nat) (ht : t < 4) (hp : p ≤ kL (tC T t)) (hw : whol gb gl = true) (hs : 40 < kL (tC T t) + smN (addN gb) gl) : CnU X m_X7_insert [.ref 270, .int (nI t), .int (nI p)] h (fun v h1 => v = some (.int (nI 0)) ∧ MS h1 gz gc gs gh gk gl gb 3 gx ∧ Out h h1 270 13) := by
  obtain ⟨m0, m1, m2, m3, m4, m5, m6, m7, m8, m9, m10, m11, m12⟩ := id hm
  have ho : Out h h 270 13 := Out.rf
  have hX := hr.2.2 t ht
  have hKt := hT.2.1 t ht
  have h40 := hKt.1
  have h7 := hX.1
  obtain ⟨w1, w2⟩ := whol_ok hw
  refine cn_of_ev (L0 := [_, _, _]) (by decide +kernel) rfl rfl (Nat.le_of_ble_eq_true rfl) rfl ?_
  refine ev_aload_n dX7_insert_0 rfl rfl ?_
  refine ev_iload_n dX7_insert_1 rfl rfl ?_
  refine ev_callSP1 dX7_insert_2 cal_X7_isText lk_7_157 ⟨(Nat.le_of_ble_eq_true rfl), (Nat.le_of_ble_eq_true rfl)⟩ rfl (Nat.le_of_ble_eq_true rfl) (k_isTextB (inY (by omega) (Nat.zero_le _) ht)) ?_
  refine ev_if_eqB 21 dX7_insert_5 rfl (fun hc5 => ?_) (fun hc5 => ?_)
  · first | omega | exact absurd hc5 (by decide)
  · refine ev_iload_n dX7_insert_8 rfl rfl ?_
    refine ev_iconst (nI 0) dX7_insert_9 rfl ?_
    refine ev_aload_n dX7_insert_10 rfl rfl ?_
    refine ev_iload_n dX7_insert_11 rfl rfl ?_
    refine ev_callVP1 dX7_insert_12 cal_X7_signsOf lk_7_58 ⟨(Nat.le_of_ble_eq_true rfl), (Nat.le_of_ble_eq_true rfl)⟩ rfl m0 (Nat.le_of_ble_eq_true rfl) ((show CnP X m_X7_signsOf _ _ (some (.int (nI (kL (tC T t))))) from by have z := k_signsOf (X := X) hm t ht; rwa [h7] at z)) ?_
    refine ev_callSP3 dX7_insert_15 cal_X7_within lk_7_54 ⟨(Nat.le_of_ble_eq_true rfl), (Nat.le_of_ble_eq_true rfl)⟩ rfl (Nat.le_of_ble_eq_true rfl) (k_wB (inY (by omega) (Nat.zero_le _) (by omega)) (by decide) (by omega)) ?_
    refine ev_if_neB 25 dX7_insert_18 rfl (fun hc18 => ?_) (fun hc18 => ?_)
    · refine ev_aload_n dX7_insert_25 rfl rfl ?_
      refine ev_callVU0 dX7_insert_26 cal_X7_isWhole lk_7_160 ⟨(Nat.le_of_ble_eq_true rfl), (Nat.le_of_ble_eq_true rfl)⟩ rfl m0 (Nat.le_of_ble_eq_true rfl) (k_isWhole hm hl60 hb) (fun v h26 hq26 => ?_)
      refine ev_pc (pc' := 29) rfl ?_
      obtain ⟨rfl, ⟨f, op, hm26, hf⟩, o26⟩ := hq26
      have ho := ho.tr o26
      rw [hw]
      rw [(whol_all hw).2.1] at hm26 hf
      obtain ⟨m0, m1, m2, m3, m4, m5, m6, m7, m8, m9, m10, m11, m12⟩ := id hm26
      refine ev_if_eqB 36 dX7_insert_29 rfl (fun hc29 => ?_) (fun hc29 => ?_)
      · first | omega | exact absurd hc29 (by decide)
      · refine ev_iconst (nI 0) dX7_insert_32 rfl ?_
        refine ev_goto 37 dX7_insert_33 rfl ?_
        refine em_pTh dX7_insert_37 lf_7_47 hm26 (fun h37 hm37 o37 => ?_)
        have ho := ho.tr o37
        obtain ⟨m0, m1, m2, m3, m4, m5, m6, m7, m8, m9, m10, m11, m12⟩ := id hm37
        refine ev_aload_n dX7_insert_40 rfl rfl ?_
        refine ev_getfield dX7_insert_41 lf_7_47 m0 rfl ?_
        refine ev_if_neN 71 dX7_insert_44 rfl (by omega) (fun hc44 => ?_) (fun hc44 => ?_)
        · first | omega | exact absurd hc44 (by decide)
        · refine ev_aload_n dX7_insert_47 rfl rfl ?_
          refine ev_aload_n dX7_insert_48 rfl rfl ?_
          refine ev_iload_n dX7_insert_49 rfl rfl ?_
          refine ev_callVP1 dX7_insert_50 cal_X7_signsOf lk_7_58 ⟨(Nat.le_of_ble_eq_true rfl), (Nat.le_of_ble_eq_true rfl)⟩ rfl m0 (Nat.le_of_ble_eq_true rfl) ((show CnP X m_X7_signsOf _ _ (some (.int (nI (kL (tC T t))))) from by have z := k_signsOf (X := X) hm37 t ht; rwa [h7] at z)) ?_
          refine ev_aload_n dX7_insert_53 rfl rfl ?_
          refine ev_getfield dX7_insert_54 lf_7_142 m0 rfl ?_
          refine ev_iaddN dX7_insert_57 ?_
          refine ev_bipush (nI 40) dX7_insert_58 rfl ?_
          refine ev_icmp_leN 67 dX7_insert_60 rfl (by omega) (by omega) (fun hc60 => ?_) (fun hc60 => ?_)
          · first | omega | exact absurd hc60 (by decide)
          · refine ev_iconst (nI 3) dX7_insert_63 rfl ?_
            refine ev_goto 68 dX7_insert_64 rfl ?_
            refine em_pTh dX7_insert_68 lf_7_47 hm37 (fun h68 hm68 o68 => ?_)
            have ho := ho.tr o68
            obtain ⟨m0, m1, m2, m3, m4, m5, m6, m7, m8, m9, m10, m11, m12⟩ := id hm68
            refine ev_aload_n dX7_insert_71 rfl rfl ?_
            refine ev_getfield dX7_insert_72 lf_7_47 m0 rfl ?_
            refine ev_if_neN 101 dX7_insert_75 rfl (by omega) (fun hc75 => ?_) (fun hc75 => ?_)
            · refine ev_aload_n dX7_insert_101 rfl rfl ?_
              refine ev_getfield dX7_insert_102 lf_7_47 m0 rfl ?_
              refine ev_if_leN 110 dX7_insert_105 rfl (by omega) (fun hc105 => ?_) (fun hc105 => ?_)
              · first | omega | exact absurd hc105 (by decide)
              · refine ev_iconst (nI 0) dX7_insert_108 rfl ?_
                refine ev_ireturn dX7_insert_109 rfl (Or.inl rfl) (Nat.zero_le _) (Nat.zero_le _) ?_
                exact ⟨_, rfl, rfl, hm68.ms, ho⟩
            · first | omega | exact absurd hc75 (by decide)
    · first | omega | exact absurd hc18 (by decide)
set_option maxHeartbeats 4000000 in
set_option maxRecDepth 100000 in
theorem k_insert {X : mX} {h : mH} {gz : Nat → Nat} {gc : Nat → Int64} {gs : Nat} {gh : Nat → Nat} {gk : Nat → Int64} {gl : Nat} {gb : Nat → Nat} {gt : Nat} {gr : Nat → Nat} {gm : Nat} {gp : Nat → Int64} {gq : Nat → Nat} {ge : Nat → Nat} {gn : Nat} {go : Nat → Nat} {gu : Nat} {gi : Bool} {ga : Nat → Int64} {gv : Nat → Nat} {gw : Nat} {gx : Int64} (hm : MN h gz gc gs gh gk gl gb gt gr gm gp gq ge gn go gu gi ga gv gw gx) {T : mSt} (hr : RelT gz gc T) (hT : InvT T) {n : Nat} {Ts : Nat → mSt} (hh : HisR gs gh gk n Ts) (hI : ∀ i, i < n → InvT (Ts i)) (hn6 : n ≤ 6) (hl60 : gl ≤ 60) (hb : ∀ j, j < gl → gb j ≤ 200) (t p : Nat) (ht : t < 4) (hp : p ≤ kL (tC T t)) (hw : whol gb gl = true) (hs : kL (tC T t) + smN (addN gb) gl ≤ 40) (hok : okS T t (cutK (tV T) (kL (tC T t) + smN (addN gb) gl) (insF (kS (tC T t)) (tlN gb gl) p (smN (addN gb) gl))) = true) : CnU X m_X7_insert [.ref 270, .int (nI t), .int (nI p)] h (fun v h1 => v = some (.int (nI (kN (cutK (tV T) (kL (tC T t) + smN (addN gb) gl) (insF (kS (tC T t)) (tlN gb gl) p (smN (addN gb) gl)))))) ∧ (∃ z c s H E, MS h1 z c s H E 0 gb 0 gx ∧ RelT z c (chgT T t (cutK (tV T) (kL (tC T t) + smN (addN gb) gl) (insF (kS (tC T t)) (tlN gb gl) p (smN (addN gb) gl)))) ∧ HisR s H E (pshN n) (pshT n Ts T)) ∧ Out h h1 270 13) := by
  obtain ⟨m0, m1, m2, m3, m4, m5, m6, m7, m8, m9, m10, m11, m12⟩ := id hm
  have ho : Out h h 270 13 := Out.rf
  have hX := hr.2.2 t ht
  have hKt := hT.2.1 t ht
  have h40 := hKt.1
  have h7 := hX.1
  obtain ⟨w1, w2⟩ := whol_ok hw
  have hsg : ∀ j, j < kL (tC T t) + smN (addN gb) gl → 1 ≤ insF (kS (tC T t)) (tlN gb gl) p (smN (addN gb) gl) j ∧ insF (kS (tC T t)) (tlN gb gl) p (smN (addN gb) gl) j ≤ 8 := fun j hj => by
    rw [insF]
    by_cases z1 : j < p
    · rw [if_pos z1]; exact hKt.2.1 _ (by omega)
    · rw [if_neg z1]
      by_cases z2 : j < p + smN (addN gb) gl
      · rw [if_pos z2]; exact w2 _ (by omega)
      · rw [if_neg z2]; exact hKt.2.1 _ (by omega)
  have hK : Tile (cutK (tV T) (kL (tC T t) + smN (addN gb) gl) (insF (kS (tC T t)) (tlN gb gl) p (smN (addN gb) gl))) := cutK_tile hT.1 hs hsg
  refine cn_of_ev (L0 := [_, _, _]) (by decide +kernel) rfl rfl (Nat.le_of_ble_eq_true rfl) rfl ?_
  refine ev_aload_n dX7_insert_0 rfl rfl ?_
  refine ev_iload_n dX7_insert_1 rfl rfl ?_
  refine ev_callSP1 dX7_insert_2 cal_X7_isText lk_7_157 ⟨(Nat.le_of_ble_eq_true rfl), (Nat.le_of_ble_eq_true rfl)⟩ rfl (Nat.le_of_ble_eq_true rfl) (k_isTextB (inY (by omega) (Nat.zero_le _) ht)) ?_
  refine ev_if_eqB 21 dX7_insert_5 rfl (fun hc5 => ?_) (fun hc5 => ?_)
  · first | omega | exact absurd hc5 (by decide)
  · refine ev_iload_n dX7_insert_8 rfl rfl ?_
    refine ev_iconst (nI 0) dX7_insert_9 rfl ?_
    refine ev_aload_n dX7_insert_10 rfl rfl ?_
    refine ev_iload_n dX7_insert_11 rfl rfl ?_
    refine ev_callVP1 dX7_insert_12 cal_X7_signsOf lk_7_58 ⟨(Nat.le_of_ble_eq_true rfl), (Nat.le_of_ble_eq_true rfl)⟩ rfl m0 (Nat.le_of_ble_eq_true rfl) ((show CnP X m_X7_signsOf _ _ (some (.int (nI (kL (tC T t))))) from by have z := k_signsOf (X := X) hm t ht; rwa [h7] at z)) ?_
    refine ev_callSP3 dX7_insert_15 cal_X7_within lk_7_54 ⟨(Nat.le_of_ble_eq_true rfl), (Nat.le_of_ble_eq_true rfl)⟩ rfl (Nat.le_of_ble_eq_true rfl) (k_wB (inY (by omega) (Nat.zero_le _) (by omega)) (by decide) (by omega)) ?_
    refine ev_if_neB 25 dX7_insert_18 rfl (fun hc18 => ?_) (fun hc18 => ?_)
    · refine ev_aload_n dX7_insert_25 rfl rfl ?_
      refine ev_callVU0 dX7_insert_26 cal_X7_isWhole lk_7_160 ⟨(Nat.le_of_ble_eq_true rfl), (Nat.le_of_ble_eq_true rfl)⟩ rfl m0 (Nat.le_of_ble_eq_true rfl) (k_isWhole hm hl60 hb) (fun v h26 hq26 => ?_)
      refine ev_pc (pc' := 29) rfl ?_
      obtain ⟨rfl, ⟨f, op, hm26, hf⟩, o26⟩ := hq26
      have ho := ho.tr o26
      rw [hw]
      rw [(whol_all hw).2.1] at hm26 hf
      obtain ⟨m0, m1, m2, m3, m4, m5, m6, m7, m8, m9, m10, m11, m12⟩ := id hm26
      refine ev_if_eqB 36 dX7_insert_29 rfl (fun hc29 => ?_) (fun hc29 => ?_)
      · first | omega | exact absurd hc29 (by decide)
      · refine ev_iconst (nI 0) dX7_insert_32 rfl ?_
        refine ev_goto 37 dX7_insert_33 rfl ?_
        refine em_pTh dX7_insert_37 lf_7_47 hm26 (fun h37 hm37 o37 => ?_)
        have ho := ho.tr o37
        obtain ⟨m0, m1, m2, m3, m4, m5, m6, m7, m8, m9, m10, m11, m12⟩ := id hm37
        refine ev_aload_n dX7_insert_40 rfl rfl ?_
        refine ev_getfield dX7_insert_41 lf_7_47 m0 rfl ?_
        refine ev_if_neN 71 dX7_insert_44 rfl (by omega) (fun hc44 => ?_) (fun hc44 => ?_)
        · first | omega | exact absurd hc44 (by decide)
        · refine ev_aload_n dX7_insert_47 rfl rfl ?_
          refine ev_aload_n dX7_insert_48 rfl rfl ?_
          refine ev_iload_n dX7_insert_49 rfl rfl ?_
          refine ev_callVP1 dX7_insert_50 cal_X7_signsOf lk_7_58 ⟨(Nat.le_of_ble_eq_true rfl), (Nat.le_of_ble_eq_true rfl)⟩ rfl m0 (Nat.le_of_ble_eq_true rfl) ((show CnP X m_X7_signsOf _ _ (some (.int (nI (kL (tC T t))))) from by have z := k_signsOf (X := X) hm37 t ht; rwa [h7] at z)) ?_
          refine ev_aload_n dX7_insert_53 rfl rfl ?_
          refine ev_getfield dX7_insert_54 lf_7_142 m0 rfl ?_
          refine ev_iaddN dX7_insert_57 ?_
          refine ev_bipush (nI 40) dX7_insert_58 rfl ?_
          refine ev_icmp_leN 67 dX7_insert_60 rfl (by omega) (by omega) (fun hc60 => ?_) (fun hc60 => ?_)
          · refine ev_iconst (nI 0) dX7_insert_67 rfl ?_
            refine em_pTh dX7_insert_68 lf_7_47 hm37 (fun h68 hm68 o68 => ?_)
            have ho := ho.tr o68
            obtain ⟨m0, m1, m2, m3, m4, m5, m6, m7, m8, m9, m10, m11, m12⟩ := id hm68
            refine ev_aload_n dX7_insert_71 rfl rfl ?_
            refine ev_getfield dX7_insert_72 lf_7_47 m0 rfl ?_
            refine ev_if_neN 101 dX7_insert_75 rfl (by omega) (fun hc75 => ?_) (fun hc75 => ?_)
            · first | omega | exact absurd hc75 (by decide)
            · refine ev_aload_n dX7_insert_78 rfl rfl ?_
              refine ev_iload_n dX7_insert_79 rfl rfl ?_
              refine ev_iload_n dX7_insert_80 rfl rfl ?_
              refine ev_callVU2 dX7_insert_81 cal_X7_takeInserted lk_7_178 ⟨(Nat.le_of_ble_eq_true rfl), (Nat.le_of_ble_eq_true rfl)⟩ rfl m0 (Nat.le_of_ble_eq_true rfl) (k_takeInserted hm68 hr hT t p ht hp (by omega) (tl := tlN gb gl) (fun j hj => ⟨hf j hj, w2 j hj⟩)) (fun v h81 hq81 => ?_)
              refine ev_pc (pc' := 84) rfl ?_
              obtain ⟨rfl, ⟨f2, _, _, _, _, hm81, hcm, hgr⟩, o81⟩ := hq81
              have ho := ho.tr o81
              obtain ⟨m0, m1, m2, m3, m4, m5, m6, m7, m8, m9, m10, m11, m12⟩ := id hm81
              have hgm : kL (tC T t) + smN (addN gb) gl = kL (cutK (tV T) (kL (tC T t) + smN (addN gb) gl) (insF (kS (tC T t)) (tlN gb gl) p (smN (addN gb) gl))) := rfl
              refine ev_aload_n dX7_insert_84 rfl rfl ?_
              refine ev_aload_n dX7_insert_85 rfl rfl ?_
              refine ev_iload_n dX7_insert_86 rfl rfl ?_
              refine ev_callVP1 dX7_insert_87 cal_X7_isRefused lk_7_166 ⟨(Nat.le_of_ble_eq_true rfl), (Nat.le_of_ble_eq_true rfl)⟩ rfl m0 (Nat.le_of_ble_eq_true rfl) ((show CnP X m_X7_isRefused _ _ (some (.int (bI false))) from by have z := k_isRefused (X := X) hm81 (hcm.q hK).1 (hcm.q hK).2 hr.2.1.kp t ht (hr.tx hT ht) (hr.ob hT ht); rwa [rel_ref hr hT hcm hK ht, hok] at z)) ?_
              refine ev_if_eqB 97 dX7_insert_90 rfl (fun hc90 => ?_) (fun hc90 => ?_)
              · refine ev_iconst (nI 0) dX7_insert_97 rfl ?_
                refine em_pTh dX7_insert_98 lf_7_47 hm81 (fun h98 hm98 o98 => ?_)
                have ho := ho.tr o98
                obtain ⟨m0, m1, m2, m3, m4, m5, m6, m7, m8, m9, m10, m11, m12⟩ := id hm98
                refine ev_aload_n dX7_insert_101 rfl rfl ?_
                refine ev_getfield dX7_insert_102 lf_7_47 m0 rfl ?_
                refine ev_if_leN 110 dX7_insert_105 rfl (by omega) (fun hc105 => ?_) (fun hc105 => ?_)
                · refine ev_aload_n dX7_insert_110 rfl rfl ?_
                  refine ev_callVU0 dX7_insert_111 cal_X7_save lk_7_169 ⟨(Nat.le_of_ble_eq_true rfl), (Nat.le_of_ble_eq_true rfl)⟩ rfl m0 (Nat.le_of_ble_eq_true rfl) (k_save hm98 hr hT hh hI hn6) (fun v h111 hq111 => ?_)
                  refine ev_pc (pc' := 114) rfl ?_
                  obtain ⟨rfl, ⟨s1, H1, E1, hm111, hh1⟩, o111⟩ := hq111
                  have ho := ho.tr o111
                  obtain ⟨m0, m1, m2, m3, m4, m5, m6, m7, m8, m9, m10, m11, m12⟩ := id hm111
                  refine ev_aload_n dX7_insert_114 rfl rfl ?_
                  refine ev_iconst (nI 0) dX7_insert_115 rfl ?_
                  refine em_pLn dX7_insert_116 lf_7_145 hm111 (fun h116 hm116 o116 => ?_)
                  have ho := ho.tr o116
                  obtain ⟨m0, m1, m2, m3, m4, m5, m6, m7, m8, m9, m10, m11, m12⟩ := id hm116
                  refine ev_aload_n dX7_insert_119 rfl rfl ?_
                  refine ev_iload_n dX7_insert_120 rfl rfl ?_
                  refine ev_callVU1 dX7_insert_121 cal_X7_lay lk_7_172 ⟨(Nat.le_of_ble_eq_true rfl), (Nat.le_of_ble_eq_true rfl)⟩ rfl m0 (Nat.le_of_ble_eq_true rfl) (k_lay hm116 hr hT hK hcm hgm hgr t ht hok) (fun v h121 hq121 => ?_)
                  refine ev_pc (pc' := 124) rfl ?_
                  obtain ⟨rfl, ⟨z9, c9, hm121, hr9⟩, o121⟩ := hq121
                  have ho := ho.tr o121
                  refine ev_ireturn dX7_insert_124 rfl (Or.inl rfl) (Nat.zero_le _) (Nat.zero_le _) ?_
                  exact ⟨_, rfl, rfl, ⟨_, _, _, _, _, hm121.ms, hr9, hh1⟩, ho⟩
                · first | omega | exact absurd hc105 (by decide)
              · first | omega | exact absurd hc90 (by decide)
          · first | omega | exact absurd hc60 (by decide)
    · first | omega | exact absurd hc18 (by decide)
set_option maxHeartbeats 4000000 in
set_option maxRecDepth 100000 in
theorem k_insert9 {X : mX} {h : mH} {gz : Nat → Nat} {gc : Nat → Int64} {gs : Nat} {gh : Nat → Nat} {gk : Nat → Int64} {gl : Nat} {gb : Nat → Nat} {gt : Nat} {gr : Nat → Nat} {gm : Nat} {gp : Nat → Int64} {gq : Nat → Nat} {ge : Nat → Nat} {gn : Nat} {go : Nat → Nat} {gu : Nat} {gi : Bool} {ga : Nat → Int64} {gv : Nat → Nat} {gw : Nat} {gx : Int64} (hm : MN h gz gc gs gh gk gl gb gt gr gm gp gq ge gn go gu gi ga gv gw gx) {T : mSt} (hr : RelT gz gc T) (hT : InvT T) (hl60 : gl ≤ 60) (hb : ∀ j, j < gl → gb j ≤ 200) (t p : Nat) (ht : t < 4) (hp : p ≤ kL (tC T t)) (hw : whol gb gl = true) (hs : kL (tC T t) + smN (addN gb) gl ≤ 40) (hok : okS T t (cutK (tV T) (kL (tC T t) + smN (addN gb) gl) (insF (kS (tC T t)) (tlN gb gl) p (smN (addN gb) gl))) = false) : CnU X m_X7_insert [.ref 270, .int (nI t), .int (nI p)] h (fun v h1 => v = some (.int (nI 0)) ∧ MS h1 gz gc gs gh gk gl gb 3 gx ∧ Out h h1 270 13) := by
  obtain ⟨m0, m1, m2, m3, m4, m5, m6, m7, m8, m9, m10, m11, m12⟩ := id hm
  have ho : Out h h 270 13 := Out.rf
  have hX := hr.2.2 t ht
  have hKt := hT.2.1 t ht
  have h40 := hKt.1
  have h7 := hX.1
  obtain ⟨w1, w2⟩ := whol_ok hw
  have hsg : ∀ j, j < kL (tC T t) + smN (addN gb) gl → 1 ≤ insF (kS (tC T t)) (tlN gb gl) p (smN (addN gb) gl) j ∧ insF (kS (tC T t)) (tlN gb gl) p (smN (addN gb) gl) j ≤ 8 := fun j hj => by
    rw [insF]
    by_cases z1 : j < p
    · rw [if_pos z1]; exact hKt.2.1 _ (by omega)
    · rw [if_neg z1]
      by_cases z2 : j < p + smN (addN gb) gl
      · rw [if_pos z2]; exact w2 _ (by omega)
      · rw [if_neg z2]; exact hKt.2.1 _ (by omega)
  have hK : Tile (cutK (tV T) (kL (tC T t) + smN (addN gb) gl) (insF (kS (tC T t)) (tlN gb gl) p (smN (addN gb) gl))) := cutK_tile hT.1 hs hsg
  refine cn_of_ev (L0 := [_, _, _]) (by decide +kernel) rfl rfl (Nat.le_of_ble_eq_true rfl) rfl ?_
  refine ev_aload_n dX7_insert_0 rfl rfl ?_
  refine ev_iload_n dX7_insert_1 rfl rfl ?_
  refine ev_callSP1 dX7_insert_2 cal_X7_isText lk_7_157 ⟨(Nat.le_of_ble_eq_true rfl), (Nat.le_of_ble_eq_true rfl)⟩ rfl (Nat.le_of_ble_eq_true rfl) (k_isTextB (inY (by omega) (Nat.zero_le _) ht)) ?_
  refine ev_if_eqB 21 dX7_insert_5 rfl (fun hc5 => ?_) (fun hc5 => ?_)
  · first | omega | exact absurd hc5 (by decide)
  · refine ev_iload_n dX7_insert_8 rfl rfl ?_
    refine ev_iconst (nI 0) dX7_insert_9 rfl ?_
    refine ev_aload_n dX7_insert_10 rfl rfl ?_
    refine ev_iload_n dX7_insert_11 rfl rfl ?_
    refine ev_callVP1 dX7_insert_12 cal_X7_signsOf lk_7_58 ⟨(Nat.le_of_ble_eq_true rfl), (Nat.le_of_ble_eq_true rfl)⟩ rfl m0 (Nat.le_of_ble_eq_true rfl) ((show CnP X m_X7_signsOf _ _ (some (.int (nI (kL (tC T t))))) from by have z := k_signsOf (X := X) hm t ht; rwa [h7] at z)) ?_
    refine ev_callSP3 dX7_insert_15 cal_X7_within lk_7_54 ⟨(Nat.le_of_ble_eq_true rfl), (Nat.le_of_ble_eq_true rfl)⟩ rfl (Nat.le_of_ble_eq_true rfl) (k_wB (inY (by omega) (Nat.zero_le _) (by omega)) (by decide) (by omega)) ?_
    refine ev_if_neB 25 dX7_insert_18 rfl (fun hc18 => ?_) (fun hc18 => ?_)
    · refine ev_aload_n dX7_insert_25 rfl rfl ?_
      refine ev_callVU0 dX7_insert_26 cal_X7_isWhole lk_7_160 ⟨(Nat.le_of_ble_eq_true rfl), (Nat.le_of_ble_eq_true rfl)⟩ rfl m0 (Nat.le_of_ble_eq_true rfl) (k_isWhole hm hl60 hb) (fun v h26 hq26 => ?_)
      refine ev_pc (pc' := 29) rfl ?_
      obtain ⟨rfl, ⟨f, op, hm26, hf⟩, o26⟩ := hq26
      have ho := ho.tr o26
      rw [hw]
      rw [(whol_all hw).2.1] at hm26 hf
      obtain ⟨m0, m1, m2, m3, m4, m5, m6, m7, m8, m9, m10, m11, m12⟩ := id hm26
      refine ev_if_eqB 36 dX7_insert_29 rfl (fun hc29 => ?_) (fun hc29 => ?_)
      · first | omega | exact absurd hc29 (by decide)
      · refine ev_iconst (nI 0) dX7_insert_32 rfl ?_
        refine ev_goto 37 dX7_insert_33 rfl ?_
        refine em_pTh dX7_insert_37 lf_7_47 hm26 (fun h37 hm37 o37 => ?_)
        have ho := ho.tr o37
        obtain ⟨m0, m1, m2, m3, m4, m5, m6, m7, m8, m9, m10, m11, m12⟩ := id hm37
        refine ev_aload_n dX7_insert_40 rfl rfl ?_
        refine ev_getfield dX7_insert_41 lf_7_47 m0 rfl ?_
        refine ev_if_neN 71 dX7_insert_44 rfl (by omega) (fun hc44 => ?_) (fun hc44 => ?_)
        · first | omega | exact absurd hc44 (by decide)
        · refine ev_aload_n dX7_insert_47 rfl rfl ?_
          refine ev_aload_n dX7_insert_48 rfl rfl ?_
          refine ev_iload_n dX7_insert_49 rfl rfl ?_
          refine ev_callVP1 dX7_insert_50 cal_X7_signsOf lk_7_58 ⟨(Nat.le_of_ble_eq_true rfl), (Nat.le_of_ble_eq_true rfl)⟩ rfl m0 (Nat.le_of_ble_eq_true rfl) ((show CnP X m_X7_signsOf _ _ (some (.int (nI (kL (tC T t))))) from by have z := k_signsOf (X := X) hm37 t ht; rwa [h7] at z)) ?_
          refine ev_aload_n dX7_insert_53 rfl rfl ?_
          refine ev_getfield dX7_insert_54 lf_7_142 m0 rfl ?_
          refine ev_iaddN dX7_insert_57 ?_
          refine ev_bipush (nI 40) dX7_insert_58 rfl ?_
          refine ev_icmp_leN 67 dX7_insert_60 rfl (by omega) (by omega) (fun hc60 => ?_) (fun hc60 => ?_)
          · refine ev_iconst (nI 0) dX7_insert_67 rfl ?_
            refine em_pTh dX7_insert_68 lf_7_47 hm37 (fun h68 hm68 o68 => ?_)
            have ho := ho.tr o68
            obtain ⟨m0, m1, m2, m3, m4, m5, m6, m7, m8, m9, m10, m11, m12⟩ := id hm68
            refine ev_aload_n dX7_insert_71 rfl rfl ?_
            refine ev_getfield dX7_insert_72 lf_7_47 m0 rfl ?_
            refine ev_if_neN 101 dX7_insert_75 rfl (by omega) (fun hc75 => ?_) (fun hc75 => ?_)
            · first | omega | exact absurd hc75 (by decide)
            · refine ev_aload_n dX7_insert_78 rfl rfl ?_
              refine ev_iload_n dX7_insert_79 rfl rfl ?_
              refine ev_iload_n dX7_insert_80 rfl rfl ?_
              refine ev_callVU2 dX7_insert_81 cal_X7_takeInserted lk_7_178 ⟨(Nat.le_of_ble_eq_true rfl), (Nat.le_of_ble_eq_true rfl)⟩ rfl m0 (Nat.le_of_ble_eq_true rfl) (k_takeInserted hm68 hr hT t p ht hp (by omega) (tl := tlN gb gl) (fun j hj => ⟨hf j hj, w2 j hj⟩)) (fun v h81 hq81 => ?_)
              refine ev_pc (pc' := 84) rfl ?_
              obtain ⟨rfl, ⟨f2, _, _, _, _, hm81, hcm, hgr⟩, o81⟩ := hq81
              have ho := ho.tr o81
              obtain ⟨m0, m1, m2, m3, m4, m5, m6, m7, m8, m9, m10, m11, m12⟩ := id hm81
              have hgm : kL (tC T t) + smN (addN gb) gl = kL (cutK (tV T) (kL (tC T t) + smN (addN gb) gl) (insF (kS (tC T t)) (tlN gb gl) p (smN (addN gb) gl))) := rfl
              refine ev_aload_n dX7_insert_84 rfl rfl ?_
              refine ev_aload_n dX7_insert_85 rfl rfl ?_
              refine ev_iload_n dX7_insert_86 rfl rfl ?_
              refine ev_callVP1 dX7_insert_87 cal_X7_isRefused lk_7_166 ⟨(Nat.le_of_ble_eq_true rfl), (Nat.le_of_ble_eq_true rfl)⟩ rfl m0 (Nat.le_of_ble_eq_true rfl) ((show CnP X m_X7_isRefused _ _ (some (.int (bI true))) from by have z := k_isRefused (X := X) hm81 (hcm.q hK).1 (hcm.q hK).2 hr.2.1.kp t ht (hr.tx hT ht) (hr.ob hT ht); rwa [rel_ref hr hT hcm hK ht, hok] at z)) ?_
              refine ev_if_eqB 97 dX7_insert_90 rfl (fun hc90 => ?_) (fun hc90 => ?_)
              · first | omega | exact absurd hc90 (by decide)
              · refine ev_iconst (nI 3) dX7_insert_93 rfl ?_
                refine ev_goto 98 dX7_insert_94 rfl ?_
                refine em_pTh dX7_insert_98 lf_7_47 hm81 (fun h98 hm98 o98 => ?_)
                have ho := ho.tr o98
                obtain ⟨m0, m1, m2, m3, m4, m5, m6, m7, m8, m9, m10, m11, m12⟩ := id hm98
                refine ev_aload_n dX7_insert_101 rfl rfl ?_
                refine ev_getfield dX7_insert_102 lf_7_47 m0 rfl ?_
                refine ev_if_leN 110 dX7_insert_105 rfl (by omega) (fun hc105 => ?_) (fun hc105 => ?_)
                · first | omega | exact absurd hc105 (by decide)
                · refine ev_iconst (nI 0) dX7_insert_108 rfl ?_
                  refine ev_ireturn dX7_insert_109 rfl (Or.inl rfl) (Nat.zero_le _) (Nat.zero_le _) ?_
                  exact ⟨_, rfl, rfl, hm98.ms, ho⟩
          · first | omega | exact absurd hc60 (by decide)
    · first | omega | exact absurd hc18 (by decide)
