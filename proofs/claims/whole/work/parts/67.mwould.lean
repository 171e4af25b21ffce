set_option maxHeartbeats 4000000 in
set_option maxRecDepth 100000 in
theorem k_setThen {X : mX} {h : mH} {gz : Nat → Nat} {gc : Nat → Int64} {gs : Nat} {gh : Nat → Nat} {gk : Nat → Int64} {gl : Nat} {gb : Nat → Nat} {gt : Nat} {gr : Nat → Nat} {gm : Nat} {gp : Nat → Int64} {gq : Nat → Nat} {ge : Nat → Nat} {gn : Nat} {go : Nat → Nat} {gu : Nat} {gi : Bool} {ga : Nat → Int64} {gv : Nat → Nat} {gw : Nat} {gx : Int64} (hm : MN h gz gc gs gh gk gl gb gt gr gm gp gq ge gn go gu gi ga gv gw gx) {T : mSt} (hr : RelT gz gc T) (hT : InvT T) (t k x : Nat) (ht : t < 4) (hk : k < 5) (hx1 : lowF k ≤ x) (hx2 : x ≤ higF k) : CnU X m_X7_setThen [.ref 270, .int (nI t), .int (nI k), .int (nI x)] h (fun v h1 => v = some (.int (nI (kN (cutK (upN (tV T) k x) (kL (tC T t)) (kS (tC T t)))))) ∧ (∃ r m p q e, MN h1 gz gc gs gh gk gl gb gt r m p q e (kN (cutK (upN (tV T) k x) (kL (tC T t)) (kS (tC T t)))) go gu gi ga gv gw gx ∧ CutM p q e (kN (cutK (upN (tV T) k x) (kL (tC T t)) (kS (tC T t)))) (cutK (upN (tV T) k x) (kL (tC T t)) (kS (tC T t)))) ∧ Out h h1 270 13) := by
  obtain ⟨m0, m1, m2, m3, m4, m5, m6, m7, m8, m9, m10, m11, m12⟩ := id hm
  have ho : Out h h 270 13 := Out.rf
  have hkp := hr.2.1.kp
  have hxs : ∀ t, t < 4 → TxB gz t := fun t ht => hr.tx hT ht
  have hb0 : ∀ k, k < 60 → gz (551 + k) ≤ 1000 := fun k hk => Nat.le_trans (hr.2.1.ow hT.B hk) (by decide)
  have hx := hxs t ht
  have hX := hr.2.2 t ht
  have hK := hT.2.1 t ht
  have h40 := hK.1
  have hn40 := hK.n40
  have h7 := hX.1
  have e7 : upN gz k x (7 + t) = gz (7 + t) := upN_n (by omega)
  have hzv : SetV (upN gz k x) := setV_up (rel_setV hr hT) hk hx1 hx2
  refine cn_of_ev (L0 := [_, _, _, _, _]) (by decide +kernel) rfl rfl (Nat.le_of_ble_eq_true rfl) rfl ?_
  refine ev_aload_n dX7_setThen_0 rfl rfl ?_
  refine ev_getfield dX7_setThen_1 lf_7_7 m0 rfl ?_
  refine ev_iload_n dX7_setThen_4 rfl rfl ?_
  refine ev_ialoadF dX7_setThen_5 m1 (by omega) (by decide) ?_
  refine ev_istore (L' := [_, _, _, _, _]) dX7_setThen_6 (Nat.le_of_ble_eq_true rfl) rfl ?_
  refine ev_aload_n dX7_setThen_8 rfl rfl ?_
  refine ev_getfield dX7_setThen_9 lf_7_7 m0 rfl ?_
  refine ev_iload_n dX7_setThen_12 rfl rfl ?_
  refine ev_iload_n dX7_setThen_13 rfl rfl ?_
  refine em_iZ dX7_setThen_14 hm (by omega) (fun h14 hm14 o14 => ?_)
  have ho := ho.tr o14
  obtain ⟨m0, m1, m2, m3, m4, m5, m6, m7, m8, m9, m10, m11, m12⟩ := id hm14
  refine ev_aload_n dX7_setThen_15 rfl rfl ?_
  refine ev_iload_n dX7_setThen_16 rfl rfl ?_
  refine ev_callVU1 dX7_setThen_17 cal_X7_takeRow lk_7_175 ⟨(Nat.le_of_ble_eq_true rfl), (Nat.le_of_ble_eq_true rfl)⟩ rfl m0 (Nat.le_of_ble_eq_true rfl) (k_takeRow hm14 t ht (by omega)) (fun v h17 hq17 => ?_)
  refine ev_pc (pc' := 20) rfl ?_
  obtain ⟨rfl, ⟨f, hm17, hf⟩, o17⟩ := hq17
  have ho := ho.tr o17
  rw [e7] at hm17 hf
  have hf2 : ∀ j, j < kL (tC T t) → f j = kS (tC T t) j := fun j hj => by rw [hf j (by omega), upN_n (by omega)]; exact hX.2.1 j hj
  rw [h7] at hm17
  obtain ⟨m0, m1, m2, m3, m4, m5, m6, m7, m8, m9, m10, m11, m12⟩ := id hm17
  refine ev_aload_n dX7_setThen_20 rfl rfl ?_
  refine ev_callVU0 dX7_setThen_21 cal_X7_cut lk_7_154 ⟨(Nat.le_of_ble_eq_true rfl), (Nat.le_of_ble_eq_true rfl)⟩ rfl m0 (Nat.le_of_ble_eq_true rfl) (k_cut hm17 hzv (fun i hi => by rw [hf2 i hi]; exact hK.2.1 i hi) h40) (fun v h21 hq21 => ?_)
  obtain ⟨rfl, hm21, o21⟩ := hq21
  have ho := ho.tr o21
  obtain ⟨m0, m1, m2, m3, m4, m5, m6, m7, m8, m9, m10, m11, m12⟩ := id hm21
  refine ev_aload_n dX7_setThen_24 rfl rfl ?_
  refine ev_getfield dX7_setThen_25 lf_7_7 m0 rfl ?_
  refine ev_iload_n dX7_setThen_28 rfl rfl ?_
  refine ev_iload dX7_setThen_29 rfl ?_
  refine em_iZ dX7_setThen_31 hm21 (by omega) (fun h31 hm31 o31 => ?_)
  have ho := ho.tr o31
  obtain ⟨m0, m1, m2, m3, m4, m5, m6, m7, m8, m9, m10, m11, m12⟩ := id hm31
  refine ev_aload_n dX7_setThen_32 rfl rfl ?_
  refine ev_getfield dX7_setThen_33 lf_7_72 m0 rfl ?_
  refine ev_ireturn dX7_setThen_36 rfl (Or.inl rfl) (Nat.zero_le _) (Nat.zero_le _) ?_
  have hb : upN (upN gz k x) k (gz k) = gz := by
    funext i
    by_cases e : i = k
    · rw [e, upN_s]
    · rw [upN_n e, upN_n e]
  have hcm := cutM_of (v := upN (tV T) k x) (s := kS (tC T t)) (z := upN gz k x) (r := f) (n := kL (tC T t)) (gp := gp) (gq := gq) (ge := ge) (setV_up hT.1 hk hx1 hx2) hK.2.1 (fun i hi => by
    by_cases e : i = k
    · rw [e, upN_s, upN_s]
    · rw [upN_n e, upN_n e, hr.1 i hi]) hf2
  have hmF := hm31
  rw [hb] at hmF
  have hc1 := hcm.1
  rw [hc1] at hmF hcm
  rw [hc1]
  exact ⟨_, rfl, rfl, ⟨_, _, _, _, _, hmF, hcm⟩, ho⟩
set_option maxHeartbeats 4000000 in
set_option maxRecDepth 100000 in
theorem k_ifSet1 {X : mX} {h : mH} {gz : Nat → Nat} {gc : Nat → Int64} {gs : Nat} {gh : Nat → Nat} {gk : Nat → Int64} {gl : Nat} {gb : Nat → Nat} {gt : Nat} {gr : Nat → Nat} {gm : Nat} {gp : Nat → Int64} {gq : Nat → Nat} {ge : Nat → Nat} {gn : Nat} {go : Nat → Nat} {gu : Nat} {gi : Bool} {ga : Nat → Int64} {gv : Nat → Nat} {gw : Nat} {gx : Int64} (hm : MN h gz gc gs gh gk gl gb gt gr gm gp gq ge gn go gu gi ga gv gw gx) (t u w : Int32) (ht : inX t 0 4 = false) : CnU X m_X7_ifSet [.ref 270, .int t, .int u, .int w] h (fun v h1 => v = some (.int (nI 0)) ∧ MS h1 gz gc gs gh gk gl gb 1 gx ∧ Out h h1 270 13) := by
  obtain ⟨m0, m1, m2, m3, m4, m5, m6, m7, m8, m9, m10, m11, m12⟩ := id hm
  have ho : Out h h 270 13 := Out.rf
  refine cn_of_ev (L0 := [_, _, _, _]) (by decide +kernel) rfl rfl (Nat.le_of_ble_eq_true rfl) rfl ?_
  refine ev_aload_n dX7_ifSet_0 rfl rfl ?_
  refine ev_iload_n dX7_ifSet_1 rfl rfl ?_
  refine ev_callSP1 dX7_ifSet_2 cal_X7_isText lk_7_157 ⟨(Nat.le_of_ble_eq_true rfl), (Nat.le_of_ble_eq_true rfl)⟩ rfl (Nat.le_of_ble_eq_true rfl) (k_isTextB ht) ?_
  refine ev_if_eqB 15 dX7_ifSet_5 rfl (fun hc5 => ?_) (fun hc5 => ?_)
  · refine ev_iconst (nI 1) dX7_ifSet_15 rfl ?_
    refine ev_goto 32 dX7_ifSet_16 rfl ?_
    refine em_pTh dX7_ifSet_32 lf_7_47 hm (fun h32 hm32 o32 => ?_)
    have ho := ho.tr o32
    obtain ⟨m0, m1, m2, m3, m4, m5, m6, m7, m8, m9, m10, m11, m12⟩ := id hm32
    refine ev_aload_n dX7_ifSet_35 rfl rfl ?_
    refine ev_getfield dX7_ifSet_36 lf_7_47 m0 rfl ?_
    refine ev_if_leN 46 dX7_ifSet_39 rfl (by omega) (fun hc39 => ?_) (fun hc39 => ?_)
    · first | omega | exact absurd hc39 (by decide)
    · refine ev_iconst (nI 0) dX7_ifSet_42 rfl ?_
      refine ev_goto 53 dX7_ifSet_43 rfl ?_
      refine ev_ireturn dX7_ifSet_53 rfl (Or.inl rfl) (Nat.zero_le _) (Nat.zero_le _) ?_
      exact ⟨_, rfl, rfl, hm32.ms, ho⟩
  · first | omega | exact absurd hc5 (by decide)
set_option maxHeartbeats 4000000 in
set_option maxRecDepth 100000 in
theorem k_ifSet2 {X : mX} {h : mH} {gz : Nat → Nat} {gc : Nat → Int64} {gs : Nat} {gh : Nat → Nat} {gk : Nat → Int64} {gl : Nat} {gb : Nat → Nat} {gt : Nat} {gr : Nat → Nat} {gm : Nat} {gp : Nat → Int64} {gq : Nat → Nat} {ge : Nat → Nat} {gn : Nat} {go : Nat → Nat} {gu : Nat} {gi : Bool} {ga : Nat → Int64} {gv : Nat → Nat} {gw : Nat} {gx : Int64} (hm : MN h gz gc gs gh gk gl gb gt gr gm gp gq ge gn go gu gi ga gv gw gx) (t : Nat) (u w : Int32) (ht : t < 4) (hu : inX u 0 5 = false) : CnU X m_X7_ifSet [.ref 270, .int (nI t), .int u, .int w] h (fun v h1 => v = some (.int (nI 0)) ∧ MS h1 gz gc gs gh gk gl gb 1 gx ∧ Out h h1 270 13) := by
  obtain ⟨m0, m1, m2, m3, m4, m5, m6, m7, m8, m9, m10, m11, m12⟩ := id hm
  have ho : Out h h 270 13 := Out.rf
  refine cn_of_ev (L0 := [_, _, _, _]) (by decide +kernel) rfl rfl (Nat.le_of_ble_eq_true rfl) rfl ?_
  refine ev_aload_n dX7_ifSet_0 rfl rfl ?_
  refine ev_iload_n dX7_ifSet_1 rfl rfl ?_
  refine ev_callSP1 dX7_ifSet_2 cal_X7_isText lk_7_157 ⟨(Nat.le_of_ble_eq_true rfl), (Nat.le_of_ble_eq_true rfl)⟩ rfl (Nat.le_of_ble_eq_true rfl) (k_isTextB (inY (by omega) (Nat.zero_le _) ht)) ?_
  refine ev_if_eqB 15 dX7_ifSet_5 rfl (fun hc5 => ?_) (fun hc5 => ?_)
  · first | omega | exact absurd hc5 (by decide)
  · refine ev_iload_n dX7_ifSet_8 rfl rfl ?_
    refine ev_callSP1 dX7_ifSet_9 cal_X7_isSetting lk_7_188 ⟨(Nat.le_of_ble_eq_true rfl), (Nat.le_of_ble_eq_true rfl)⟩ rfl (Nat.le_of_ble_eq_true rfl) (k_isSetB hu) ?_
    refine ev_if_neB 19 dX7_ifSet_12 rfl (fun hc12 => ?_) (fun hc12 => ?_)
    · first | omega | exact absurd hc12 (by decide)
    · refine ev_iconst (nI 1) dX7_ifSet_15 rfl ?_
      refine ev_goto 32 dX7_ifSet_16 rfl ?_
      refine em_pTh dX7_ifSet_32 lf_7_47 hm (fun h32 hm32 o32 => ?_)
      have ho := ho.tr o32
      obtain ⟨m0, m1, m2, m3, m4, m5, m6, m7, m8, m9, m10, m11, m12⟩ := id hm32
      refine ev_aload_n dX7_ifSet_35 rfl rfl ?_
      refine ev_getfield dX7_ifSet_36 lf_7_47 m0 rfl ?_
      refine ev_if_leN 46 dX7_ifSet_39 rfl (by omega) (fun hc39 => ?_) (fun hc39 => ?_)
      · first | omega | exact absurd hc39 (by decide)
      · refine ev_iconst (nI 0) dX7_ifSet_42 rfl ?_
        refine ev_goto 53 dX7_ifSet_43 rfl ?_
        refine ev_ireturn dX7_ifSet_53 rfl (Or.inl rfl) (Nat.zero_le _) (Nat.zero_le _) ?_
        exact ⟨_, rfl, rfl, hm32.ms, ho⟩
set_option maxHeartbeats 4000000 in
set_option maxRecDepth 100000 in
theorem k_ifSet3 {X : mX} {h : mH} {gz : Nat → Nat} {gc : Nat → Int64} {gs : Nat} {gh : Nat → Nat} {gk : Nat → Int64} {gl : Nat} {gb : Nat → Nat} {gt : Nat} {gr : Nat → Nat} {gm : Nat} {gp : Nat → Int64} {gq : Nat → Nat} {ge : Nat → Nat} {gn : Nat} {go : Nat → Nat} {gu : Nat} {gi : Bool} {ga : Nat → Int64} {gv : Nat → Nat} {gw : Nat} {gx : Int64} (hm : MN h gz gc gs gh gk gl gb gt gr gm gp gq ge gn go gu gi ga gv gw gx) (t k : Nat) (w : Int32) (ht : t < 4) (hk : k < 5) (hw : inX w (lowF k) (higF k + 1) = false) : CnU X m_X7_ifSet [.ref 270, .int (nI t), .int (nI k), .int w] h (fun v h1 => v = some (.int (nI 0)) ∧ MS h1 gz gc gs gh gk gl gb 2 gx ∧ Out h h1 270 13) := by
  obtain ⟨m0, m1, m2, m3, m4, m5, m6, m7, m8, m9, m10, m11, m12⟩ := id hm
  have ho : Out h h 270 13 := Out.rf
  refine cn_of_ev (L0 := [_, _, _, _]) (by decide +kernel) rfl rfl (Nat.le_of_ble_eq_true rfl) rfl ?_
  refine ev_aload_n dX7_ifSet_0 rfl rfl ?_
  refine ev_iload_n dX7_ifSet_1 rfl rfl ?_
  refine ev_callSP1 dX7_ifSet_2 cal_X7_isText lk_7_157 ⟨(Nat.le_of_ble_eq_true rfl), (Nat.le_of_ble_eq_true rfl)⟩ rfl (Nat.le_of_ble_eq_true rfl) (k_isTextB (inY (by omega) (Nat.zero_le _) ht)) ?_
  refine ev_if_eqB 15 dX7_ifSet_5 rfl (fun hc5 => ?_) (fun hc5 => ?_)
  · first | omega | exact absurd hc5 (by decide)
  · refine ev_iload_n dX7_ifSet_8 rfl rfl ?_
    refine ev_callSP1 dX7_ifSet_9 cal_X7_isSetting lk_7_188 ⟨(Nat.le_of_ble_eq_true rfl), (Nat.le_of_ble_eq_true rfl)⟩ rfl (Nat.le_of_ble_eq_true rfl) (k_isSetB (inY (by omega) (Nat.zero_le _) hk)) ?_
    refine ev_if_neB 19 dX7_ifSet_12 rfl (fun hc12 => ?_) (fun hc12 => ?_)
    · refine ev_iload_n dX7_ifSet_19 rfl rfl ?_
      refine ev_iload_n dX7_ifSet_20 rfl rfl ?_
      refine ev_callSP2 dX7_ifSet_21 cal_X7_isValue lk_7_191 ⟨(Nat.le_of_ble_eq_true rfl), (Nat.le_of_ble_eq_true rfl)⟩ rfl (Nat.le_of_ble_eq_true rfl) (k_isValB hk hw) ?_
      refine ev_if_eqB 31 dX7_ifSet_24 rfl (fun hc24 => ?_) (fun hc24 => ?_)
      · refine ev_iconst (nI 2) dX7_ifSet_31 rfl ?_
        refine em_pTh dX7_ifSet_32 lf_7_47 hm (fun h32 hm32 o32 => ?_)
        have ho := ho.tr o32
        obtain ⟨m0, m1, m2, m3, m4, m5, m6, m7, m8, m9, m10, m11, m12⟩ := id hm32
        refine ev_aload_n dX7_ifSet_35 rfl rfl ?_
        refine ev_getfield dX7_ifSet_36 lf_7_47 m0 rfl ?_
        refine ev_if_leN 46 dX7_ifSet_39 rfl (by omega) (fun hc39 => ?_) (fun hc39 => ?_)
        · first | omega | exact absurd hc39 (by decide)
        · refine ev_iconst (nI 0) dX7_ifSet_42 rfl ?_
          refine ev_goto 53 dX7_ifSet_43 rfl ?_
          refine ev_ireturn dX7_ifSet_53 rfl (Or.inl rfl) (Nat.zero_le _) (Nat.zero_le _) ?_
          exact ⟨_, rfl, rfl, hm32.ms, ho⟩
      · first | omega | exact absurd hc24 (by decide)
    · first | omega | exact absurd hc12 (by decide)
set_option maxHeartbeats 4000000 in
set_option maxRecDepth 100000 in
theorem k_ifSet {X : mX} {h : mH} {gz : Nat → Nat} {gc : Nat → Int64} {gs : Nat} {gh : Nat → Nat} {gk : Nat → Int64} {gl : Nat} {gb : Nat → Nat} {gt : Nat} {gr : Nat → Nat} {gm : Nat} {gp : Nat → Int64} {gq : Nat → Nat} {ge : Nat → Nat} {gn : Nat} {go : Nat → Nat} {gu : Nat} {gi : Bool} {ga : Nat → Int64} {gv : Nat → Nat} {gw : Nat} {gx : Int64} (hm : MN h gz gc gs gh gk gl gb gt gr gm gp gq ge gn go gu gi ga gv gw gx) {T : mSt} (hr : RelT gz gc T) (hT : InvT T) (t k x : Nat) (ht : t < 4) (hk : k < 5) (hx1 : lowF k ≤ x) (hx2 : x ≤ higF k) : CnU X m_X7_ifSet [.ref 270, .int (nI t), .int (nI k), .int (nI x)] h (fun v h1 => v = some (.int (nI (kN (cutK (upN (tV T) k x) (kL (tC T t)) (kS (tC T t)))))) ∧ MS h1 gz gc gs gh gk gl gb 0 gx ∧ Out h h1 270 13) := by
  obtain ⟨m0, m1, m2, m3, m4, m5, m6, m7, m8, m9, m10, m11, m12⟩ := id hm
  have ho : Out h h 270 13 := Out.rf
  have hg20 := higF_le k
  refine cn_of_ev (L0 := [_, _, _, _]) (by decide +kernel) rfl rfl (Nat.le_of_ble_eq_true rfl) rfl ?_
  refine ev_aload_n dX7_ifSet_0 rfl rfl ?_
  refine ev_iload_n dX7_ifSet_1 rfl rfl ?_
  refine ev_callSP1 dX7_ifSet_2 cal_X7_isText lk_7_157 ⟨(Nat.le_of_ble_eq_true rfl), (Nat.le_of_ble_eq_true rfl)⟩ rfl (Nat.le_of_ble_eq_true rfl) (k_isTextB (inY (by omega) (Nat.zero_le _) ht)) ?_
  refine ev_if_eqB 15 dX7_ifSet_5 rfl (fun hc5 => ?_) (fun hc5 => ?_)
  · first | omega | exact absurd hc5 (by decide)
  · refine ev_iload_n dX7_ifSet_8 rfl rfl ?_
    refine ev_callSP1 dX7_ifSet_9 cal_X7_isSetting lk_7_188 ⟨(Nat.le_of_ble_eq_true rfl), (Nat.le_of_ble_eq_true rfl)⟩ rfl (Nat.le_of_ble_eq_true rfl) (k_isSetB (inY (by omega) (Nat.zero_le _) hk)) ?_
    refine ev_if_neB 19 dX7_ifSet_12 rfl (fun hc12 => ?_) (fun hc12 => ?_)
    · refine ev_iload_n dX7_ifSet_19 rfl rfl ?_
      refine ev_iload_n dX7_ifSet_20 rfl rfl ?_
      refine ev_callSP2 dX7_ifSet_21 cal_X7_isValue lk_7_191 ⟨(Nat.le_of_ble_eq_true rfl), (Nat.le_of_ble_eq_true rfl)⟩ rfl (Nat.le_of_ble_eq_true rfl) (k_isValB hk (inY (by omega) hx1 (by omega))) ?_
      refine ev_if_eqB 31 dX7_ifSet_24 rfl (fun hc24 => ?_) (fun hc24 => ?_)
      · first | omega | exact absurd hc24 (by decide)
      · refine ev_iconst (nI 0) dX7_ifSet_27 rfl ?_
        refine ev_goto 32 dX7_ifSet_28 rfl ?_
        refine em_pTh dX7_ifSet_32 lf_7_47 hm (fun h32 hm32 o32 => ?_)
        have ho := ho.tr o32
        obtain ⟨m0, m1, m2, m3, m4, m5, m6, m7, m8, m9, m10, m11, m12⟩ := id hm32
        refine ev_aload_n dX7_ifSet_35 rfl rfl ?_
        refine ev_getfield dX7_ifSet_36 lf_7_47 m0 rfl ?_
        refine ev_if_leN 46 dX7_ifSet_39 rfl (by omega) (fun hc39 => ?_) (fun hc39 => ?_)
        · refine ev_aload_n dX7_ifSet_46 rfl rfl ?_
          refine ev_iload_n dX7_ifSet_47 rfl rfl ?_
          refine ev_iload_n dX7_ifSet_48 rfl rfl ?_
          refine ev_iload_n dX7_ifSet_49 rfl rfl ?_
          refine ev_callVU3 dX7_ifSet_50 cal_X7_setThen lk_7_272 ⟨(Nat.le_of_ble_eq_true rfl), (Nat.le_of_ble_eq_true rfl)⟩ rfl m0 (Nat.le_of_ble_eq_true rfl) (k_setThen hm32 hr hT t k x ht hk hx1 hx2) (fun v h50 hq50 => ?_)
          refine ev_pc (pc' := 53) rfl ?_
          obtain ⟨rfl, ⟨_, _, _, _, _, hm50, -⟩, o50⟩ := hq50
          have ho := ho.tr o50
          refine ev_ireturn dX7_ifSet_53 rfl (Or.inl rfl) (Nat.zero_le _) (Nat.zero_le _) ?_
          exact ⟨_, rfl, rfl, hm50.ms, ho⟩
        · first | omega | exact absurd hc39 (by decide)
    · first | omega | exact absurd hc12 (by decide)
set_option maxHeartbeats 4000000 in
set_option maxRecDepth 100000 in
theorem k_putThen {X : mX} {h : mH} {gz : Nat → Nat} {gc : Nat → Int64} {gs : Nat} {gh : Nat → Nat} {gk : Nat → Int64} {gl : Nat} {gb : Nat → Nat} {gt : Nat} {gr : Nat → Nat} {gm : Nat} {gp : Nat → Int64} {gq : Nat → Nat} {ge : Nat → Nat} {gn : Nat} {go : Nat → Nat} {gu : Nat} {gi : Bool} {ga : Nat → Int64} {gv : Nat → Nat} {gw : Nat} {gx : Int64} (hm : MN h gz gc gs gh gk gl gb gt gr gm gp gq ge gn go gu gi ga gv gw gx) {T : mSt} (hr : RelT gz gc T) (hT : InvT T) (hl60 : gl ≤ 60) (hb : ∀ j, j < gl → gb j ≤ 200) (t w : Nat) (ht : t < 4) (hw : w < 4) : CnU X m_X7_putThen [.ref 270, .int (nI t), .int (nI w)] h (fun v h1 => v = some (.int (if whol gb gl = true then nI (ifpV T t (cutK (tV T) (smN (addN gb) gl) (tlN gb gl)) w) else -1)) ∧ MS h1 gz gc gs gh gk gl gb gt gx ∧ Out h h1 270 13) := by
  obtain ⟨m0, m1, m2, m3, m4, m5, m6, m7, m8, m9, m10, m11, m12⟩ := id hm
  have ho : Out h h 270 13 := Out.rf
  have hkp := hr.2.1.kp
  have hxs : ∀ t, t < 4 → TxB gz t := fun t ht => hr.tx hT ht
  have hb0 : ∀ k, k < 60 → gz (551 + k) ≤ 1000 := fun k hk => Nat.le_trans (hr.2.1.ow hT.B hk) (by decide)
  refine cn_of_ev (L0 := [_, _, _]) (by decide +kernel) rfl rfl (Nat.le_of_ble_eq_true rfl) rfl ?_
  refine ev_aload_n dX7_putThen_0 rfl rfl ?_
  refine ev_callVU0 dX7_putThen_1 cal_X7_isWhole lk_7_160 ⟨(Nat.le_of_ble_eq_true rfl), (Nat.le_of_ble_eq_true rfl)⟩ rfl m0 (Nat.le_of_ble_eq_true rfl) (k_isWhole hm hl60 hb) (fun v h1 hq1 => ?_)
  refine ev_pc (pc' := 4) rfl ?_
  obtain ⟨rfl, ⟨f, op, hm1, hf⟩, o1⟩ := hq1
  have ho := ho.tr o1
  obtain ⟨m0, m1, m2, m3, m4, m5, m6, m7, m8, m9, m10, m11, m12⟩ := id hm1
  refine ev_if_neB 9 dX7_putThen_4 rfl (fun hc4 => ?_) (fun hc4 => ?_)
  · refine ev_pc (pc' := 9) rfl ?_
    obtain ⟨w1, w2⟩ := whol_ok hc4
    have e9 := (whol_all hc4).2.1
    rw [e9] at hm1 hf
    refine ev_aload_n dX7_putThen_9 rfl rfl ?_
    refine ev_callVU0 dX7_putThen_10 cal_X7_takeTold lk_7_163 ⟨(Nat.le_of_ble_eq_true rfl), (Nat.le_of_ble_eq_true rfl)⟩ rfl m0 (Nat.le_of_ble_eq_true rfl) (k_takeTold hm1 (rel_setV hr hT) w1 (fun j hj => by rw [hf j hj]; exact w2 j hj)) (fun v h10 hq10 => ?_)
    refine ev_pc (pc' := 13) rfl ?_
    obtain ⟨rfl, ⟨f2, hm10, hf2⟩, o10⟩ := hq10
    have ho := ho.tr o10
    obtain ⟨m0, m1, m2, m3, m4, m5, m6, m7, m8, m9, m10, m11, m12⟩ := id hm10
    have hcm := cutM_of (v := tV T) (s := tlN gb gl) (z := gz) (r := f2) (n := smN (addN gb) gl) (gp := gp) (gq := gq) (ge := ge) hT.1 w2 (fun i hi => hr.1 i hi) (fun j hj => by rw [hf2 j hj, hf j hj])
    have hKK : Tile (cutK (tV T) (smN (addN gb) gl) (tlN gb gl)) := cutK_tile hT.1 w1 w2
    have hq40 := hcm.q hKK
    obtain ⟨ms1, ms2⟩ := rel_mss hr.2.1 hT.2.2.1 hcm hKK
    have hrf := rel_ref hr hT hcm hKK ht
    rw [if_pos hc4]
    refine ev_iload_n dX7_putThen_13 rfl rfl ?_
    refine ev_pc (pc' := 14) rfl ?_
    obtain rfl | rfl | rfl | rfl : w = 0 ∨ w = 1 ∨ w = 2 ∨ w = 3 := by omega
    · refine ev_tableIn 40 dX7_putThen_14 (by decide) (by decide) rfl rfl ?_
      refine ev_aload_n dX7_putThen_40 rfl rfl ?_
      refine ev_getfield dX7_putThen_41 lf_7_72 m0 rfl ?_
      refine ev_ireturn dX7_putThen_44 rfl (Or.inl rfl) (Nat.zero_le _) (Nat.zero_le _) ?_
      rw [hcm.1]
      exact ⟨_, rfl, rfl, hm10.ms, ho⟩
    · refine ev_tableIn 45 dX7_putThen_14 (by decide) (by decide) rfl rfl ?_
      refine ev_aload_n dX7_putThen_45 rfl rfl ?_
      refine ev_iload_n dX7_putThen_46 rfl rfl ?_
      refine ev_iconst (nI 2) dX7_putThen_47 rfl ?_
      refine ev_icmp_neN 55 dX7_putThen_48 rfl (by omega) (by omega) (fun hc48 => ?_) (fun hc48 => ?_)
      · refine ev_iconst (nI 0) dX7_putThen_55 rfl ?_
        refine ev_pc (pc' := 56) rfl ?_
        first
          | (refine ev_callVP1 dX7_putThen_56 cal_X7_missing lk_7_104 ⟨(Nat.le_of_ble_eq_true rfl), (Nat.le_of_ble_eq_true rfl)⟩ rfl m0 (Nat.le_of_ble_eq_true rfl) (show CnP X m_X7_missing [.ref 270, .int (nI 0)] _ _ from k_missing hm10 hq40.1 hq40.2 hkp false) ?_
             refine ev_ireturn dX7_putThen_59 rfl (Or.inl rfl) (Nat.zero_le _) (Nat.zero_le _) ?_
             rw [ms1]
             exact ⟨_, rfl, rfl, hm10.ms, ho⟩)
          | (refine ev_callVP1 dX7_putThen_56 cal_X7_missing lk_7_104 ⟨(Nat.le_of_ble_eq_true rfl), (Nat.le_of_ble_eq_true rfl)⟩ rfl m0 (Nat.le_of_ble_eq_true rfl) (show CnP X m_X7_missing [.ref 270, .int (nI 1)] _ _ from k_missing hm10 hq40.1 hq40.2 hkp true) ?_
             refine ev_ireturn dX7_putThen_59 rfl (Or.inl rfl) (Nat.zero_le _) (Nat.zero_le _) ?_
             rw [ms2]
             exact ⟨_, rfl, rfl, hm10.ms, ho⟩)
          | omega
      · refine ev_iconst (nI 1) dX7_putThen_51 rfl ?_
        refine ev_goto 56 dX7_putThen_52 rfl ?_
        refine ev_pc (pc' := 56) rfl ?_
        first
          | (refine ev_callVP1 dX7_putThen_56 cal_X7_missing lk_7_104 ⟨(Nat.le_of_ble_eq_true rfl), (Nat.le_of_ble_eq_true rfl)⟩ rfl m0 (Nat.le_of_ble_eq_true rfl) (show CnP X m_X7_missing [.ref 270, .int (nI 0)] _ _ from k_missing hm10 hq40.1 hq40.2 hkp false) ?_
             refine ev_ireturn dX7_putThen_59 rfl (Or.inl rfl) (Nat.zero_le _) (Nat.zero_le _) ?_
             rw [ms1]
             exact ⟨_, rfl, rfl, hm10.ms, ho⟩)
          | (refine ev_callVP1 dX7_putThen_56 cal_X7_missing lk_7_104 ⟨(Nat.le_of_ble_eq_true rfl), (Nat.le_of_ble_eq_true rfl)⟩ rfl m0 (Nat.le_of_ble_eq_true rfl) (show CnP X m_X7_missing [.ref 270, .int (nI 1)] _ _ from k_missing hm10 hq40.1 hq40.2 hkp true) ?_
             refine ev_ireturn dX7_putThen_59 rfl (Or.inl rfl) (Nat.zero_le _) (Nat.zero_le _) ?_
             rw [ms2]
             exact ⟨_, rfl, rfl, hm10.ms, ho⟩)
          | omega
    · refine ev_tableIn 45 dX7_putThen_14 (by decide) (by decide) rfl rfl ?_
      refine ev_aload_n dX7_putThen_45 rfl rfl ?_
      refine ev_iload_n dX7_putThen_46 rfl rfl ?_
      refine ev_iconst (nI 2) dX7_putThen_47 rfl ?_
      refine ev_icmp_neN 55 dX7_putThen_48 rfl (by omega) (by omega) (fun hc48 => ?_) (fun hc48 => ?_)
      · refine ev_iconst (nI 0) dX7_putThen_55 rfl ?_
        refine ev_pc (pc' := 56) rfl ?_
        first
          | (refine ev_callVP1 dX7_putThen_56 cal_X7_missing lk_7_104 ⟨(Nat.le_of_ble_eq_true rfl), (Nat.le_of_ble_eq_true rfl)⟩ rfl m0 (Nat.le_of_ble_eq_true rfl) (show CnP X m_X7_missing [.ref 270, .int (nI 0)] _ _ from k_missing hm10 hq40.1 hq40.2 hkp false) ?_
             refine ev_ireturn dX7_putThen_59 rfl (Or.inl rfl) (Nat.zero_le _) (Nat.zero_le _) ?_
             rw [ms1]
             exact ⟨_, rfl, rfl, hm10.ms, ho⟩)
          | (refine ev_callVP1 dX7_putThen_56 cal_X7_missing lk_7_104 ⟨(Nat.le_of_ble_eq_true rfl), (Nat.le_of_ble_eq_true rfl)⟩ rfl m0 (Nat.le_of_ble_eq_true rfl) (show CnP X m_X7_missing [.ref 270, .int (nI 1)] _ _ from k_missing hm10 hq40.1 hq40.2 hkp true) ?_
             refine ev_ireturn dX7_putThen_59 rfl (Or.inl rfl) (Nat.zero_le _) (Nat.zero_le _) ?_
             rw [ms2]
             exact ⟨_, rfl, rfl, hm10.ms, ho⟩)
          | omega
      · refine ev_iconst (nI 1) dX7_putThen_51 rfl ?_
        refine ev_goto 56 dX7_putThen_52 rfl ?_
        refine ev_pc (pc' := 56) rfl ?_
        first
          | (refine ev_callVP1 dX7_putThen_56 cal_X7_missing lk_7_104 ⟨(Nat.le_of_ble_eq_true rfl), (Nat.le_of_ble_eq_true rfl)⟩ rfl m0 (Nat.le_of_ble_eq_true rfl) (show CnP X m_X7_missing [.ref 270, .int (nI 0)] _ _ from k_missing hm10 hq40.1 hq40.2 hkp false) ?_
             refine ev_ireturn dX7_putThen_59 rfl (Or.inl rfl) (Nat.zero_le _) (Nat.zero_le _) ?_
             rw [ms1]
             exact ⟨_, rfl, rfl, hm10.ms, ho⟩)
          | (refine ev_callVP1 dX7_putThen_56 cal_X7_missing lk_7_104 ⟨(Nat.le_of_ble_eq_true rfl), (Nat.le_of_ble_eq_true rfl)⟩ rfl m0 (Nat.le_of_ble_eq_true rfl) (show CnP X m_X7_missing [.ref 270, .int (nI 1)] _ _ from k_missing hm10 hq40.1 hq40.2 hkp true) ?_
             refine ev_ireturn dX7_putThen_59 rfl (Or.inl rfl) (Nat.zero_le _) (Nat.zero_le _) ?_
             rw [ms2]
             exact ⟨_, rfl, rfl, hm10.ms, ho⟩)
          | omega
    · refine ev_tableOut 60 dX7_putThen_14 (Or.inr (by decide)) rfl ?_
      refine ev_aload_n dX7_putThen_60 rfl rfl ?_
      refine ev_iload_n dX7_putThen_61 rfl rfl ?_
      refine ev_callVP1 dX7_putThen_62 cal_X7_isRefused lk_7_166 ⟨(Nat.le_of_ble_eq_true rfl), (Nat.le_of_ble_eq_true rfl)⟩ rfl m0 (Nat.le_of_ble_eq_true rfl) ((show CnP X m_X7_isRefused _ _ (some (.int (bI (!(okS T t (cutK (tV T) (smN (addN gb) gl) (tlN gb gl))))))) from by have z := k_isRefused (X := X) hm10 hq40.1 hq40.2 hkp t ht (hxs t ht) (hr.ob hT ht); rwa [hrf] at z)) ?_
      refine ev_if_eqB 72 dX7_putThen_65 rfl (fun hc65 => ?_) (fun hc65 => ?_)
      · refine ev_iconst (nI 0) dX7_putThen_72 rfl ?_
        refine ev_ireturn dX7_putThen_73 rfl (Or.inl rfl) (Nat.zero_le _) (Nat.zero_le _) ?_
        first
          | (rw [show ifpV T t (cutK (tV T) (smN (addN gb) gl) (tlN gb gl)) 3 = 1 from congrArg b2n hc65]; exact ⟨_, rfl, rfl, hm10.ms, ho⟩)
          | (rw [show ifpV T t (cutK (tV T) (smN (addN gb) gl) (tlN gb gl)) 3 = 0 from congrArg b2n hc65]; exact ⟨_, rfl, rfl, hm10.ms, ho⟩)
      · refine ev_iconst (nI 1) dX7_putThen_68 rfl ?_
        refine ev_goto 73 dX7_putThen_69 rfl ?_
        refine ev_ireturn dX7_putThen_73 rfl (Or.inl rfl) (Nat.zero_le _) (Nat.zero_le _) ?_
        first
          | (rw [show ifpV T t (cutK (tV T) (smN (addN gb) gl) (tlN gb gl)) 3 = 1 from congrArg b2n hc65]; exact ⟨_, rfl, rfl, hm10.ms, ho⟩)
          | (rw [show ifpV T t (cutK (tV T) (smN (addN gb) gl) (tlN gb gl)) 3 = 0 from congrArg b2n hc65]; exact ⟨_, rfl, rfl, hm10.ms, ho⟩)
  · refine ev_pc (pc' := 7) rfl ?_
    rw [if_neg (by rw [hc4]; decide)]
    refine ev_iconst (-1) dX7_putThen_7 rfl ?_
    refine ev_ireturn dX7_putThen_8 rfl (Or.inl rfl) (Nat.zero_le _) (Nat.zero_le _) ?_
    exact ⟨_, rfl, rfl, hm1.ms, ho⟩
set_option maxHeartbeats 4000000 in
set_option maxRecDepth 100000 in
theorem k_ifPut1 {X : mX} {h : mH} {gz : Nat → Nat} {gc : Nat → Int64} {gs : Nat} {gh : Nat → Nat} {gk : Nat → Int64} {gl : Nat} {gb : Nat → Nat} {gt : Nat} {gr : Nat → Nat} {gm : Nat} {gp : Nat → Int64} {gq : Nat → Nat} {ge : Nat → Nat} {gn : Nat} {go : Nat → Nat} {gu : Nat} {gi : Bool} {ga : Nat → Int64} {gv : Nat → Nat} {gw : Nat} {gx : Int64} (hm : MN h gz gc gs gh gk gl gb gt gr gm gp gq ge gn go gu gi ga gv gw gx) (t w : Int32) (ht : inX t 0 4 = false) : CnU X m_X7_ifPut [.ref 270, .int t, .int w] h (fun v h1 => v = some (.int (nI 0)) ∧ MS h1 gz gc gs gh gk gl gb 1 gx ∧ Out h h1 270 13) := by
  obtain ⟨m0, m1, m2, m3, m4, m5, m6, m7, m8, m9, m10, m11, m12⟩ := id hm
  have ho : Out h h 270 13 := Out.rf
  refine cn_of_ev (L0 := [_, _, _]) (by decide +kernel) rfl rfl (Nat.le_of_ble_eq_true rfl) rfl ?_
  refine ev_aload_n dX7_ifPut_0 rfl rfl ?_
  refine ev_iload_n dX7_ifPut_1 rfl rfl ?_
  refine ev_callSP1 dX7_ifPut_2 cal_X7_isText lk_7_157 ⟨(Nat.le_of_ble_eq_true rfl), (Nat.le_of_ble_eq_true rfl)⟩ rfl (Nat.le_of_ble_eq_true rfl) (k_isTextB ht) ?_
  refine ev_if_neB 12 dX7_ifPut_5 rfl (fun hc5 => ?_) (fun hc5 => ?_)
  · first | omega | exact absurd hc5 (by decide)
  · refine ev_iconst (nI 1) dX7_ifPut_8 rfl ?_
    refine ev_goto 26 dX7_ifPut_9 rfl ?_
    refine em_pTh dX7_ifPut_26 lf_7_47 hm (fun h26 hm26 o26 => ?_)
    have ho := ho.tr o26
    obtain ⟨m0, m1, m2, m3, m4, m5, m6, m7, m8, m9, m10, m11, m12⟩ := id hm26
    refine ev_aload_n dX7_ifPut_29 rfl rfl ?_
    refine ev_getfield dX7_ifPut_30 lf_7_47 m0 rfl ?_
    refine ev_if_leN 40 dX7_ifPut_33 rfl (by omega) (fun hc33 => ?_) (fun hc33 => ?_)
    · first | omega | exact absurd hc33 (by decide)
    · refine ev_iconst (nI 0) dX7_ifPut_36 rfl ?_
      refine ev_goto 46 dX7_ifPut_37 rfl ?_
      refine ev_ireturn dX7_ifPut_46 rfl (Or.inl rfl) (Nat.zero_le _) (Nat.zero_le _) ?_
      exact ⟨_, rfl, rfl, hm26.ms, ho⟩
set_option maxHeartbeats 4000000 in
set_option maxRecDepth 100000 in
theorem k_ifPut2 {X : mX} {h : mH} {gz : Nat → Nat} {gc : Nat → Int64} {gs : Nat} {gh : Nat → Nat} {gk : Nat → Int64} {gl : Nat} {gb : Nat → Nat} {gt : Nat} {gr : Nat → Nat} {gm : Nat} {gp : Nat → Int64} {gq : Nat → Nat} {ge : Nat → Nat} {gn : Nat} {go : Nat → Nat} {gu : Nat} {gi : Bool} {ga : Nat → Int64} {gv : Nat → Nat} {gw : Nat} {gx : Int64} (hm : MN h gz gc gs gh gk gl gb gt gr gm gp gq ge gn go gu gi ga gv gw gx) (t : Nat) (w : Int32) (ht : t < 4) (hw : inX w 0 4 = false) : CnU X m_X7_ifPut [.ref 270, .int (nI t), .int w] h (fun v h1 => v = some (.int (nI 0)) ∧ MS h1 gz gc gs gh gk gl gb 2 gx ∧ Out h h1 270 13) := by
  obtain ⟨m0, m1, m2, m3, m4, m5, m6, m7, m8, m9, m10, m11, m12⟩ := id hm
  have ho : Out h h 270 13 := Out.rf
  refine cn_of_ev (L0 := [_, _, _]) (by decide +kernel) rfl rfl (Nat.le_of_ble_eq_true rfl) rfl ?_
  refine ev_aload_n dX7_ifPut_0 rfl rfl ?_
  refine ev_iload_n dX7_ifPut_1 rfl rfl ?_
  refine ev_callSP1 dX7_ifPut_2 cal_X7_isText lk_7_157 ⟨(Nat.le_of_ble_eq_true rfl), (Nat.le_of_ble_eq_true rfl)⟩ rfl (Nat.le_of_ble_eq_true rfl) (k_isTextB (inY (by omega) (Nat.zero_le _) ht)) ?_
  refine ev_if_neB 12 dX7_ifPut_5 rfl (fun hc5 => ?_) (fun hc5 => ?_)
  · refine ev_iload_n dX7_ifPut_12 rfl rfl ?_
    refine ev_iconst (nI 0) dX7_ifPut_13 rfl ?_
    refine ev_iconst (nI 3) dX7_ifPut_14 rfl ?_
    refine ev_callSP3 dX7_ifPut_15 cal_X7_within lk_7_54 ⟨(Nat.le_of_ble_eq_true rfl), (Nat.le_of_ble_eq_true rfl)⟩ rfl (Nat.le_of_ble_eq_true rfl) (k_wB hw (by decide) (by decide)) ?_
    refine ev_if_eqB 25 dX7_ifPut_18 rfl (fun hc18 => ?_) (fun hc18 => ?_)
    · refine ev_iconst (nI 2) dX7_ifPut_25 rfl ?_
      refine em_pTh dX7_ifPut_26 lf_7_47 hm (fun h26 hm26 o26 => ?_)
      have ho := ho.tr o26
      obtain ⟨m0, m1, m2, m3, m4, m5, m6, m7, m8, m9, m10, m11, m12⟩ := id hm26
      refine ev_aload_n dX7_ifPut_29 rfl rfl ?_
      refine ev_getfield dX7_ifPut_30 lf_7_47 m0 rfl ?_
      refine ev_if_leN 40 dX7_ifPut_33 rfl (by omega) (fun hc33 => ?_) (fun hc33 => ?_)
      · first | omega | exact absurd hc33 (by decide)
      · refine ev_iconst (nI 0) dX7_ifPut_36 rfl ?_
        refine ev_goto 46 dX7_ifPut_37 rfl ?_
        refine ev_ireturn dX7_ifPut_46 rfl (Or.inl rfl) (Nat.zero_le _) (Nat.zero_le _) ?_
        exact ⟨_, rfl, rfl, hm26.ms, ho⟩
    · first | omega | exact absurd hc18 (by decide)
  · first | omega | exact absurd hc5 (by decide)
set_option maxHeartbeats 4000000 in
set_option maxRecDepth 100000 in
theorem k_ifPut {X : mX} {h : mH} {gz : Nat → Nat} {gc : Nat → Int64} {gs : Nat} {gh : Nat → Nat} {gk : Nat → Int64} {gl : Nat} {gb : Nat → Nat} {gt : Nat} {gr : Nat → Nat} {gm : Nat} {gp : Nat → Int64} {gq : Nat → Nat} {ge : Nat → Nat} {gn : Nat} {go : Nat → Nat} {gu : Nat} {gi : Bool} {ga : Nat → Int64} {gv : Nat → Nat} {gw : Nat} {gx : Int64} (hm : MN h gz gc gs gh gk gl gb gt gr gm gp gq ge gn go gu gi ga gv gw gx) {T : mSt} (hr : RelT gz gc T) (hT : InvT T) (hl60 : gl ≤ 60) (hb : ∀ j, j < gl → gb j ≤ 200) (t w : Nat) (ht : t < 4) (hw : w < 4) : CnU X m_X7_ifPut [.ref 270, .int (nI t), .int (nI w)] h (fun v h1 => v = some (.int (if whol gb gl = true then nI (ifpV T t (cutK (tV T) (smN (addN gb) gl) (tlN gb gl)) w) else -1)) ∧ MS h1 gz gc gs gh gk gl gb 0 gx ∧ Out h h1 270 13) := by
  obtain ⟨m0, m1, m2, m3, m4, m5, m6, m7, m8, m9, m10, m11, m12⟩ := id hm
  have ho : Out h h 270 13 := Out.rf
  refine cn_of_ev (L0 := [_, _, _]) (by decide +kernel) rfl rfl (Nat.le_of_ble_eq_true rfl) rfl ?_
  refine ev_aload_n dX7_ifPut_0 rfl rfl ?_
  refine ev_iload_n dX7_ifPut_1 rfl rfl ?_
  refine ev_callSP1 dX7_ifPut_2 cal_X7_isText lk_7_157 ⟨(Nat.le_of_ble_eq_true rfl), (Nat.le_of_ble_eq_true rfl)⟩ rfl (Nat.le_of_ble_eq_true rfl) (k_isTextB (inY (by omega) (Nat.zero_le _) ht)) ?_
  refine ev_if_neB 12 dX7_ifPut_5 rfl (fun hc5 => ?_) (fun hc5 => ?_)
  · refine ev_iload_n dX7_ifPut_12 rfl rfl ?_
    refine ev_iconst (nI 0) dX7_ifPut_13 rfl ?_
    refine ev_iconst (nI 3) dX7_ifPut_14 rfl ?_
    refine ev_callSP3 dX7_ifPut_15 cal_X7_within lk_7_54 ⟨(Nat.le_of_ble_eq_true rfl), (Nat.le_of_ble_eq_true rfl)⟩ rfl (Nat.le_of_ble_eq_true rfl) (k_wB (inY (by omega) (Nat.zero_le _) hw) (by decide) (by decide)) ?_
    refine ev_if_eqB 25 dX7_ifPut_18 rfl (fun hc18 => ?_) (fun hc18 => ?_)
    · first | omega | exact absurd hc18 (by decide)
    · refine ev_iconst (nI 0) dX7_ifPut_21 rfl ?_
      refine ev_goto 26 dX7_ifPut_22 rfl ?_
      refine em_pTh dX7_ifPut_26 lf_7_47 hm (fun h26 hm26 o26 => ?_)
      have ho := ho.tr o26
      obtain ⟨m0, m1, m2, m3, m4, m5, m6, m7, m8, m9, m10, m11, m12⟩ := id hm26
      refine ev_aload_n dX7_ifPut_29 rfl rfl ?_
      refine ev_getfield dX7_ifPut_30 lf_7_47 m0 rfl ?_
      refine ev_if_leN 40 dX7_ifPut_33 rfl (by omega) (fun hc33 => ?_) (fun hc33 => ?_)
      · refine ev_aload_n dX7_ifPut_40 rfl rfl ?_
        refine ev_iload_n dX7_ifPut_41 rfl rfl ?_
        refine ev_iload_n dX7_ifPut_42 rfl rfl ?_
        refine ev_callVU2 dX7_ifPut_43 cal_X7_putThen lk_7_269 ⟨(Nat.le_of_ble_eq_true rfl), (Nat.le_of_ble_eq_true rfl)⟩ rfl m0 (Nat.le_of_ble_eq_true rfl) (k_putThen hm26 hr hT hl60 hb t w ht hw) (fun v h43 hq43 => ?_)
        refine ev_pc (pc' := 46) rfl ?_
        obtain ⟨rfl, hs43, o43⟩ := hq43
        have ho := ho.tr o43
        refine ev_ireturn dX7_ifPut_46 rfl (Or.inl rfl) (Nat.zero_le _) (Nat.zero_le _) ?_
        exact ⟨_, rfl, rfl, hs43, ho⟩
      · first | omega | exact absurd hc33 (by decide)
  · first | omega | exact absurd hc5 (by decide)
set_option maxHeartbeats 4000000 in
set_option maxRecDepth 100000 in
theorem k_addUnlike {X : mX} {h : mH} {gz : Nat → Nat} {gc : Nat → Int64} {gs : Nat} {gh : Nat → Nat} {gk : Nat → Int64} {gl : Nat} {gb : Nat → Nat} {gt : Nat} {gr : Nat → Nat} {gm : Nat} {gp : Nat → Int64} {gq : Nat → Nat} {ge : Nat → Nat} {gn : Nat} {go : Nat → Nat} {gu : Nat} {gi : Bool} {ga : Nat → Int64} {gv : Nat → Nat} {gw : Nat} {gx : Int64} (hm : MN h gz gc gs gh gk gl gb gt gr gm gp gq ge gn go gu gi ga gv gw gx) {σ : mUl} (hu : UlR ga gv gw σ) {w : Int64} (p : Nat) (x : Cd w (gp p) (gq p)) (hp : p < 40) (h160 : σ.1 < 160) : CnU X m_X7_addUnlike [.ref 270, .int (nI p)] h (fun v h1 => v = some (.int (nI (if exN (fun q => σ.2.1 q == w) σ.1 = true then 0 else gq p))) ∧ (∃ a b c, MN h1 gz gc gs gh gk gl gb gt gr gm gp gq ge gn go gu gi a b c gx ∧ UlR a b c (ul1 σ w (gq p))) ∧ Out h h1 270 13) := by
  obtain ⟨m0, m1, m2, m3, m4, m5, m6, m7, m8, m9, m10, m11, m12⟩ := id hm
  have ho : Out h h 270 13 := Out.rf
  have hxl := x.le
  have hg := hu.1
  refine cn_of_ev (L0 := [_, _, _]) (by decide +kernel) rfl rfl (Nat.le_of_ble_eq_true rfl) rfl ?_
  refine ev_iconst (nI 0) dX7_addUnlike_0 rfl ?_
  refine ev_istore_n (L' := [_, _, _]) dX7_addUnlike_1 rfl (Nat.le_of_ble_eq_true rfl) rfl ?_
  refine ev_pc (pc' := 2) rfl ?_
  have LP2 : ∀ (mz : Nat) (k : Nat), gw - k = mz → (k ≤ gw) → (∀ j, j < k → (σ.2.1 j == w) = false) → Ev X m_X7_addUnlike B0 2 [.ref 270, .int (nI p), .int (nI k)] [] h (fun o h1 => ∃ v, o = .inl v ∧ (v = some (.int (nI (if exN (fun q => σ.2.1 q == w) σ.1 = true then 0 else gq p))) ∧ (∃ a b c, MN h1 gz gc gs gh gk gl gb gt gr gm gp gq ge gn go gu gi a b c gx ∧ UlR a b c (ul1 σ w (gq p))) ∧ Out h h1 270 13)) := by
    intro mz
    induction mz using Nat.strongRecOn with
    | _ mz ih =>
      intro k hmz hk hn
      have hul : k < gw → gv k ≤ 20 := fun z => ((hu.2 k (by omega)).le).2
      refine ev_iload_n dX7_addUnlike_2 rfl rfl ?_
      refine ev_aload_n dX7_addUnlike_3 rfl rfl ?_
      refine ev_getfield dX7_addUnlike_4 lf_7_275 m0 rfl ?_
      refine ev_icmp_geN 49 dX7_addUnlike_7 rfl (by omega) (by omega) (fun hc7 => ?_) (fun hc7 => ?_)
      · refine ev_pc (pc' := 49) rfl ?_
        have e : exN (fun q => σ.2.1 q == w) σ.1 = false := exN_no (fun j hj => hn j (by omega))
        rw [if_neg (by rw [e]; decide)]
        refine ev_aload_n dX7_addUnlike_49 rfl rfl ?_
        refine ev_getfield dX7_addUnlike_50 lf_7_41 m0 rfl ?_
        refine ev_aload_n dX7_addUnlike_53 rfl rfl ?_
        refine ev_getfield dX7_addUnlike_54 lf_7_275 m0 rfl ?_
        refine ev_aload_n dX7_addUnlike_57 rfl rfl ?_
        refine ev_getfield dX7_addUnlike_58 lf_7_29 m0 rfl ?_
        refine ev_iload_n dX7_addUnlike_61 rfl rfl ?_
        refine ev_laloadN dX7_addUnlike_62 m7 (by omega) (by decide) ?_
        refine em_lUC dX7_addUnlike_63 hm (by omega) (fun h63 hm63 o63 => ?_)
        have ho := ho.tr o63
        obtain ⟨m0, m1, m2, m3, m4, m5, m6, m7, m8, m9, m10, m11, m12⟩ := id hm63
        refine ev_aload_n dX7_addUnlike_64 rfl rfl ?_
        refine ev_getfield dX7_addUnlike_65 lf_7_44 m0 rfl ?_
        refine ev_aload_n dX7_addUnlike_68 rfl rfl ?_
        refine ev_getfield dX7_addUnlike_69 lf_7_275 m0 rfl ?_
        refine ev_aload_n dX7_addUnlike_72 rfl rfl ?_
        refine ev_getfield dX7_addUnlike_73 lf_7_32 m0 rfl ?_
        refine ev_iload_n dX7_addUnlike_76 rfl rfl ?_
        refine ev_ialoadF dX7_addUnlike_77 m8 (by omega) (by decide) ?_
        refine em_iUL dX7_addUnlike_78 hm63 (by omega) (fun h78 hm78 o78 => ?_)
        have ho := ho.tr o78
        obtain ⟨m0, m1, m2, m3, m4, m5, m6, m7, m8, m9, m10, m11, m12⟩ := id hm78
        refine ev_aload_n dX7_addUnlike_79 rfl rfl ?_
        refine ev_dup dX7_addUnlike_80 rfl ?_
        refine ev_getfield dX7_addUnlike_81 lf_7_275 m0 rfl ?_
        refine ev_iconst (nI 1) dX7_addUnlike_84 rfl ?_
        refine ev_iaddN dX7_addUnlike_85 ?_
        refine em_pUn dX7_addUnlike_86 lf_7_275 hm78 (fun h86 hm86 o86 => ?_)
        have ho := ho.tr o86
        obtain ⟨m0, m1, m2, m3, m4, m5, m6, m7, m8, m9, m10, m11, m12⟩ := id hm86
        refine ev_aload_n dX7_addUnlike_89 rfl rfl ?_
        refine ev_getfield dX7_addUnlike_90 lf_7_32 m0 rfl ?_
        refine ev_iload_n dX7_addUnlike_93 rfl rfl ?_
        refine ev_ialoadF dX7_addUnlike_94 m8 (by omega) (by decide) ?_
        refine ev_ireturn dX7_addUnlike_95 rfl (Or.inl rfl) (Nat.zero_le _) (Nat.zero_le _) ?_
        exact ⟨_, rfl, rfl, ⟨_, _, _, hm86, ul_new hu x e⟩, ho⟩
      · refine ev_aload_n dX7_addUnlike_10 rfl rfl ?_
        refine ev_getfield dX7_addUnlike_11 lf_7_41 m0 rfl ?_
        refine ev_iload_n dX7_addUnlike_14 rfl rfl ?_
        refine ev_laloadN dX7_addUnlike_15 m11 (by omega) (by decide) ?_
        refine ev_aload_n dX7_addUnlike_16 rfl rfl ?_
        refine ev_getfield dX7_addUnlike_17 lf_7_29 m0 rfl ?_
        refine ev_iload_n dX7_addUnlike_20 rfl rfl ?_
        refine ev_laloadN dX7_addUnlike_21 m7 (by omega) (by decide) ?_
        refine ev_lcmp_ne 43 dX7_addUnlike_22 dX7_addUnlike_23 rfl (fun hc23 => ?_) (fun hc23 => ?_)
        · refine ev_iincN (L' := [_, _, _]) 1 dX7_addUnlike_43 rfl rfl ?_
          refine ev_goto 2 dX7_addUnlike_46 rfl ?_
          refine ev_pc (pc' := 2) rfl ?_
          have e : (σ.2.1 k == w) = false := by
            rw [ul_hit hu x (show k < gw by omega)]
            first
            | (rw [decF (show ¬ ga k = gp p from hc23)]; rfl)
            | (rw [decF (show ¬ gv k = gq p from hc38), Bool.and_false])
          refine ih _ (by omega) (k + 1) rfl (by omega) (fun j hj => ?_)
          by_cases ej : j = k
          · rw [ej]; exact e
          · exact hn j (by omega)
        · refine ev_aload_n dX7_addUnlike_26 rfl rfl ?_
          refine ev_getfield dX7_addUnlike_27 lf_7_44 m0 rfl ?_
          refine ev_iload_n dX7_addUnlike_30 rfl rfl ?_
          refine ev_ialoadF dX7_addUnlike_31 m12 (by omega) (by decide) ?_
          have hgv := hul (by omega)
          refine ev_aload_n dX7_addUnlike_32 rfl rfl ?_
          refine ev_getfield dX7_addUnlike_33 lf_7_32 m0 rfl ?_
          refine ev_iload_n dX7_addUnlike_36 rfl rfl ?_
          refine ev_ialoadF dX7_addUnlike_37 m8 (by omega) (by decide) ?_
          refine ev_icmp_neN 43 dX7_addUnlike_38 rfl (by omega) (by omega) (fun hc38 => ?_) (fun hc38 => ?_)
          · refine ev_iincN (L' := [_, _, _]) 1 dX7_addUnlike_43 rfl rfl ?_
            refine ev_goto 2 dX7_addUnlike_46 rfl ?_
            refine ev_pc (pc' := 2) rfl ?_
            have e : (σ.2.1 k == w) = false := by
              rw [ul_hit hu x (show k < gw by omega)]
              first
              | (rw [decF (show ¬ ga k = gp p from hc23)]; rfl)
              | (rw [decF (show ¬ gv k = gq p from hc38), Bool.and_false])
            refine ih _ (by omega) (k + 1) rfl (by omega) (fun j hj => ?_)
            by_cases ej : j = k
            · rw [ej]; exact e
            · exact hn j (by omega)
          · refine ev_pc (pc' := 41) rfl ?_
            have e : exN (fun q => σ.2.1 q == w) σ.1 = true := exN_yes (k := k) (by omega) (by rw [ul_hit hu x (show k < gw by omega), decT hc23, decT hc38]; rfl)
            refine ev_iconst (nI 0) dX7_addUnlike_41 rfl ?_
            refine ev_ireturn dX7_addUnlike_42 rfl (Or.inl rfl) (Nat.zero_le _) (Nat.zero_le _) ?_
            rw [if_pos e]
            exact ⟨_, rfl, rfl, ⟨ga, gv, gw, hm, by rw [ul1, if_pos e]; exact hu⟩, Out.rf⟩
  exact LP2 _ 0 rfl (Nat.zero_le _) (fun j hj => absurd hj (Nat.not_lt_zero j))
set_option maxHeartbeats 4000000 in
set_option maxRecDepth 100000 in
theorem k_lengthsBy {X : mX} {h : mH} {gz : Nat → Nat} {gc : Nat → Int64} {gs : Nat} {gh : Nat → Nat} {gk : Nat → Int64} {gl : Nat} {gb : Nat → Nat} {gt : Nat} {gr : Nat → Nat} {gm : Nat} {gp : Nat → Int64} {gq : Nat → Nat} {ge : Nat → Nat} {gn : Nat} {go : Nat → Nat} {gu : Nat} {gi : Bool} {ga : Nat → Int64} {gv : Nat → Nat} {gw : Nat} {gx : Int64} (hm : MN h gz gc gs gh gk gl gb gt gr gm gp gq ge gn go gu gi ga gv gw gx) {T : mSt} (hr : RelT gz gc T) (hT : InvT T) (d : Nat) (hd1 : 1 ≤ d) (hd9 : d ≤ 9) : CnU X m_X7_lengthsBy [.ref 270, .int (nI d)] h (fun v h1 => v = some (.int (nI (ulL T d))) ∧ MS h1 gz gc gs gh gk gl gb gt gx ∧ Out h h1 270 13) := by
  obtain ⟨m0, m1, m2, m3, m4, m5, m6, m7, m8, m9, m10, m11, m12⟩ := id hm
  have ho : Out h h 270 13 := Out.rf
  have hkp := hr.2.1.kp
  have hxs : ∀ t, t < 4 → TxB gz t := fun t ht => hr.tx hT ht
  have hb0 : ∀ k, k < 60 → gz (551 + k) ≤ 1000 := fun k hk => Nat.le_trans (hr.2.1.ow hT.B hk) (by decide)
  have hL40 : ∀ t, t < 4 → kL (tC T t) ≤ 40 := fun t ht => (hT.2.1 t ht).1
  refine cn_of_ev (L0 := [_, _, _, _, _, _, _]) (by decide +kernel) rfl rfl (Nat.le_of_ble_eq_true rfl) rfl ?_
  refine ev_aload_n dX7_lengthsBy_0 rfl rfl ?_
  refine ev_iconst (nI 0) dX7_lengthsBy_1 rfl ?_
  refine em_pUn dX7_lengthsBy_2 lf_7_275 hm (fun h2 hm2 o2 => ?_)
  have ho := ho.tr o2
  obtain ⟨m0, m1, m2, m3, m4, m5, m6, m7, m8, m9, m10, m11, m12⟩ := id hm2
  refine ev_iconst (nI 0) dX7_lengthsBy_5 rfl ?_
  refine ev_istore_n (L' := [_, _, _, _, _, _, _]) dX7_lengthsBy_6 rfl (Nat.le_of_ble_eq_true rfl) rfl ?_
  refine ev_iconst (nI 0) dX7_lengthsBy_7 rfl ?_
  refine ev_istore_n (L' := [_, _, _, _, _, _, _]) dX7_lengthsBy_8 rfl (Nat.le_of_ble_eq_true rfl) rfl ?_
  refine ev_pc (pc' := 9) rfl ?_
  have LP9 : ∀ (mz : Nat) (t : Nat) (h2 : mH) (r : Nat → Nat) (m : Nat) (p : Nat → Int64) (q : Nat → Nat) (e : Nat → Nat) (n : Nat) (a : Nat → Int64) (b : Nat → Nat) (c : Nat), 4 - t = mz → (t ≤ 4) → (MN h2 gz gc gs gh gk gl gb gt r m p q e n go gu gi a b c gx) → (Out h h2 270 13) → (UlR a b c (ulT T d t)) → Ev X m_X7_lengthsBy B0 9 [.ref 270, .int (nI d), .int (nI (ulT T d t).2.2), .int (nI t), jk, jk, jk] [] h2 (fun o h1 => ∃ v, o = .inl v ∧ (v = some (.int (nI (ulL T d))) ∧ MS h1 gz gc gs gh gk gl gb gt gx ∧ Out h h1 270 13)) := by
    intro mz
    induction mz using Nat.strongRecOn with
    | _ mz ih =>
      intro t h2 r m p q e n a b c hmz ht4 hm2 ho hu
      have iht := ih
      obtain ⟨m0, m1, m2, m3, m4, m5, m6, m7, m8, m9, m10, m11, m12⟩ := id hm2
      have htl := ulT_le (T := T) (d := d) hL40 t ht4
      refine ev_iload_n dX7_lengthsBy_9 rfl rfl ?_
      refine ev_iconst (nI 4) dX7_lengthsBy_10 rfl ?_
      refine ev_icmp_geN 58 dX7_lengthsBy_11 rfl (by omega) (by omega) (fun hc11 => ?_) (fun hc11 => ?_)
      · refine ev_iload_n dX7_lengthsBy_58 rfl rfl ?_
        refine ev_ireturn dX7_lengthsBy_59 rfl (Or.inl rfl) (Nat.zero_le _) (Nat.zero_le _) ?_
        rw [show ulL T d = (ulT T d t).2.2 from by rw [ulL, show t = 4 by omega]]
        exact ⟨_, rfl, rfl, hm2.ms, ho⟩
      · refine ev_aload_n dX7_lengthsBy_14 rfl rfl ?_
        refine ev_iload_n dX7_lengthsBy_15 rfl rfl ?_
        refine ev_iconst (nI 1) dX7_lengthsBy_16 rfl ?_
        refine ev_iload_n dX7_lengthsBy_17 rfl rfl ?_
        refine ev_callVU3 dX7_lengthsBy_18 cal_X7_setThen lk_7_272 ⟨(Nat.le_of_ble_eq_true rfl), (Nat.le_of_ble_eq_true rfl)⟩ rfl m0 (Nat.le_of_ble_eq_true rfl) (k_setThen hm2 hr hT t 1 d (by omega) (by decide) hd1 hd9) (fun v h18 hq18 => ?_)
        refine ev_pc (pc' := 21) rfl ?_
        obtain ⟨rfl, ⟨zr1, zm1, zp1, zq1, ze1, hm18, hcm⟩, o18⟩ := hq18
        have ho := ho.tr o18
        obtain ⟨m0, m1, m2, m3, m4, m5, m6, m7, m8, m9, m10, m11, m12⟩ := id hm18
        have hKD : Tile (cutD T d t) := cutD_tile hT hd1 hd9 (by omega)
        have hcm : CutM zp1 zq1 ze1 (kN (cutD T d t)) (cutD T d t) := hcm
        have hn40 := hKD.n40
        have hq40 : ∀ p, p < kN (cutD T d t) → kQ (cutD T d t) p ≤ 40 := fun p hp => by have := hKD.en hp; omega
        refine ev_istore (L' := [_, _, _, _, _, _, _]) dX7_lengthsBy_21 (Nat.le_of_ble_eq_true rfl) rfl ?_
        refine ev_iconst (nI 0) dX7_lengthsBy_23 rfl ?_
        refine ev_istore (L' := [_, _, _, _, _, _, _]) dX7_lengthsBy_24 (Nat.le_of_ble_eq_true rfl) rfl ?_
        refine ev_pc (pc' := 26) rfl ?_
        have LP26 : ∀ (mz : Nat) (k : Nat) (h3 : mH) (a1 : Nat → Int64) (b1 : Nat → Nat) (c1 : Nat), kN (cutD T d t) - k = mz → (k ≤ kN (cutD T d t)) → (MN h3 gz gc gs gh gk gl gb gt zr1 zm1 zp1 zq1 ze1 (kN (cutD T d t)) go gu gi a1 b1 c1 gx) → (Out h h3 270 13) → (UlR a1 b1 c1 (ulK (ulT T d t) (cutD T d t) k)) → Ev X m_X7_lengthsBy B0 26 [.ref 270, .int (nI d), .int (nI (ulK (ulT T d t) (cutD T d t) k).2.2), .int (nI t), .int (nI (kN (cutD T d t))), .int (nI k), jk] [] h3 (fun o h1 => ∃ v, o = .inl v ∧ (v = some (.int (nI (ulL T d))) ∧ MS h1 gz gc gs gh gk gl gb gt gx ∧ Out h h1 270 13)) := by
          intro mz
          induction mz using Nat.strongRecOn with
          | _ mz ih =>
            intro k h3 a1 b1 c1 hmz hk hm3 ho hu1
            obtain ⟨m0, m1, m2, m3, m4, m5, m6, m7, m8, m9, m10, m11, m12⟩ := id hm3
            have hkl := ulK_le (σ := ulT T d t) (K := cutD T d t) hq40 k hk
            refine ev_iload dX7_lengthsBy_26 rfl ?_
            refine ev_iload dX7_lengthsBy_28 rfl ?_
            refine ev_icmp_geN 52 dX7_lengthsBy_30 rfl (by omega) (by omega) (fun hc30 => ?_) (fun hc30 => ?_)
            · refine ev_pc (pc' := 52) rfl ?_
              have ek : k = kN (cutD T d t) := by omega
              refine ev_iincN (L' := [_, _, _, _, _, _, _]) 1 dX7_lengthsBy_52 rfl rfl ?_
              refine ev_goto 9 dX7_lengthsBy_55 rfl ?_
              refine ev_pc (pc' := 9) rfl ?_
              refine ev_fgt 4 (L' := [_, _, _, _, _, _, _]) rfl ?_
              refine ev_fgt 5 (L' := [_, _, _, _, _, _, _]) rfl ?_
              rw [ek] at hu1 ⊢
              exact iht _ (by omega) (t + 1) _ _ _ _ _ _ _ _ _ _ rfl (by omega) hm3 ho hu1
            · refine ev_aload_n dX7_lengthsBy_33 rfl rfl ?_
              refine ev_iload dX7_lengthsBy_34 rfl ?_
              refine ev_callVU1 dX7_lengthsBy_36 cal_X7_addUnlike lk_7_278 ⟨(Nat.le_of_ble_eq_true rfl), (Nat.le_of_ble_eq_true rfl)⟩ rfl m0 (Nat.le_of_ble_eq_true rfl) (k_addUnlike hm3 hu1 (w := kR (cutD T d t) k) k (hcm.cd hKD (by omega)) (by omega) (by omega)) (fun v h36 hq36 => ?_)
              refine ev_pc (pc' := 39) rfl ?_
              obtain ⟨rfl, ⟨a2, b2, c2, hm36, hu2⟩, o36⟩ := hq36
              have ho := ho.tr o36
              obtain ⟨m0, m1, m2, m3, m4, m5, m6, m7, m8, m9, m10, m11, m12⟩ := id hm36
              have hqk : zq1 k = kQ (cutD T d t) k := (hcm.2 k (by omega)).2.1
              have hq40k := hq40 k (by omega)
              rw [hqk] at hu2
              have es : (ulK (ulT T d t) (cutD T d t) k).2.2 + (if exN (fun q => (ulK (ulT T d t) (cutD T d t) k).2.1 q == kR (cutD T d t) k) (ulK (ulT T d t) (cutD T d t) k).1 = true then 0 else zq1 k) = (ulK (ulT T d t) (cutD T d t) (k + 1)).2.2 := by
                rw [ulK, ul1, hqk]
                by_cases z : exN (fun q => (ulK (ulT T d t) (cutD T d t) k).2.1 q == kR (cutD T d t) k) (ulK (ulT T d t) (cutD T d t) k).1 = true
                · rw [if_pos z, if_pos z]; rfl
                · rw [if_neg z, if_neg z]
              refine ev_istore (L' := [_, _, _, _, _, _, _]) dX7_lengthsBy_39 (Nat.le_of_ble_eq_true rfl) rfl ?_
              refine ev_iload_n dX7_lengthsBy_41 rfl rfl ?_
              refine ev_iload dX7_lengthsBy_42 rfl ?_
              refine ev_iaddN dX7_lengthsBy_44 ?_
              refine ev_istore_n (L' := [_, _, _, _, _, _, _]) dX7_lengthsBy_45 rfl (Nat.le_of_ble_eq_true rfl) rfl ?_
              refine ev_iincN (L' := [_, _, _, _, _, _, _]) 1 dX7_lengthsBy_46 rfl rfl ?_
              refine ev_goto 26 dX7_lengthsBy_49 rfl ?_
              refine ev_pc (pc' := 26) rfl ?_
              refine ev_fgt 6 (L' := [_, _, _, _, _, _, _]) rfl ?_
              rw [es]
              exact ih _ (by omega) (k + 1) _ a2 b2 c2 rfl (by omega) hm36 ho hu2
        exact LP26 _ 0 _ a b c rfl (Nat.zero_le _) hm18 ho hu
  exact LP9 _ 0 _ gr gm gp gq ge gn ga gv 0 rfl (Nat.zero_le _) hm2 ho ⟨rfl, fun k hk => absurd hk (Nat.not_lt_zero k)⟩
set_option maxHeartbeats 4000000 in
set_option maxRecDepth 100000 in
theorem k_bestNow {X : mX} {h : mH} {gz : Nat → Nat} {gc : Nat → Int64} {gs : Nat} {gh : Nat → Nat} {gk : Nat → Int64} {gl : Nat} {gb : Nat → Nat} {gt : Nat} {gr : Nat → Nat} {gm : Nat} {gp : Nat → Int64} {gq : Nat → Nat} {ge : Nat → Nat} {gn : Nat} {go : Nat → Nat} {gu : Nat} {gi : Bool} {ga : Nat → Int64} {gv : Nat → Nat} {gw : Nat} {gx : Int64} (hm : MN h gz gc gs gh gk gl gb gt gr gm gp gq ge gn go gu gi ga gv gw gx) {T : mSt} (hr : RelT gz gc T) (hT : InvT T) : CnU X m_X7_bestNow [.ref 270] h (fun v h1 => v = some (.int (nI (bsD T 8).1)) ∧ MS h1 gz gc gs gh gk gl gb gt gx ∧ Out h h1 270 13) := by
  obtain ⟨m0, m1, m2, m3, m4, m5, m6, m7, m8, m9, m10, m11, m12⟩ := id hm
  have ho : Out h h 270 13 := Out.rf
  have hkp := hr.2.1.kp
  have hxs : ∀ t, t < 4 → TxB gz t := fun t ht => hr.tx hT ht
  have hb0 : ∀ k, k < 60 → gz (551 + k) ≤ 1000 := fun k hk => Nat.le_trans (hr.2.1.ow hT.B hk) (by decide)
  have hL40 : ∀ t, t < 4 → kL (tC T t) ≤ 40 := fun t ht => (hT.2.1 t ht).1
  refine cn_of_ev (L0 := [_, _, _, _, _]) (by decide +kernel) rfl rfl (Nat.le_of_ble_eq_true rfl) rfl ?_
  refine ev_bipush (nI 9) dX7_bestNow_0 rfl ?_
  refine ev_istore_n (L' := [_, _, _, _, _]) dX7_bestNow_2 rfl (Nat.le_of_ble_eq_true rfl) rfl ?_
  refine ev_aload_n dX7_bestNow_3 rfl rfl ?_
  refine ev_bipush (nI 9) dX7_bestNow_4 rfl ?_
  refine ev_callVU1 dX7_bestNow_6 cal_X7_lengthsBy lk_7_281 ⟨(Nat.le_of_ble_eq_true rfl), (Nat.le_of_ble_eq_true rfl)⟩ rfl m0 (Nat.le_of_ble_eq_true rfl) (k_lengthsBy hm hr hT 9 (by decide) (by decide)) (fun v h6 hq6 => ?_)
  refine ev_pc (pc' := 9) rfl ?_
  obtain ⟨rfl, ⟨_, _, _, _, _, _, _, _, _, _, _, _, hm6⟩, o6⟩ := hq6
  have ho := ho.tr o6
  obtain ⟨m0, m1, m2, m3, m4, m5, m6, m7, m8, m9, m10, m11, m12⟩ := id hm6
  refine ev_istore_n (L' := [_, _, _, _, _]) dX7_bestNow_9 rfl (Nat.le_of_ble_eq_true rfl) rfl ?_
  refine ev_bipush (nI 8) dX7_bestNow_10 rfl ?_
  refine ev_istore_n (L' := [_, _, _, _, _]) dX7_bestNow_12 rfl (Nat.le_of_ble_eq_true rfl) rfl ?_
  refine ev_pc (pc' := 13) rfl ?_
  have LP13 : ∀ (mz : Nat) (k : Nat) (h2 : mH) (r : Nat → Nat) (m : Nat) (p : Nat → Int64) (q : Nat → Nat) (e : Nat → Nat) (n : Nat) (w : Nat → Nat) (u : Nat) (ii : Bool) (a : Nat → Int64) (b : Nat → Nat) (c : Nat), 8 - k = mz → (k ≤ 8) → (MN h2 gz gc gs gh gk gl gb gt r m p q e n w u ii a b c gx) → (Out h h2 270 13) → Ev X m_X7_bestNow B0 13 [.ref 270, .int (nI (bmD T k).1), .int (nI (bmD T k).2), .int (nI (8 - k)), jk] [] h2 (fun o h1 => ∃ v, o = .inl v ∧ (v = some (.int (nI (bsD T 8).1)) ∧ MS h1 gz gc gs gh gk gl gb gt gx ∧ Out h h1 270 13)) := by
    intro mz
    induction mz using Nat.strongRecOn with
    | _ mz ih =>
      intro k h2 r m p q e n w u ii a b c hmz hk hm2 ho
      obtain ⟨m0, m1, m2, m3, m4, m5, m6, m7, m8, m9, m10, m11, m12⟩ := id hm2
      obtain ⟨bq1, bq2, -, -⟩ := bmD_is T k hk
      have hl1 := ulL_le (T := T) (d := 8 - k) hL40
      have hl2 := ulL_le (T := T) (d := (bmD T k).1) hL40
      refine ev_iload_n dX7_bestNow_13 rfl rfl ?_
      refine ev_if_leN 55 dX7_bestNow_14 rfl (by omega) (fun hc14 => ?_) (fun hc14 => ?_)
      · refine ev_iload_n dX7_bestNow_55 rfl rfl ?_
        refine ev_ireturn dX7_bestNow_56 rfl (Or.inl rfl) (Nat.zero_le _) (Nat.zero_le _) ?_
        rw [← bmD_bs, show 8 = k by omega]
        exact ⟨_, rfl, rfl, hm2.ms, ho⟩
      · refine ev_aload_n dX7_bestNow_17 rfl rfl ?_
        refine ev_iload_n dX7_bestNow_18 rfl rfl ?_
        refine ev_callVU1 dX7_bestNow_19 cal_X7_lengthsBy lk_7_281 ⟨(Nat.le_of_ble_eq_true rfl), (Nat.le_of_ble_eq_true rfl)⟩ rfl m0 (Nat.le_of_ble_eq_true rfl) (k_lengthsBy hm2 hr hT (8 - k) (by omega) (by omega)) (fun v h19 hq19 => ?_)
        refine ev_pc (pc' := 22) rfl ?_
        obtain ⟨rfl, ⟨_, _, _, _, _, _, _, _, _, _, _, _, hm19⟩, o19⟩ := hq19
        have ho := ho.tr o19
        obtain ⟨m0, m1, m2, m3, m4, m5, m6, m7, m8, m9, m10, m11, m12⟩ := id hm19
        refine ev_istore (L' := [_, _, _, _, _]) dX7_bestNow_22 (Nat.le_of_ble_eq_true rfl) rfl ?_
        refine ev_iload dX7_bestNow_24 rfl ?_
        refine ev_iload_n dX7_bestNow_26 rfl rfl ?_
        refine ev_icmp_geN 34 dX7_bestNow_27 rfl (by omega) (by omega) (fun hc27 => ?_) (fun hc27 => ?_)
        · refine ev_iload_n dX7_bestNow_34 rfl rfl ?_
          refine ev_istore_n (L' := [_, _, _, _, _]) dX7_bestNow_35 rfl (Nat.le_of_ble_eq_true rfl) rfl ?_
          refine ev_iload dX7_bestNow_36 rfl ?_
          refine ev_iload_n dX7_bestNow_38 rfl rfl ?_
          refine ev_icmp_geN 47 dX7_bestNow_39 rfl (by omega) (by omega) (fun hc39 => ?_) (fun hc39 => ?_)
          · refine ev_iload_n dX7_bestNow_47 rfl rfl ?_
            refine ev_istore_n (L' := [_, _, _, _, _]) dX7_bestNow_48 rfl (Nat.le_of_ble_eq_true rfl) rfl ?_
            refine ev_iincD (a := 7 - k) (L' := [_, _, _, _, _]) dX7_bestNow_49 (by show some (Value.int (nI (8 - k))) = _; rw [show 8 - k = 7 - k + 1 by omega]) rfl ?_
            refine ev_goto 13 dX7_bestNow_52 rfl ?_
            refine ev_pc (pc' := 13) rfl ?_
            refine ev_fgt 4 (L' := [_, _, _, _, _]) rfl ?_
            first
              | (have e : bmD T (k + 1) = (8 - k, ulL T (8 - k)) := if_pos (by omega)
                 rw [show (nI (8 - k) : Int32) = nI (bmD T (k + 1)).1 from by rw [e], show (nI (ulL T (8 - k)) : Int32) = nI (bmD T (k + 1)).2 from by rw [e], show 7 - k = 8 - (k + 1) by omega]
                 exact ih _ (by omega) (k + 1) _ _ _ _ _ _ _ _ _ _ _ _ _ rfl (by omega) hm19 ho)
              | (have e : bmD T (k + 1) = bmD T k := if_neg (by omega)
                 rw [show bmD T k = bmD T (k + 1) from e.symm, show 7 - k = 8 - (k + 1) by omega]
                 exact ih _ (by omega) (k + 1) _ _ _ _ _ _ _ _ _ _ _ _ _ rfl (by omega) hm19 ho)
              | omega
          · refine ev_iload dX7_bestNow_42 rfl ?_
            refine ev_goto 48 dX7_bestNow_44 rfl ?_
            refine ev_istore_n (L' := [_, _, _, _, _]) dX7_bestNow_48 rfl (Nat.le_of_ble_eq_true rfl) rfl ?_
            refine ev_iincD (a := 7 - k) (L' := [_, _, _, _, _]) dX7_bestNow_49 (by show some (Value.int (nI (8 - k))) = _; rw [show 8 - k = 7 - k + 1 by omega]) rfl ?_
            refine ev_goto 13 dX7_bestNow_52 rfl ?_
            refine ev_pc (pc' := 13) rfl ?_
            refine ev_fgt 4 (L' := [_, _, _, _, _]) rfl ?_
            first
              | (have e : bmD T (k + 1) = (8 - k, ulL T (8 - k)) := if_pos (by omega)
                 rw [show (nI (8 - k) : Int32) = nI (bmD T (k + 1)).1 from by rw [e], show (nI (ulL T (8 - k)) : Int32) = nI (bmD T (k + 1)).2 from by rw [e], show 7 - k = 8 - (k + 1) by omega]
                 exact ih _ (by omega) (k + 1) _ _ _ _ _ _ _ _ _ _ _ _ _ rfl (by omega) hm19 ho)
              | (have e : bmD T (k + 1) = bmD T k := if_neg (by omega)
                 rw [show bmD T k = bmD T (k + 1) from e.symm, show 7 - k = 8 - (k + 1) by omega]
                 exact ih _ (by omega) (k + 1) _ _ _ _ _ _ _ _ _ _ _ _ _ rfl (by omega) hm19 ho)
              | omega
        · refine ev_iload_n dX7_bestNow_30 rfl rfl ?_
          refine ev_goto 35 dX7_bestNow_31 rfl ?_
          refine ev_istore_n (L' := [_, _, _, _, _]) dX7_bestNow_35 rfl (Nat.le_of_ble_eq_true rfl) rfl ?_
          refine ev_iload dX7_bestNow_36 rfl ?_
          refine ev_iload_n dX7_bestNow_38 rfl rfl ?_
          refine ev_icmp_geN 47 dX7_bestNow_39 rfl (by omega) (by omega) (fun hc39 => ?_) (fun hc39 => ?_)
          · refine ev_iload_n dX7_bestNow_47 rfl rfl ?_
            refine ev_istore_n (L' := [_, _, _, _, _]) dX7_bestNow_48 rfl (Nat.le_of_ble_eq_true rfl) rfl ?_
            refine ev_iincD (a := 7 - k) (L' := [_, _, _, _, _]) dX7_bestNow_49 (by show some (Value.int (nI (8 - k))) = _; rw [show 8 - k = 7 - k + 1 by omega]) rfl ?_
            refine ev_goto 13 dX7_bestNow_52 rfl ?_
            refine ev_pc (pc' := 13) rfl ?_
            refine ev_fgt 4 (L' := [_, _, _, _, _]) rfl ?_
            first
              | (have e : bmD T (k + 1) = (8 - k, ulL T (8 - k)) := if_pos (by omega)
                 rw [show (nI (8 - k) : Int32) = nI (bmD T (k + 1)).1 from by rw [e], show (nI (ulL T (8 - k)) : Int32) = nI (bmD T (k + 1)).2 from by rw [e], show 7 - k = 8 - (k + 1) by omega]
                 exact ih _ (by omega) (k + 1) _ _ _ _ _ _ _ _ _ _ _ _ _ rfl (by omega) hm19 ho)
              | (have e : bmD T (k + 1) = bmD T k := if_neg (by omega)
                 rw [show bmD T k = bmD T (k + 1) from e.symm, show 7 - k = 8 - (k + 1) by omega]
                 exact ih _ (by omega) (k + 1) _ _ _ _ _ _ _ _ _ _ _ _ _ rfl (by omega) hm19 ho)
              | omega
          · refine ev_iload dX7_bestNow_42 rfl ?_
            refine ev_goto 48 dX7_bestNow_44 rfl ?_
            refine ev_istore_n (L' := [_, _, _, _, _]) dX7_bestNow_48 rfl (Nat.le_of_ble_eq_true rfl) rfl ?_
            refine ev_iincD (a := 7 - k) (L' := [_, _, _, _, _]) dX7_bestNow_49 (by show some (Value.int (nI (8 - k))) = _; rw [show 8 - k = 7 - k + 1 by omega]) rfl ?_
            refine ev_goto 13 dX7_bestNow_52 rfl ?_
            refine ev_pc (pc' := 13) rfl ?_
            refine ev_fgt 4 (L' := [_, _, _, _, _]) rfl ?_
            first
              | (have e : bmD T (k + 1) = (8 - k, ulL T (8 - k)) := if_pos (by omega)
                 rw [show (nI (8 - k) : Int32) = nI (bmD T (k + 1)).1 from by rw [e], show (nI (ulL T (8 - k)) : Int32) = nI (bmD T (k + 1)).2 from by rw [e], show 7 - k = 8 - (k + 1) by omega]
                 exact ih _ (by omega) (k + 1) _ _ _ _ _ _ _ _ _ _ _ _ _ rfl (by omega) hm19 ho)
              | (have e : bmD T (k + 1) = bmD T k := if_neg (by omega)
                 rw [show bmD T k = bmD T (k + 1) from e.symm, show 7 - k = 8 - (k + 1) by omega]
                 exact ih _ (by omega) (k + 1) _ _ _ _ _ _ _ _ _ _ _ _ _ rfl (by omega) hm19 ho)
              | omega
  exact LP13 _ 0 _ _ _ _ _ _ _ _ _ _ _ _ _ rfl (Nat.zero_le _) hm6 ho
set_option maxHeartbeats 4000000 in
set_option maxRecDepth 100000 in
theorem k_bestDivisor {X : mX} {h : mH} {gz : Nat → Nat} {gc : Nat → Int64} {gs : Nat} {gh : Nat → Nat} {gk : Nat → Int64} {gl : Nat} {gb : Nat → Nat} {gt : Nat} {gr : Nat → Nat} {gm : Nat} {gp : Nat → Int64} {gq : Nat → Nat} {ge : Nat → Nat} {gn : Nat} {go : Nat → Nat} {gu : Nat} {gi : Bool} {ga : Nat → Int64} {gv : Nat → Nat} {gw : Nat} {gx : Int64} (hm : MN h gz gc gs gh gk gl gb gt gr gm gp gq ge gn go gu gi ga gv gw gx) {T : mSt} (hr : RelT gz gc T) (hT : InvT T) : CnU X m_X7_bestDivisor [.ref 270] h (fun v h1 => v = some (.int (nI (bsD T 8).1)) ∧ MS h1 gz gc gs gh gk gl gb 0 gx ∧ Out h h1 270 13) := by
  obtain ⟨m0, m1, m2, m3, m4, m5, m6, m7, m8, m9, m10, m11, m12⟩ := id hm
  have ho : Out h h 270 13 := Out.rf
  refine cn_of_ev (L0 := [_]) (by decide +kernel) rfl rfl (Nat.le_of_ble_eq_true rfl) rfl ?_
  refine ev_aload_n dX7_bestDivisor_0 rfl rfl ?_
  refine ev_iconst (nI 0) dX7_bestDivisor_1 rfl ?_
  refine em_pTh dX7_bestDivisor_2 lf_7_47 hm (fun h2 hm2 o2 => ?_)
  have ho := ho.tr o2
  obtain ⟨m0, m1, m2, m3, m4, m5, m6, m7, m8, m9, m10, m11, m12⟩ := id hm2
  refine ev_aload_n dX7_bestDivisor_5 rfl rfl ?_
  refine ev_callVU0 dX7_bestDivisor_6 cal_X7_bestNow lk_7_284 ⟨(Nat.le_of_ble_eq_true rfl), (Nat.le_of_ble_eq_true rfl)⟩ rfl m0 (Nat.le_of_ble_eq_true rfl) (k_bestNow hm2 hr hT) (fun v h6 hq6 => ?_)
  refine ev_pc (pc' := 9) rfl ?_
  obtain ⟨rfl, hs6, o6⟩ := hq6
  have ho := ho.tr o6
  refine ev_ireturn dX7_bestDivisor_9 rfl (Or.inl rfl) (Nat.zero_le _) (Nat.zero_le _) ?_
  exact ⟨_, rfl, rfl, hs6, ho⟩
set_option maxHeartbeats 4000000 in
set_option maxRecDepth 100000 in
theorem k_saved {X : mX} {h : mH} {gz : Nat → Nat} {gc : Nat → Int64} {gs : Nat} {gh : Nat → Nat} {gk : Nat → Int64} {gl : Nat} {gb : Nat → Nat} {gt : Nat} {gr : Nat → Nat} {gm : Nat} {gp : Nat → Int64} {gq : Nat → Nat} {ge : Nat → Nat} {gn : Nat} {go : Nat → Nat} {gu : Nat} {gi : Bool} {ga : Nat → Int64} {gv : Nat → Nat} {gw : Nat} {gx : Int64} (hm : MN h gz gc gs gh gk gl gb gt gr gm gp gq ge gn go gu gi ga gv gw gx) {T : mSt} (hr : RelT gz gc T) (hT : InvT T) (hsh : ShOK T) : CnP X m_X7_saved [.ref 270] h (some (.double (savD T))) := by
  obtain ⟨m0, m1, m2, m3, m4, m5, m6, m7, m8, m9, m10, m11, m12⟩ := id hm
  have hkp := hr.2.1.kp
  have hxs : ∀ t, t < 4 → TxB gz t := fun t ht => hr.tx hT ht
  have hb0 : ∀ k, k < 60 → gz (551 + k) ≤ 1000 := fun k hk => Nat.le_trans (hr.2.1.ow hT.B hk) (by decide)
  have hsg : gz (7 + 0) + gz (7 + 1) + gz (7 + 2) + gz (7 + 3) = sgsN T := by
    rw [(hr.2.2 0 (by decide)).1, (hr.2.2 1 (by decide)).1, (hr.2.2 2 (by decide)).1, (hr.2.2 3 (by decide)).1]
    simp only [sgsN, smN, Nat.zero_add]
  have hs160 : sgsN T ≤ 4 * 40 := smN_le (fun t ht => (hT.2.1 t ht).1)
  have hun := unow_le (tS T)
  have hsz := hT.2.2.2.2.2.2
  refine cn_of_ev (L0 := [_, _]) (by decide +kernel) rfl rfl (Nat.le_of_ble_eq_true rfl) rfl ?_
  refine ev_aload_n dX7_saved_0 rfl rfl ?_
  refine ev_callVP0 dX7_saved_1 cal_X7_allSigns lk_7_254 ⟨(Nat.le_of_ble_eq_true rfl), (Nat.le_of_ble_eq_true rfl)⟩ rfl m0 (Nat.le_of_ble_eq_true rfl) ((show CnP X m_X7_allSigns _ h (some (.int (nI (sgsN T)))) from by have z := k_allSigns (X := X) hm; rwa [hsg] at z)) ?_
  refine ev_istore_n (L' := [_, _]) dX7_saved_4 rfl (Nat.le_of_ble_eq_true rfl) rfl ?_
  refine ev_iload_n dX7_saved_5 rfl rfl ?_
  refine ev_if_neN 13 dX7_saved_6 rfl (by omega) (fun hc6 => ?_) (fun hc6 => ?_)
  · refine ev_pc (pc' := 13) rfl ?_
    have hsh2 := hsh hc6
    have v1 := shrT_1 hsh2
    have v2 := shrT_2 hsh2
    unfold owdN at v1 v2
    rw [show savD T = shrD (owdN T) (sgsN T) from if_neg hc6]
    refine ev_dconst1 dX7_saved_13 ?_
    refine ev_aload_n dX7_saved_14 rfl rfl ?_
    refine ev_callVP0 dX7_saved_15 cal_X7_storeSize lk_7_112 ⟨(Nat.le_of_ble_eq_true rfl), (Nat.le_of_ble_eq_true rfl)⟩ rfl m0 (Nat.le_of_ble_eq_true rfl) ((show CnP X m_X7_storeSize _ h (some (.int (nI (szS (tS T))))) from by have z := k_storeSize (X := X) hm hkp; rwa [rel_siz hr.2.1] at z)) ?_
    refine ev_aload_n dX7_saved_18 rfl rfl ?_
    refine ev_iconst (nI 1) dX7_saved_19 rfl ?_
    refine ev_callVP1 dX7_saved_20 cal_X7_ownerless lk_7_260 ⟨(Nat.le_of_ble_eq_true rfl), (Nat.le_of_ble_eq_true rfl)⟩ rfl m0 (Nat.le_of_ble_eq_true rfl) ((show CnP X m_X7_ownerless [.ref 270, .int (nI 1)] h (some (.int (nI (smN (fun k => if isU (tS T) k = true then rl (sR (tS T) k) else 0) 60)))) from by have z := k_ownerless (X := X) hm hkp hb0 true; rwa [(rel_owl hr.2.1).2] at z)) ?_
    refine ev_isubN dX7_saved_23 (by omega) ?_
    refine ev_i2d dX7_saved_24 ?_
    refine ev_iload_n dX7_saved_25 rfl rfl ?_
    refine ev_i2d dX7_saved_26 ?_
    refine ev_ddiv dX7_saved_27 (by assumption) ?_
    refine ev_dsub dX7_saved_28 (by assumption) ?_
    refine ev_dreturn dX7_saved_29 rfl (Or.inl rfl) (Nat.zero_le _) (Nat.zero_le _) ?_
    exact ⟨rfl, rfl⟩
  · refine ev_pc (pc' := 9) rfl ?_
    rw [show savD T = FP.dconst0 from if_pos hc6]
    refine ev_dconst0 dX7_saved_9 ?_
    refine ev_goto 29 dX7_saved_10 rfl ?_
    refine ev_dreturn dX7_saved_29 rfl (Or.inl rfl) (Nat.zero_le _) (Nat.zero_le _) ?_
    exact ⟨rfl, rfl⟩
set_option maxHeartbeats 4000000 in
set_option maxRecDepth 100000 in
theorem k_savedShare {X : mX} {h : mH} {gz : Nat → Nat} {gc : Nat → Int64} {gs : Nat} {gh : Nat → Nat} {gk : Nat → Int64} {gl : Nat} {gb : Nat → Nat} {gt : Nat} {gr : Nat → Nat} {gm : Nat} {gp : Nat → Int64} {gq : Nat → Nat} {ge : Nat → Nat} {gn : Nat} {go : Nat → Nat} {gu : Nat} {gi : Bool} {ga : Nat → Int64} {gv : Nat → Nat} {gw : Nat} {gx : Int64} (hm : MN h gz gc gs gh gk gl gb gt gr gm gp gq ge gn go gu gi ga gv gw gx) {T : mSt} (hr : RelT gz gc T) (hT : InvT T) (hsh : ShOK T) : CnU X m_X7_savedShare [.ref 270] h (fun v h1 => v = some (.double (savD T)) ∧ MS h1 gz gc gs gh gk gl gb 0 gx ∧ Out h h1 270 13) := by
  obtain ⟨m0, m1, m2, m3, m4, m5, m6, m7, m8, m9, m10, m11, m12⟩ := id hm
  have ho : Out h h 270 13 := Out.rf
  refine cn_of_ev (L0 := [_]) (by decide +kernel) rfl rfl (Nat.le_of_ble_eq_true rfl) rfl ?_
  refine ev_aload_n dX7_savedShare_0 rfl rfl ?_
  refine ev_iconst (nI 0) dX7_savedShare_1 rfl ?_
  refine em_pTh dX7_savedShare_2 lf_7_47 hm (fun h2 hm2 o2 => ?_)
  have ho := ho.tr o2
  obtain ⟨m0, m1, m2, m3, m4, m5, m6, m7, m8, m9, m10, m11, m12⟩ := id hm2
  refine ev_aload_n dX7_savedShare_5 rfl rfl ?_
  refine ev_callVP0 dX7_savedShare_6 cal_X7_saved lk_7_287 ⟨(Nat.le_of_ble_eq_true rfl), (Nat.le_of_ble_eq_true rfl)⟩ rfl m0 (Nat.le_of_ble_eq_true rfl) (k_saved hm2 hr hT hsh) ?_
  refine ev_dreturn dX7_savedShare_9 rfl (Or.inl rfl) (Nat.zero_le _) (Nat.zero_le _) ?_
  exact ⟨_, rfl, rfl, hm2.ms, ho⟩
