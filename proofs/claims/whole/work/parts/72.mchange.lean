set_option maxHeartbeats 4000000 in
set_option maxRecDepth 100000 in
theorem k_change {X : mX} {h : mH} {gz : Nat → Nat} {gc : Nat → Int64} {gs : Nat} {gh : Nat → Nat} {gk : Nat → Int64} {gl : Nat} {gb : Nat → Nat} {gt : Nat} {gr : Nat → Nat} {gm : Nat} {gp : Nat → Int64} {gq : Nat → Nat} {ge : Nat → Nat} {gn : Nat} {go : Nat → Nat} {gu : Nat} {gi : Bool} {ga : Nat → Int64} {gv : Nat → Nat} {gw : Nat} {gx : Int64} (hm : MN h gz gc gs gh gk gl gb gt gr gm gp gq ge gn go gu gi ga gv gw gx) {T : mSt} (hr : RelT gz gc T) (hT : InvT T) {n : Nat} {Ts : Nat → mSt} (hh : HisR gs gh gk n Ts) (hI : ∀ i, i < n → InvT (Ts i)) (hn6 : n ≤ 6) {K : mCt} (hK : Tile K) (hcm : CutM gp gq ge gn K) (hgm : gm = kL K) (hgr : ∀ j, j < kL K → gr j = kS K j) (t : Nat) (ht : t < 4) (hok : okS T t K = true) (rf : Nat) : CnU X m_X7_change [.ref 270, .int (nI t), .int (nI rf)] h (fun v h1 => v = some (.int (nI (kN K))) ∧ (∃ z c s H E, MS h1 z c s H E gl gb 0 gx ∧ RelT z c (chgT T t K) ∧ HisR s H E (pshN n) (pshT n Ts T)) ∧ Out h h1 270 13) := by
  obtain ⟨m0, m1, m2, m3, m4, m5, m6, m7, m8, m9, m10, m11, m12⟩ := id hm
  have ho : Out h h 270 13 := Out.rf
  refine cn_of_ev (L0 := [_, _, _]) (by decide +kernel) rfl rfl (Nat.le_of_ble_eq_true rfl) rfl ?_
  refine ev_aload_n dX7_change_0 rfl rfl ?_
  refine ev_aload_n dX7_change_1 rfl rfl ?_
  refine ev_iload_n dX7_change_2 rfl rfl ?_
  refine ev_callVP1 dX7_change_3 cal_X7_isRefused lk_7_166 ⟨(Nat.le_of_ble_eq_true rfl), (Nat.le_of_ble_eq_true rfl)⟩ rfl m0 (Nat.le_of_ble_eq_true rfl) ((show CnP X m_X7_isRefused _ _ (some (.int (bI false))) from by have z := k_isRefused (X := X) hm (hcm.q hK).1 (hcm.q hK).2 hr.2.1.kp t ht (hr.tx hT ht) (hr.ob hT ht); rwa [rel_ref hr hT hcm hK ht, hok] at z)) ?_
  refine ev_if_eqB 13 dX7_change_6 rfl (fun hc6 => ?_) (fun hc6 => ?_)
  · refine ev_iconst (nI 0) dX7_change_13 rfl ?_
    refine em_pTh dX7_change_14 lf_7_47 hm (fun h14 hm14 o14 => ?_)
    have ho := ho.tr o14
    obtain ⟨m0, m1, m2, m3, m4, m5, m6, m7, m8, m9, m10, m11, m12⟩ := id hm14
    refine ev_aload_n dX7_change_17 rfl rfl ?_
    refine ev_getfield dX7_change_18 lf_7_47 m0 rfl ?_
    refine ev_if_leN 26 dX7_change_21 rfl (by omega) (fun hc21 => ?_) (fun hc21 => ?_)
    · refine ev_aload_n dX7_change_26 rfl rfl ?_
      refine ev_callVU0 dX7_change_27 cal_X7_save lk_7_169 ⟨(Nat.le_of_ble_eq_true rfl), (Nat.le_of_ble_eq_true rfl)⟩ rfl m0 (Nat.le_of_ble_eq_true rfl) (k_save hm14 hr hT hh hI hn6) (fun v h27 hq27 => ?_)
      refine ev_pc (pc' := 30) rfl ?_
      obtain ⟨rfl, ⟨s1, H1, E1, hm27, hh1⟩, o27⟩ := hq27
      have ho := ho.tr o27
      obtain ⟨m0, m1, m2, m3, m4, m5, m6, m7, m8, m9, m10, m11, m12⟩ := id hm27
      refine ev_aload_n dX7_change_30 rfl rfl ?_
      refine ev_iload_n dX7_change_31 rfl rfl ?_
      refine ev_callVU1 dX7_change_32 cal_X7_lay lk_7_172 ⟨(Nat.le_of_ble_eq_true rfl), (Nat.le_of_ble_eq_true rfl)⟩ rfl m0 (Nat.le_of_ble_eq_true rfl) (k_lay hm27 hr hT hK hcm hgm hgr t ht hok) (fun v h32 hq32 => ?_)
      refine ev_pc (pc' := 35) rfl ?_
      obtain ⟨rfl, ⟨z9, c9, hm32, hr9⟩, o32⟩ := hq32
      have ho := ho.tr o32
      refine ev_ireturn dX7_change_35 rfl (Or.inl rfl) (Nat.zero_le _) (Nat.zero_le _) ?_
      exact ⟨_, rfl, rfl, ⟨_, _, _, _, _, hm32.ms, hr9, hh1⟩, ho⟩
    · first | omega | exact absurd hc21 (by decide)
  · first | omega | exact absurd hc6 (by decide)
set_option maxHeartbeats 4000000 in
set_option maxRecDepth 100000 in
theorem k_change9 {X : mX} {h : mH} {gz : Nat → Nat} {gc : Nat → Int64} {gs : Nat} {gh : Nat → Nat} {gk : Nat → Int64} {gl : Nat} {gb : Nat → Nat} {gt : Nat} {gr : Nat → Nat} {gm : Nat} {gp : Nat → Int64} {gq : Nat → Nat} {ge : Nat → Nat} {gn : Nat} {go : Nat → Nat} {gu : Nat} {gi : Bool} {ga : Nat → Int64} {gv : Nat → Nat} {gw : Nat} {gx : Int64} (hm : MN h gz gc gs gh gk gl gb gt gr gm gp gq ge gn go gu gi ga gv gw gx) {T : mSt} (hr : RelT gz gc T) (hT : InvT T) {K : mCt} (hK : Tile K) (hcm : CutM gp gq ge gn K) (hgm : gm = kL K) (hgr : ∀ j, j < kL K → gr j = kS K j) (t : Nat) (ht : t < 4) (hok : okS T t K = false) (rf : Nat) (hrf : 0 < rf) (hrf2 : rf < 10) : CnU X m_X7_change [.ref 270, .int (nI t), .int (nI rf)] h (fun v h1 => v = some (.int (nI 0)) ∧ MS h1 gz gc gs gh gk gl gb rf gx ∧ Out h h1 270 13) := by
  obtain ⟨m0, m1, m2, m3, m4, m5, m6, m7, m8, m9, m10, m11, m12⟩ := id hm
  have ho : Out h h 270 13 := Out.rf
  refine cn_of_ev (L0 := [_, _, _]) (by decide +kernel) rfl rfl (Nat.le_of_ble_eq_true rfl) rfl ?_
  refine ev_aload_n dX7_change_0 rfl rfl ?_
  refine ev_aload_n dX7_change_1 rfl rfl ?_
  refine ev_iload_n dX7_change_2 rfl rfl ?_
  refine ev_callVP1 dX7_change_3 cal_X7_isRefused lk_7_166 ⟨(Nat.le_of_ble_eq_true rfl), (Nat.le_of_ble_eq_true rfl)⟩ rfl m0 (Nat.le_of_ble_eq_true rfl) ((show CnP X m_X7_isRefused _ _ (some (.int (bI true))) from by have z := k_isRefused (X := X) hm (hcm.q hK).1 (hcm.q hK).2 hr.2.1.kp t ht (hr.tx hT ht) (hr.ob hT ht); rwa [rel_ref hr hT hcm hK ht, hok] at z)) ?_
  refine ev_if_eqB 13 dX7_change_6 rfl (fun hc6 => ?_) (fun hc6 => ?_)
  · first | omega | exact absurd hc6 (by decide)
  · refine ev_iload_n dX7_change_9 rfl rfl ?_
    refine ev_goto 14 dX7_change_10 rfl ?_
    refine em_pTh dX7_change_14 lf_7_47 hm (fun h14 hm14 o14 => ?_)
    have ho := ho.tr o14
    obtain ⟨m0, m1, m2, m3, m4, m5, m6, m7, m8, m9, m10, m11, m12⟩ := id hm14
    refine ev_aload_n dX7_change_17 rfl rfl ?_
    refine ev_getfield dX7_change_18 lf_7_47 m0 rfl ?_
    refine ev_if_leN 26 dX7_change_21 rfl (by omega) (fun hc21 => ?_) (fun hc21 => ?_)
    · first | omega | exact absurd hc21 (by decide)
    · refine ev_iconst (nI 0) dX7_change_24 rfl ?_
      refine ev_ireturn dX7_change_25 rfl (Or.inl rfl) (Nat.zero_le _) (Nat.zero_le _) ?_
      exact ⟨_, rfl, rfl, hm14.ms, ho⟩
theorem cut_row {gz r : Nat → Nat} {gc gp : Nat → Int64} {gq ge : Nat → Nat} {T : mSt} (hr : RelT gz gc T) (hT : InvT T) {n : Nat} {s : Nat → Nat} (hn : n ≤ 40) (hs : ∀ j, j < n → 1 ≤ s j ∧ s j ≤ 8) (h : ∀ j, j < n → r j = s j) : Tile (cutK (tV T) n s) ∧ CutM (cuM gz r n gp gq ge n).2.2.2.1 (cuM gz r n gp gq ge n).2.2.2.2.1 (cuM gz r n gp gq ge n).2.2.2.2.2 (cuM gz r n gp gq ge n).2.2.1 (cutK (tV T) n s) ∧ ∀ j, j < n → 1 ≤ r j ∧ r j ≤ 8 :=
  ⟨cutK_tile hT.1 hn hs, cutM_of hT.1 hs (fun i hi => hr.1 i hi) h, fun j hj => by rw [h j hj]; exact hs j hj⟩
set_option maxHeartbeats 4000000 in
set_option maxRecDepth 100000 in
theorem k_copy1 {X : mX} {h : mH} {gz : Nat → Nat} {gc : Nat → Int64} {gs : Nat} {gh : Nat → Nat} {gk : Nat → Int64} {gl : Nat} {gb : Nat → Nat} {gt : Nat} {gr : Nat → Nat} {gm : Nat} {gp : Nat → Int64} {gq : Nat → Nat} {ge : Nat → Nat} {gn : Nat} {go : Nat → Nat} {gu : Nat} {gi : Bool} {ga : Nat → Int64} {gv : Nat → Nat} {gw : Nat} {gx : Int64} (hm : MN h gz gc gs gh gk gl gb gt gr gm gp gq ge gn go gu gi ga gv gw gx) (t u : Int32) (ht : inX t 0 4 = false) : CnU X m_X7_copy [.ref 270, .int t, .int u] h (fun v h1 => v = some (.int (nI 0)) ∧ MS h1 gz gc gs gh gk gl gb 1 gx ∧ Out h h1 270 13) := by
  obtain ⟨m0, m1, m2, m3, m4, m5, m6, m7, m8, m9, m10, m11, m12⟩ := id hm
  have ho : Out h h 270 13 := Out.rf
  refine cn_of_ev (L0 := [_, _, _]) (by decide +kernel) rfl rfl (Nat.le_of_ble_eq_true rfl) rfl ?_
  refine ev_aload_n dX7_copy_0 rfl rfl ?_
  refine ev_iload_n dX7_copy_1 rfl rfl ?_
  refine ev_callSP1 dX7_copy_2 cal_X7_isText lk_7_157 ⟨(Nat.le_of_ble_eq_true rfl), (Nat.le_of_ble_eq_true rfl)⟩ rfl (Nat.le_of_ble_eq_true rfl) (k_isTextB ht) ?_
  refine ev_if_eqB 19 dX7_copy_5 rfl (fun hc5 => ?_) (fun hc5 => ?_)
  · refine ev_iconst (nI 1) dX7_copy_19 rfl ?_
    refine em_pTh dX7_copy_20 lf_7_47 hm (fun h20 hm20 o20 => ?_)
    have ho := ho.tr o20
    obtain ⟨m0, m1, m2, m3, m4, m5, m6, m7, m8, m9, m10, m11, m12⟩ := id hm20
    refine ev_aload_n dX7_copy_23 rfl rfl ?_
    refine ev_getfield dX7_copy_24 lf_7_47 m0 rfl ?_
    refine ev_if_leN 32 dX7_copy_27 rfl (by omega) (fun hc27 => ?_) (fun hc27 => ?_)
    · first | omega | exact absurd hc27 (by decide)
    · refine ev_iconst (nI 0) dX7_copy_30 rfl ?_
      refine ev_ireturn dX7_copy_31 rfl (Or.inl rfl) (Nat.zero_le _) (Nat.zero_le _) ?_
      exact ⟨_, rfl, rfl, hm20.ms, ho⟩
  · first | omega | exact absurd hc5 (by decide)
set_option maxHeartbeats 4000000 in
set_option maxRecDepth 100000 in
theorem k_copy2 {X : mX} {h : mH} {gz : Nat → Nat} {gc : Nat → Int64} {gs : Nat} {gh : Nat → Nat} {gk : Nat → Int64} {gl : Nat} {gb : Nat → Nat} {gt : Nat} {gr : Nat → Nat} {gm : Nat} {gp : Nat → Int64} {gq : Nat → Nat} {ge : Nat → Nat} {gn : Nat} {go : Nat → Nat} {gu : Nat} {gi : Bool} {ga : Nat → Int64} {gv : Nat → Nat} {gw : Nat} {gx : Int64} (hm : MN h gz gc gs gh gk gl gb gt gr gm gp gq ge gn go gu gi ga gv gw gx) (t : Nat) (u : Int32) (ht : t < 4) (hu : inX u 0 4 = false) : CnU X m_X7_copy [.ref 270, .int (nI t), .int u] h (fun v h1 => v = some (.int (nI 0)) ∧ MS h1 gz gc gs gh gk gl gb 1 gx ∧ Out h h1 270 13) := by
  obtain ⟨m0, m1, m2, m3, m4, m5, m6, m7, m8, m9, m10, m11, m12⟩ := id hm
  have ho : Out h h 270 13 := Out.rf
  refine cn_of_ev (L0 := [_, _, _]) (by decide +kernel) rfl rfl (Nat.le_of_ble_eq_true rfl) rfl ?_
  refine ev_aload_n dX7_copy_0 rfl rfl ?_
  refine ev_iload_n dX7_copy_1 rfl rfl ?_
  refine ev_callSP1 dX7_copy_2 cal_X7_isText lk_7_157 ⟨(Nat.le_of_ble_eq_true rfl), (Nat.le_of_ble_eq_true rfl)⟩ rfl (Nat.le_of_ble_eq_true rfl) (k_isTextB (inY (by omega) (Nat.zero_le _) ht)) ?_
  refine ev_if_eqB 19 dX7_copy_5 rfl (fun hc5 => ?_) (fun hc5 => ?_)
  · first | omega | exact absurd hc5 (by decide)
  · refine ev_iload_n dX7_copy_8 rfl rfl ?_
    refine ev_callSP1 dX7_copy_9 cal_X7_isText lk_7_157 ⟨(Nat.le_of_ble_eq_true rfl), (Nat.le_of_ble_eq_true rfl)⟩ rfl (Nat.le_of_ble_eq_true rfl) (k_isTextB hu) ?_
    refine ev_if_eqB 19 dX7_copy_12 rfl (fun hc12 => ?_) (fun hc12 => ?_)
    · refine ev_iconst (nI 1) dX7_copy_19 rfl ?_
      refine em_pTh dX7_copy_20 lf_7_47 hm (fun h20 hm20 o20 => ?_)
      have ho := ho.tr o20
      obtain ⟨m0, m1, m2, m3, m4, m5, m6, m7, m8, m9, m10, m11, m12⟩ := id hm20
      refine ev_aload_n dX7_copy_23 rfl rfl ?_
      refine ev_getfield dX7_copy_24 lf_7_47 m0 rfl ?_
      refine ev_if_leN 32 dX7_copy_27 rfl (by omega) (fun hc27 => ?_) (fun hc27 => ?_)
      · first | omega | exact absurd hc27 (by decide)
      · refine ev_iconst (nI 0) dX7_copy_30 rfl ?_
        refine ev_ireturn dX7_copy_31 rfl (Or.inl rfl) (Nat.zero_le _) (Nat.zero_le _) ?_
        exact ⟨_, rfl, rfl, hm20.ms, ho⟩
    · first | omega | exact absurd hc12 (by decide)
set_option maxHeartbeats 4000000 in
set_option maxRecDepth 100000 in
theorem k_copy {X : mX} {h : mH} {gz : Nat → Nat} {gc : Nat → Int64} {gs : Nat} {gh : Nat → Nat} {gk : Nat → Int64} {gl : Nat} {gb : Nat → Nat} {gt : Nat} {gr : Nat → Nat} {gm : Nat} {gp : Nat → Int64} {gq : Nat → Nat} {ge : Nat → Nat} {gn : Nat} {go : Nat → Nat} {gu : Nat} {gi : Bool} {ga : Nat → Int64} {gv : Nat → Nat} {gw : Nat} {gx : Int64} (hm : MN h gz gc gs gh gk gl gb gt gr gm gp gq ge gn go gu gi ga gv gw gx) {T : mSt} (hr : RelT gz gc T) (hT : InvT T) {n : Nat} {Ts : Nat → mSt} (hh : HisR gs gh gk n Ts) (hI : ∀ i, i < n → InvT (Ts i)) (hn6 : n ≤ 6) (t u : Nat) (ht : t < 4) (hu : u < 4) (hok : okS T t (cutK (tV T) (kL (tC T u)) (kS (tC T u))) = true) : CnU X m_X7_copy [.ref 270, .int (nI t), .int (nI u)] h (fun v h1 => v = some (.int (nI (kN (cutK (tV T) (kL (tC T u)) (kS (tC T u)))))) ∧ (∃ z c s H E, MS h1 z c s H E gl gb 0 gx ∧ RelT z c (chgT T t (cutK (tV T) (kL (tC T u)) (kS (tC T u)))) ∧ HisR s H E (pshN n) (pshT n Ts T)) ∧ Out h h1 270 13) := by
  obtain ⟨m0, m1, m2, m3, m4, m5, m6, m7, m8, m9, m10, m11, m12⟩ := id hm
  have ho : Out h h 270 13 := Out.rf
  have hX := hr.2.2 u hu
  have hKu := hT.2.1 u hu
  have h40 := hKu.1
  have h7 := hX.1
  have hsg := hKu.2.1
  refine cn_of_ev (L0 := [_, _, _]) (by decide +kernel) rfl rfl (Nat.le_of_ble_eq_true rfl) rfl ?_
  refine ev_aload_n dX7_copy_0 rfl rfl ?_
  refine ev_iload_n dX7_copy_1 rfl rfl ?_
  refine ev_callSP1 dX7_copy_2 cal_X7_isText lk_7_157 ⟨(Nat.le_of_ble_eq_true rfl), (Nat.le_of_ble_eq_true rfl)⟩ rfl (Nat.le_of_ble_eq_true rfl) (k_isTextB (inY (by omega) (Nat.zero_le _) ht)) ?_
  refine ev_if_eqB 19 dX7_copy_5 rfl (fun hc5 => ?_) (fun hc5 => ?_)
  · first | omega | exact absurd hc5 (by decide)
  · refine ev_iload_n dX7_copy_8 rfl rfl ?_
    refine ev_callSP1 dX7_copy_9 cal_X7_isText lk_7_157 ⟨(Nat.le_of_ble_eq_true rfl), (Nat.le_of_ble_eq_true rfl)⟩ rfl (Nat.le_of_ble_eq_true rfl) (k_isTextB (inY (by omega) (Nat.zero_le _) hu)) ?_
    refine ev_if_eqB 19 dX7_copy_12 rfl (fun hc12 => ?_) (fun hc12 => ?_)
    · first | omega | exact absurd hc12 (by decide)
    · refine ev_iconst (nI 0) dX7_copy_15 rfl ?_
      refine ev_goto 20 dX7_copy_16 rfl ?_
      refine em_pTh dX7_copy_20 lf_7_47 hm (fun h20 hm20 o20 => ?_)
      have ho := ho.tr o20
      obtain ⟨m0, m1, m2, m3, m4, m5, m6, m7, m8, m9, m10, m11, m12⟩ := id hm20
      refine ev_aload_n dX7_copy_23 rfl rfl ?_
      refine ev_getfield dX7_copy_24 lf_7_47 m0 rfl ?_
      refine ev_if_leN 32 dX7_copy_27 rfl (by omega) (fun hc27 => ?_) (fun hc27 => ?_)
      · refine ev_aload_n dX7_copy_32 rfl rfl ?_
        refine ev_iload_n dX7_copy_33 rfl rfl ?_
        refine ev_callVU1 dX7_copy_34 cal_X7_takeRow lk_7_175 ⟨(Nat.le_of_ble_eq_true rfl), (Nat.le_of_ble_eq_true rfl)⟩ rfl m0 (Nat.le_of_ble_eq_true rfl) (k_takeRow hm20 u hu (by omega)) (fun v h34 hq34 => ?_)
        refine ev_pc (pc' := 37) rfl ?_
        obtain ⟨rfl, ⟨f, hm34, hf⟩, o34⟩ := hq34
        have ho := ho.tr o34
        rw [h7] at hm34 hf
        have hf2 : ∀ j, j < kL (tC T u) → f j = kS (tC T u) j := fun j hj => by rw [hf j hj]; exact hX.2.1 j hj
        obtain ⟨m0, m1, m2, m3, m4, m5, m6, m7, m8, m9, m10, m11, m12⟩ := id hm34
        obtain ⟨hK, hcm, hrr⟩ := cut_row (gp := gp) (gq := gq) (ge := ge) (n := kL (tC T u)) (s := kS (tC T u)) hr hT (by omega) hsg hf2
        refine ev_aload_n dX7_copy_37 rfl rfl ?_
        refine ev_callVU0 dX7_copy_38 cal_X7_cut lk_7_154 ⟨(Nat.le_of_ble_eq_true rfl), (Nat.le_of_ble_eq_true rfl)⟩ rfl m0 (Nat.le_of_ble_eq_true rfl) (k_cut hm34 (rel_setV hr hT) hrr (by omega)) (fun v h38 hq38 => ?_)
        obtain ⟨rfl, hm38, o38⟩ := hq38
        have ho := ho.tr o38
        obtain ⟨m0, m1, m2, m3, m4, m5, m6, m7, m8, m9, m10, m11, m12⟩ := id hm38
        refine ev_aload_n dX7_copy_41 rfl rfl ?_
        refine ev_iload_n dX7_copy_42 rfl rfl ?_
        refine ev_iconst (nI 2) dX7_copy_43 rfl ?_
        refine ev_callVU2 dX7_copy_44 cal_X7_change lk_7_185 ⟨(Nat.le_of_ble_eq_true rfl), (Nat.le_of_ble_eq_true rfl)⟩ rfl m0 (Nat.le_of_ble_eq_true rfl) (k_change hm38 hr hT hh hI hn6 hK hcm rfl hf2 t ht hok 2) (fun v h44 hq44 => ?_)
        refine ev_pc (pc' := 47) rfl ?_
        obtain ⟨rfl, hs9, o9⟩ := hq44
        have ho := ho.tr o9
        refine ev_ireturn dX7_copy_47 rfl (Or.inl rfl) (Nat.zero_le _) (Nat.zero_le _) ?_
        exact ⟨_, rfl, rfl, hs9, ho⟩
      · first | omega | exact absurd hc27 (by decide)
set_option maxHeartbeats 4000000 in
set_option maxRecDepth 100000 in
theorem k_copy9 {X : mX} {h : mH} {gz : Nat → Nat} {gc : Nat → Int64} {gs : Nat} {gh : Nat → Nat} {gk : Nat → Int64} {gl : Nat} {gb : Nat → Nat} {gt : Nat} {gr : Nat → Nat} {gm : Nat} {gp : Nat → Int64} {gq : Nat → Nat} {ge : Nat → Nat} {gn : Nat} {go : Nat → Nat} {gu : Nat} {gi : Bool} {ga : Nat → Int64} {gv : Nat → Nat} {gw : Nat} {gx : Int64} (hm : MN h gz gc gs gh gk gl gb gt gr gm gp gq ge gn go gu gi ga gv gw gx) {T : mSt} (hr : RelT gz gc T) (hT : InvT T) (t u : Nat) (ht : t < 4) (hu : u < 4) (hok : okS T t (cutK (tV T) (kL (tC T u)) (kS (tC T u))) = false) : CnU X m_X7_copy [.ref 270, .int (nI t), .int (nI u)] h (fun v h1 => v = some (.int (nI 0)) ∧ MS h1 gz gc gs gh gk gl gb 2 gx ∧ Out h h1 270 13) := by
  obtain ⟨m0, m1, m2, m3, m4, m5, m6, m7, m8, m9, m10, m11, m12⟩ := id hm
  have ho : Out h h 270 13 := Out.rf
  have hX := hr.2.2 u hu
  have hKu := hT.2.1 u hu
  have h40 := hKu.1
  have h7 := hX.1
  have hsg := hKu.2.1
  refine cn_of_ev (L0 := [_, _, _]) (by decide +kernel) rfl rfl (Nat.le_of_ble_eq_true rfl) rfl ?_
  refine ev_aload_n dX7_copy_0 rfl rfl ?_
  refine ev_iload_n dX7_copy_1 rfl rfl ?_
  refine ev_callSP1 dX7_copy_2 cal_X7_isText lk_7_157 ⟨(Nat.le_of_ble_eq_true rfl), (Nat.le_of_ble_eq_true rfl)⟩ rfl (Nat.le_of_ble_eq_true rfl) (k_isTextB (inY (by omega) (Nat.zero_le _) ht)) ?_
  refine ev_if_eqB 19 dX7_copy_5 rfl (fun hc5 => ?_) (fun hc5 => ?_)
  · first | omega | exact absurd hc5 (by decide)
  · refine ev_iload_n dX7_copy_8 rfl rfl ?_
    refine ev_callSP1 dX7_copy_9 cal_X7_isText lk_7_157 ⟨(Nat.le_of_ble_eq_true rfl), (Nat.le_of_ble_eq_true rfl)⟩ rfl (Nat.le_of_ble_eq_true rfl) (k_isTextB (inY (by omega) (Nat.zero_le _) hu)) ?_
    refine ev_if_eqB 19 dX7_copy_12 rfl (fun hc12 => ?_) (fun hc12 => ?_)
    · first | omega | exact absurd hc12 (by decide)
    · refine ev_iconst (nI 0) dX7_copy_15 rfl ?_
      refine ev_goto 20 dX7_copy_16 rfl ?_
      refine em_pTh dX7_copy_20 lf_7_47 hm (fun h20 hm20 o20 => ?_)
      have ho := ho.tr o20
      obtain ⟨m0, m1, m2, m3, m4, m5, m6, m7, m8, m9, m10, m11, m12⟩ := id hm20
      refine ev_aload_n dX7_copy_23 rfl rfl ?_
      refine ev_getfield dX7_copy_24 lf_7_47 m0 rfl ?_
      refine ev_if_leN 32 dX7_copy_27 rfl (by omega) (fun hc27 => ?_) (fun hc27 => ?_)
      · refine ev_aload_n dX7_copy_32 rfl rfl ?_
        refine ev_iload_n dX7_copy_33 rfl rfl ?_
        refine ev_callVU1 dX7_copy_34 cal_X7_takeRow lk_7_175 ⟨(Nat.le_of_ble_eq_true rfl), (Nat.le_of_ble_eq_true rfl)⟩ rfl m0 (Nat.le_of_ble_eq_true rfl) (k_takeRow hm20 u hu (by omega)) (fun v h34 hq34 => ?_)
        refine ev_pc (pc' := 37) rfl ?_
        obtain ⟨rfl, ⟨f, hm34, hf⟩, o34⟩ := hq34
        have ho := ho.tr o34
        rw [h7] at hm34 hf
        have hf2 : ∀ j, j < kL (tC T u) → f j = kS (tC T u) j := fun j hj => by rw [hf j hj]; exact hX.2.1 j hj
        obtain ⟨m0, m1, m2, m3, m4, m5, m6, m7, m8, m9, m10, m11, m12⟩ := id hm34
        obtain ⟨hK, hcm, hrr⟩ := cut_row (gp := gp) (gq := gq) (ge := ge) (n := kL (tC T u)) (s := kS (tC T u)) hr hT (by omega) hsg hf2
        refine ev_aload_n dX7_copy_37 rfl rfl ?_
        refine ev_callVU0 dX7_copy_38 cal_X7_cut lk_7_154 ⟨(Nat.le_of_ble_eq_true rfl), (Nat.le_of_ble_eq_true rfl)⟩ rfl m0 (Nat.le_of_ble_eq_true rfl) (k_cut hm34 (rel_setV hr hT) hrr (by omega)) (fun v h38 hq38 => ?_)
        obtain ⟨rfl, hm38, o38⟩ := hq38
        have ho := ho.tr o38
        obtain ⟨m0, m1, m2, m3, m4, m5, m6, m7, m8, m9, m10, m11, m12⟩ := id hm38
        refine ev_aload_n dX7_copy_41 rfl rfl ?_
        refine ev_iload_n dX7_copy_42 rfl rfl ?_
        refine ev_iconst (nI 2) dX7_copy_43 rfl ?_
        refine ev_callVU2 dX7_copy_44 cal_X7_change lk_7_185 ⟨(Nat.le_of_ble_eq_true rfl), (Nat.le_of_ble_eq_true rfl)⟩ rfl m0 (Nat.le_of_ble_eq_true rfl) (k_change9 hm38 hr hT hK hcm rfl hf2 t ht hok 2 (by decide) (by decide)) (fun v h44 hq44 => ?_)
        refine ev_pc (pc' := 47) rfl ?_
        obtain ⟨rfl, hs9, o9⟩ := hq44
        have ho := ho.tr o9
        refine ev_ireturn dX7_copy_47 rfl (Or.inl rfl) (Nat.zero_le _) (Nat.zero_le _) ?_
        exact ⟨_, rfl, rfl, hs9, ho⟩
      · first | omega | exact absurd hc27 (by decide)
set_option maxHeartbeats 4000000 in
set_option maxRecDepth 100000 in
theorem k_rotate1 {X : mX} {h : mH} {gz : Nat → Nat} {gc : Nat → Int64} {gs : Nat} {gh : Nat → Nat} {gk : Nat → Int64} {gl : Nat} {gb : Nat → Nat} {gt : Nat} {gr : Nat → Nat} {gm : Nat} {gp : Nat → Int64} {gq : Nat → Nat} {ge : Nat → Nat} {gn : Nat} {go : Nat → Nat} {gu : Nat} {gi : Bool} {ga : Nat → Int64} {gv : Nat → Nat} {gw : Nat} {gx : Int64} (hm : MN h gz gc gs gh gk gl gb gt gr gm gp gq ge gn go gu gi ga gv gw gx) (t u : Int32) (ht : inX t 0 4 = false) : CnU X m_X7_rotate [.ref 270, .int t, .int u] h (fun v h1 => v = some (.int (nI 0)) ∧ MS h1 gz gc gs gh gk gl gb 1 gx ∧ Out h h1 270 13) := by
  obtain ⟨m0, m1, m2, m3, m4, m5, m6, m7, m8, m9, m10, m11, m12⟩ := id hm
  have ho : Out h h 270 13 := Out.rf
  refine cn_of_ev (L0 := [_, _, _, _]) (by decide +kernel) rfl rfl (Nat.le_of_ble_eq_true rfl) rfl ?_
  refine ev_aload_n dX7_rotate_0 rfl rfl ?_
  refine ev_iload_n dX7_rotate_1 rfl rfl ?_
  refine ev_callSP1 dX7_rotate_2 cal_X7_isText lk_7_157 ⟨(Nat.le_of_ble_eq_true rfl), (Nat.le_of_ble_eq_true rfl)⟩ rfl (Nat.le_of_ble_eq_true rfl) (k_isTextB ht) ?_
  refine ev_if_neB 12 dX7_rotate_5 rfl (fun hc5 => ?_) (fun hc5 => ?_)
  · first | omega | exact absurd hc5 (by decide)
  · refine ev_iconst (nI 1) dX7_rotate_8 rfl ?_
    refine ev_goto 30 dX7_rotate_9 rfl ?_
    refine em_pTh dX7_rotate_30 lf_7_47 hm (fun h30 hm30 o30 => ?_)
    have ho := ho.tr o30
    obtain ⟨m0, m1, m2, m3, m4, m5, m6, m7, m8, m9, m10, m11, m12⟩ := id hm30
    refine ev_aload_n dX7_rotate_33 rfl rfl ?_
    refine ev_getfield dX7_rotate_34 lf_7_47 m0 rfl ?_
    refine ev_if_leN 42 dX7_rotate_37 rfl (by omega) (fun hc37 => ?_) (fun hc37 => ?_)
    · first | omega | exact absurd hc37 (by decide)
    · refine ev_iconst (nI 0) dX7_rotate_40 rfl ?_
      refine ev_ireturn dX7_rotate_41 rfl (Or.inl rfl) (Nat.zero_le _) (Nat.zero_le _) ?_
      exact ⟨_, rfl, rfl, hm30.ms, ho⟩
set_option maxHeartbeats 4000000 in
set_option maxRecDepth 100000 in
theorem k_rotate2 {X : mX} {h : mH} {gz : Nat → Nat} {gc : Nat → Int64} {gs : Nat} {gh : Nat → Nat} {gk : Nat → Int64} {gl : Nat} {gb : Nat → Nat} {gt : Nat} {gr : Nat → Nat} {gm : Nat} {gp : Nat → Int64} {gq : Nat → Nat} {ge : Nat → Nat} {gn : Nat} {go : Nat → Nat} {gu : Nat} {gi : Bool} {ga : Nat → Int64} {gv : Nat → Nat} {gw : Nat} {gx : Int64} (hm : MN h gz gc gs gh gk gl gb gt gr gm gp gq ge gn go gu gi ga gv gw gx) {T : mSt} (hr : RelT gz gc T) (hT : InvT T) (t : Nat) (u : Int32) (ht : t < 4) (hu : inX u 1 (kL (tC T t) + 1) = false) : CnU X m_X7_rotate [.ref 270, .int (nI t), .int u] h (fun v h1 => v = some (.int (nI 0)) ∧ MS h1 gz gc gs gh gk gl gb 2 gx ∧ Out h h1 270 13) := by
  obtain ⟨m0, m1, m2, m3, m4, m5, m6, m7, m8, m9, m10, m11, m12⟩ := id hm
  have ho : Out h h 270 13 := Out.rf
  have hX := hr.2.2 t ht
  have hKt := hT.2.1 t ht
  have h40 := hKt.1
  have h7 := hX.1
  refine cn_of_ev (L0 := [_, _, _, _]) (by decide +kernel) rfl rfl (Nat.le_of_ble_eq_true rfl) rfl ?_
  refine ev_aload_n dX7_rotate_0 rfl rfl ?_
  refine ev_iload_n dX7_rotate_1 rfl rfl ?_
  refine ev_callSP1 dX7_rotate_2 cal_X7_isText lk_7_157 ⟨(Nat.le_of_ble_eq_true rfl), (Nat.le_of_ble_eq_true rfl)⟩ rfl (Nat.le_of_ble_eq_true rfl) (k_isTextB (inY (by omega) (Nat.zero_le _) ht)) ?_
  refine ev_if_neB 12 dX7_rotate_5 rfl (fun hc5 => ?_) (fun hc5 => ?_)
  · refine ev_iload_n dX7_rotate_12 rfl rfl ?_
    refine ev_iconst (nI 1) dX7_rotate_13 rfl ?_
    refine ev_aload_n dX7_rotate_14 rfl rfl ?_
    refine ev_iload_n dX7_rotate_15 rfl rfl ?_
    refine ev_callVP1 dX7_rotate_16 cal_X7_signsOf lk_7_58 ⟨(Nat.le_of_ble_eq_true rfl), (Nat.le_of_ble_eq_true rfl)⟩ rfl m0 (Nat.le_of_ble_eq_true rfl) ((show CnP X m_X7_signsOf _ _ (some (.int (nI (kL (tC T t))))) from by have z := k_signsOf (X := X) hm t ht; rwa [h7] at z)) ?_
    refine ev_callSP3 dX7_rotate_19 cal_X7_within lk_7_54 ⟨(Nat.le_of_ble_eq_true rfl), (Nat.le_of_ble_eq_true rfl)⟩ rfl (Nat.le_of_ble_eq_true rfl) (k_wB hu (by decide) (by omega)) ?_
    refine ev_if_eqB 29 dX7_rotate_22 rfl (fun hc22 => ?_) (fun hc22 => ?_)
    · refine ev_iconst (nI 2) dX7_rotate_29 rfl ?_
      refine em_pTh dX7_rotate_30 lf_7_47 hm (fun h30 hm30 o30 => ?_)
      have ho := ho.tr o30
      obtain ⟨m0, m1, m2, m3, m4, m5, m6, m7, m8, m9, m10, m11, m12⟩ := id hm30
      refine ev_aload_n dX7_rotate_33 rfl rfl ?_
      refine ev_getfield dX7_rotate_34 lf_7_47 m0 rfl ?_
      refine ev_if_leN 42 dX7_rotate_37 rfl (by omega) (fun hc37 => ?_) (fun hc37 => ?_)
      · first | omega | exact absurd hc37 (by decide)
      · refine ev_iconst (nI 0) dX7_rotate_40 rfl ?_
        refine ev_ireturn dX7_rotate_41 rfl (Or.inl rfl) (Nat.zero_le _) (Nat.zero_le _) ?_
        exact ⟨_, rfl, rfl, hm30.ms, ho⟩
    · first | omega | exact absurd hc22 (by decide)
  · first | omega | exact absurd hc5 (by decide)
set_option maxHeartbeats 4000000 in
set_option maxRecDepth 100000 in
theorem k_rotate {X : mX} {h : mH} {gz : Nat → Nat} {gc : Nat → Int64} {gs : Nat} {gh : Nat → Nat} {gk : Nat → Int64} {gl : Nat} {gb : Nat → Nat} {gt : Nat} {gr : Nat → Nat} {gm : Nat} {gp : Nat → Int64} {gq : Nat → Nat} {ge : Nat → Nat} {gn : Nat} {go : Nat → Nat} {gu : Nat} {gi : Bool} {ga : Nat → Int64} {gv : Nat → Nat} {gw : Nat} {gx : Int64} (hm : MN h gz gc gs gh gk gl gb gt gr gm gp gq ge gn go gu gi ga gv gw gx) {T : mSt} (hr : RelT gz gc T) (hT : InvT T) {n : Nat} {Ts : Nat → mSt} (hh : HisR gs gh gk n Ts) (hI : ∀ i, i < n → InvT (Ts i)) (hn6 : n ≤ 6) (t m : Nat) (ht : t < 4) (hm1 : 1 ≤ m) (hmL : m ≤ kL (tC T t)) (hok : okS T t (cutK (tV T) (kL (tC T t)) (rotF (kS (tC T t)) (kL (tC T t)) m)) = true) : CnU X m_X7_rotate [.ref 270, .int (nI t), .int (nI m)] h (fun v h1 => v = some (.int (nI (kN (cutK (tV T) (kL (tC T t)) (rotF (kS (tC T t)) (kL (tC T t)) m))))) ∧ (∃ z c s H E, MS h1 z c s H E gl gb 0 gx ∧ RelT z c (chgT T t (cutK (tV T) (kL (tC T t)) (rotF (kS (tC T t)) (kL (tC T t)) m))) ∧ HisR s H E (pshN n) (pshT n Ts T)) ∧ Out h h1 270 13) := by
  obtain ⟨m0, m1, m2, m3, m4, m5, m6, m7, m8, m9, m10, m11, m12⟩ := id hm
  have ho : Out h h 270 13 := Out.rf
  have hX := hr.2.2 t ht
  have hKt := hT.2.1 t ht
  have h40 := hKt.1
  have h7 := hX.1
  have hsg : ∀ j, j < kL (tC T t) → 1 ≤ rotF (kS (tC T t)) (kL (tC T t)) m j ∧ rotF (kS (tC T t)) (kL (tC T t)) m j ≤ 8 := fun j hj => by
    rw [rotF]
    split
    · exact hKt.2.1 _ (by omega)
    · exact hKt.2.1 _ (by omega)
  refine cn_of_ev (L0 := [_, _, _, _]) (by decide +kernel) rfl rfl (Nat.le_of_ble_eq_true rfl) rfl ?_
  refine ev_aload_n dX7_rotate_0 rfl rfl ?_
  refine ev_iload_n dX7_rotate_1 rfl rfl ?_
  refine ev_callSP1 dX7_rotate_2 cal_X7_isText lk_7_157 ⟨(Nat.le_of_ble_eq_true rfl), (Nat.le_of_ble_eq_true rfl)⟩ rfl (Nat.le_of_ble_eq_true rfl) (k_isTextB (inY (by omega) (Nat.zero_le _) ht)) ?_
  refine ev_if_neB 12 dX7_rotate_5 rfl (fun hc5 => ?_) (fun hc5 => ?_)
  · refine ev_iload_n dX7_rotate_12 rfl rfl ?_
    refine ev_iconst (nI 1) dX7_rotate_13 rfl ?_
    refine ev_aload_n dX7_rotate_14 rfl rfl ?_
    refine ev_iload_n dX7_rotate_15 rfl rfl ?_
    refine ev_callVP1 dX7_rotate_16 cal_X7_signsOf lk_7_58 ⟨(Nat.le_of_ble_eq_true rfl), (Nat.le_of_ble_eq_true rfl)⟩ rfl m0 (Nat.le_of_ble_eq_true rfl) ((show CnP X m_X7_signsOf _ _ (some (.int (nI (kL (tC T t))))) from by have z := k_signsOf (X := X) hm t ht; rwa [h7] at z)) ?_
    refine ev_callSP3 dX7_rotate_19 cal_X7_within lk_7_54 ⟨(Nat.le_of_ble_eq_true rfl), (Nat.le_of_ble_eq_true rfl)⟩ rfl (Nat.le_of_ble_eq_true rfl) (k_wB (inY (by omega) hm1 (by omega)) (by decide) (by omega)) ?_
    refine ev_if_eqB 29 dX7_rotate_22 rfl (fun hc22 => ?_) (fun hc22 => ?_)
    · first | omega | exact absurd hc22 (by decide)
    · refine ev_iconst (nI 0) dX7_rotate_25 rfl ?_
      refine ev_goto 30 dX7_rotate_26 rfl ?_
      refine em_pTh dX7_rotate_30 lf_7_47 hm (fun h30 hm30 o30 => ?_)
      have ho := ho.tr o30
      obtain ⟨m0, m1, m2, m3, m4, m5, m6, m7, m8, m9, m10, m11, m12⟩ := id hm30
      refine ev_aload_n dX7_rotate_33 rfl rfl ?_
      refine ev_getfield dX7_rotate_34 lf_7_47 m0 rfl ?_
      refine ev_if_leN 42 dX7_rotate_37 rfl (by omega) (fun hc37 => ?_) (fun hc37 => ?_)
      · refine ev_aload_n dX7_rotate_42 rfl rfl ?_
        refine ev_aload_n dX7_rotate_43 rfl rfl ?_
        refine ev_iload_n dX7_rotate_44 rfl rfl ?_
        refine ev_callVP1 dX7_rotate_45 cal_X7_signsOf lk_7_58 ⟨(Nat.le_of_ble_eq_true rfl), (Nat.le_of_ble_eq_true rfl)⟩ rfl m0 (Nat.le_of_ble_eq_true rfl) ((show CnP X m_X7_signsOf _ _ (some (.int (nI (kL (tC T t))))) from by have z := k_signsOf (X := X) hm30 t ht; rwa [h7] at z)) ?_
        refine em_pRM dX7_rotate_48 lf_7_62 hm30 (fun h48 hm48 o48 => ?_)
        have ho := ho.tr o48
        obtain ⟨m0, m1, m2, m3, m4, m5, m6, m7, m8, m9, m10, m11, m12⟩ := id hm48
        refine ev_iconst (nI 0) dX7_rotate_51 rfl ?_
        refine ev_istore_n (L' := [_, _, _, _]) dX7_rotate_52 rfl (Nat.le_of_ble_eq_true rfl) rfl ?_
        refine ev_pc (pc' := 53) rfl ?_
        have LP53 : ∀ (mz : Nat) (k : Nat) (h2 : mH) (f : Nat → Nat), kL (tC T t) - k = mz → (k ≤ kL (tC T t)) → (MN h2 gz gc gs gh gk gl gb 0 f (kL (tC T t)) gp gq ge gn go gu gi ga gv gw gx) → (Out h h2 270 13) → (∀ j, j < k → f j = rotF (kS (tC T t)) (kL (tC T t)) m j) → Ev X m_X7_rotate B0 53 [.ref 270, .int (nI t), .int (nI m), .int (nI k)] [] h2 (fun o h1 => ∃ v, o = .inl v ∧ (v = some (.int (nI (kN (cutK (tV T) (kL (tC T t)) (rotF (kS (tC T t)) (kL (tC T t)) m))))) ∧ (∃ z c s H E, MS h1 z c s H E gl gb 0 gx ∧ RelT z c (chgT T t (cutK (tV T) (kL (tC T t)) (rotF (kS (tC T t)) (kL (tC T t)) m))) ∧ HisR s H E (pshN n) (pshT n Ts T)) ∧ Out h h1 270 13)) := by
          intro mz
          induction mz using Nat.strongRecOn with
          | _ mz ih =>
            intro k h2 f hmz hk hm2 ho hf
            obtain ⟨m0, m1, m2, m3, m4, m5, m6, m7, m8, m9, m10, m11, m12⟩ := id hm2
            refine ev_iload_n dX7_rotate_53 rfl rfl ?_
            refine ev_aload_n dX7_rotate_54 rfl rfl ?_
            refine ev_getfield dX7_rotate_55 lf_7_62 m0 rfl ?_
            refine ev_icmp_geN 86 dX7_rotate_58 rfl (by omega) (by omega) (fun hc58 => ?_) (fun hc58 => ?_)
            · refine ev_pc (pc' := 86) rfl ?_
              have ek : k = kL (tC T t) := by omega
              subst ek
              refine ev_fgt 3 (L' := [_, _, _, _]) rfl ?_
              obtain ⟨hK, hcm, hrr⟩ := cut_row (gp := gp) (gq := gq) (ge := ge) (n := kL (tC T t)) (s := rotF (kS (tC T t)) (kL (tC T t)) m) hr hT (by omega) hsg hf
              refine ev_aload_n dX7_rotate_86 rfl rfl ?_
              refine ev_callVU0 dX7_rotate_87 cal_X7_cut lk_7_154 ⟨(Nat.le_of_ble_eq_true rfl), (Nat.le_of_ble_eq_true rfl)⟩ rfl m0 (Nat.le_of_ble_eq_true rfl) (k_cut hm2 (rel_setV hr hT) hrr (by omega)) (fun v h87 hq87 => ?_)
              obtain ⟨rfl, hm87, o87⟩ := hq87
              have ho := ho.tr o87
              obtain ⟨m0, m1, m2, m3, m4, m5, m6, m7, m8, m9, m10, m11, m12⟩ := id hm87
              refine ev_aload_n dX7_rotate_90 rfl rfl ?_
              refine ev_iload_n dX7_rotate_91 rfl rfl ?_
              refine ev_iconst (nI 3) dX7_rotate_92 rfl ?_
              refine ev_callVU2 dX7_rotate_93 cal_X7_change lk_7_185 ⟨(Nat.le_of_ble_eq_true rfl), (Nat.le_of_ble_eq_true rfl)⟩ rfl m0 (Nat.le_of_ble_eq_true rfl) (k_change hm87 hr hT hh hI hn6 hK hcm rfl hf t ht hok 3) (fun v h93 hq93 => ?_)
              refine ev_pc (pc' := 96) rfl ?_
              obtain ⟨rfl, hs9, o9⟩ := hq93
              have ho := ho.tr o9
              refine ev_ireturn dX7_rotate_96 rfl (Or.inl rfl) (Nat.zero_le _) (Nat.zero_le _) ?_
              exact ⟨_, rfl, rfl, hs9, ho⟩
            · refine ev_aload_n dX7_rotate_61 rfl rfl ?_
              refine ev_getfield dX7_rotate_62 lf_7_26 m0 rfl ?_
              refine ev_iload_n dX7_rotate_65 rfl rfl ?_
              refine ev_aload_n dX7_rotate_66 rfl rfl ?_
              refine ev_iload_n dX7_rotate_67 rfl rfl ?_
              refine ev_iload_n dX7_rotate_68 rfl rfl ?_
              refine ev_iload_n dX7_rotate_69 rfl rfl ?_
              refine ev_iaddN dX7_rotate_70 ?_
              refine ev_aload_n dX7_rotate_71 rfl rfl ?_
              refine ev_getfield dX7_rotate_72 lf_7_62 m0 rfl ?_
              refine ev_iremN dX7_rotate_75 (by omega) (by omega) (by omega) ?_
              refine ev_callVP2 dX7_rotate_76 cal_X7_valueAt lk_7_65 ⟨(Nat.le_of_ble_eq_true rfl), (Nat.le_of_ble_eq_true rfl)⟩ rfl m0 (Nat.le_of_ble_eq_true rfl) (k_valueAt hm2 t ((k + m) % kL (tC T t)) ht (Nat.lt_of_lt_of_le (Nat.mod_lt _ (by omega)) h40)) ?_
              refine em_iRw dX7_rotate_79 hm2 (by omega) (fun h79 hm79 o79 => ?_)
              have ho := ho.tr o79
              obtain ⟨m0, m1, m2, m3, m4, m5, m6, m7, m8, m9, m10, m11, m12⟩ := id hm79
              refine ev_iincN (L' := [_, _, _, _]) 1 dX7_rotate_80 rfl rfl ?_
              refine ev_goto 53 dX7_rotate_83 rfl ?_
              refine ev_pc (pc' := 53) rfl ?_
              refine ih _ (by omega) (k + 1) _ _ rfl (by omega) hm79 ho (fun j hj => ?_)
              by_cases e : j = k
              · rw [e, upN_s, hX.2.1 _ (Nat.mod_lt _ (by omega)), rotF]
                by_cases z : k < kL (tC T t) - m
                · rw [if_pos z, Nat.mod_eq_of_lt (by omega), Nat.add_comm]
                · rw [if_neg z, Nat.mod_eq_sub_mod (by omega), Nat.mod_eq_of_lt (by omega)]
                  congr 1
                  omega
              · rw [upN_n e]; exact hf j (by omega)
        exact LP53 _ 0 _ gr rfl (Nat.zero_le _) hm48 ho (fun j hj => absurd hj (Nat.not_lt_zero j))
      · first | omega | exact absurd hc37 (by decide)
  · first | omega | exact absurd hc5 (by decide)
set_option maxHeartbeats 4000000 in
set_option maxRecDepth 100000 in
theorem k_rotate9 {X : mX} {h : mH} {gz : Nat → Nat} {gc : Nat → Int64} {gs : Nat} {gh : Nat → Nat} {gk : Nat → Int64} {gl : Nat} {gb : Nat → Nat} {gt : Nat} {gr : Nat → Nat} {gm : Nat} {gp : Nat → Int64} {gq : Nat → Nat} {ge : Nat → Nat} {gn : Nat} {go : Nat → Nat} {gu : Nat} {gi : Bool} {ga : Nat → Int64} {gv : Nat → Nat} {gw : Nat} {gx : Int64} (hm : MN h gz gc gs gh gk gl gb gt gr gm gp gq ge gn go gu gi ga gv gw gx) {T : mSt} (hr : RelT gz gc T) (hT : InvT T) (t m : Nat) (ht : t < 4) (hm1 : 1 ≤ m) (hmL : m ≤ kL (tC T t)) (hok : okS T t (cutK (tV T) (kL (tC T t)) (rotF (kS (tC T t)) (kL (tC T t)) m)) = false) : CnU X m_X7_rotate [.ref 270, .int (nI t), .int (nI m)] h (fun v h1 => v = some (.int (nI 0)) ∧ MS h1 gz gc gs gh gk gl gb 3 gx ∧ Out h h1 270 13) := by
  obtain ⟨m0, m1, m2, m3, m4, m5, m6, m7, m8, m9, m10, m11, m12⟩ := id hm
  have ho : Out h h 270 13 := Out.rf
  have hX := hr.2.2 t ht
  have hKt := hT.2.1 t ht
  have h40 := hKt.1
  have h7 := hX.1
  have hsg : ∀ j, j < kL (tC T t) → 1 ≤ rotF (kS (tC T t)) (kL (tC T t)) m j ∧ rotF (kS (tC T t)) (kL (tC T t)) m j ≤ 8 := fun j hj => by
    rw [rotF]
    split
    · exact hKt.2.1 _ (by omega)
    · exact hKt.2.1 _ (by omega)
  refine cn_of_ev (L0 := [_, _, _, _]) (by decide +kernel) rfl rfl (Nat.le_of_ble_eq_true rfl) rfl ?_
  refine ev_aload_n dX7_rotate_0 rfl rfl ?_
  refine ev_iload_n dX7_rotate_1 rfl rfl ?_
  refine ev_callSP1 dX7_rotate_2 cal_X7_isText lk_7_157 ⟨(Nat.le_of_ble_eq_true rfl), (Nat.le_of_ble_eq_true rfl)⟩ rfl (Nat.le_of_ble_eq_true rfl) (k_isTextB (inY (by omega) (Nat.zero_le _) ht)) ?_
  refine ev_if_neB 12 dX7_rotate_5 rfl (fun hc5 => ?_) (fun hc5 => ?_)
  · refine ev_iload_n dX7_rotate_12 rfl rfl ?_
    refine ev_iconst (nI 1) dX7_rotate_13 rfl ?_
    refine ev_aload_n dX7_rotate_14 rfl rfl ?_
    refine ev_iload_n dX7_rotate_15 rfl rfl ?_
    refine ev_callVP1 dX7_rotate_16 cal_X7_signsOf lk_7_58 ⟨(Nat.le_of_ble_eq_true rfl), (Nat.le_of_ble_eq_true rfl)⟩ rfl m0 (Nat.le_of_ble_eq_true rfl) ((show CnP X m_X7_signsOf _ _ (some (.int (nI (kL (tC T t))))) from by have z := k_signsOf (X := X) hm t ht; rwa [h7] at z)) ?_
    refine ev_callSP3 dX7_rotate_19 cal_X7_within lk_7_54 ⟨(Nat.le_of_ble_eq_true rfl), (Nat.le_of_ble_eq_true rfl)⟩ rfl (Nat.le_of_ble_eq_true rfl) (k_wB (inY (by omega) hm1 (by omega)) (by decide) (by omega)) ?_
    refine ev_if_eqB 29 dX7_rotate_22 rfl (fun hc22 => ?_) (fun hc22 => ?_)
    · first | omega | exact absurd hc22 (by decide)
    · refine ev_iconst (nI 0) dX7_rotate_25 rfl ?_
      refine ev_goto 30 dX7_rotate_26 rfl ?_
      refine em_pTh dX7_rotate_30 lf_7_47 hm (fun h30 hm30 o30 => ?_)
      have ho := ho.tr o30
      obtain ⟨m0, m1, m2, m3, m4, m5, m6, m7, m8, m9, m10, m11, m12⟩ := id hm30
      refine ev_aload_n dX7_rotate_33 rfl rfl ?_
      refine ev_getfield dX7_rotate_34 lf_7_47 m0 rfl ?_
      refine ev_if_leN 42 dX7_rotate_37 rfl (by omega) (fun hc37 => ?_) (fun hc37 => ?_)
      · refine ev_aload_n dX7_rotate_42 rfl rfl ?_
        refine ev_aload_n dX7_rotate_43 rfl rfl ?_
        refine ev_iload_n dX7_rotate_44 rfl rfl ?_
        refine ev_callVP1 dX7_rotate_45 cal_X7_signsOf lk_7_58 ⟨(Nat.le_of_ble_eq_true rfl), (Nat.le_of_ble_eq_true rfl)⟩ rfl m0 (Nat.le_of_ble_eq_true rfl) ((show CnP X m_X7_signsOf _ _ (some (.int (nI (kL (tC T t))))) from by have z := k_signsOf (X := X) hm30 t ht; rwa [h7] at z)) ?_
        refine em_pRM dX7_rotate_48 lf_7_62 hm30 (fun h48 hm48 o48 => ?_)
        have ho := ho.tr o48
        obtain ⟨m0, m1, m2, m3, m4, m5, m6, m7, m8, m9, m10, m11, m12⟩ := id hm48
        refine ev_iconst (nI 0) dX7_rotate_51 rfl ?_
        refine ev_istore_n (L' := [_, _, _, _]) dX7_rotate_52 rfl (Nat.le_of_ble_eq_true rfl) rfl ?_
        refine ev_pc (pc' := 53) rfl ?_
        have LP53 : ∀ (mz : Nat) (k : Nat) (h2 : mH) (f : Nat → Nat), kL (tC T t) - k = mz → (k ≤ kL (tC T t)) → (MN h2 gz gc gs gh gk gl gb 0 f (kL (tC T t)) gp gq ge gn go gu gi ga gv gw gx) → (Out h h2 270 13) → (∀ j, j < k → f j = rotF (kS (tC T t)) (kL (tC T t)) m j) → Ev X m_X7_rotate B0 53 [.ref 270, .int (nI t), .int (nI m), .int (nI k)] [] h2 (fun o h1 => ∃ v, o = .inl v ∧ (v = some (.int (nI 0)) ∧ MS h1 gz gc gs gh gk gl gb 3 gx ∧ Out h h1 270 13)) := by
          intro mz
          induction mz using Nat.strongRecOn with
          | _ mz ih =>
            intro k h2 f hmz hk hm2 ho hf
            obtain ⟨m0, m1, m2, m3, m4, m5, m6, m7, m8, m9, m10, m11, m12⟩ := id hm2
            refine ev_iload_n dX7_rotate_53 rfl rfl ?_
            refine ev_aload_n dX7_rotate_54 rfl rfl ?_
            refine ev_getfield dX7_rotate_55 lf_7_62 m0 rfl ?_
            refine ev_icmp_geN 86 dX7_rotate_58 rfl (by omega) (by omega) (fun hc58 => ?_) (fun hc58 => ?_)
            · refine ev_pc (pc' := 86) rfl ?_
              have ek : k = kL (tC T t) := by omega
              subst ek
              refine ev_fgt 3 (L' := [_, _, _, _]) rfl ?_
              obtain ⟨hK, hcm, hrr⟩ := cut_row (gp := gp) (gq := gq) (ge := ge) (n := kL (tC T t)) (s := rotF (kS (tC T t)) (kL (tC T t)) m) hr hT (by omega) hsg hf
              refine ev_aload_n dX7_rotate_86 rfl rfl ?_
              refine ev_callVU0 dX7_rotate_87 cal_X7_cut lk_7_154 ⟨(Nat.le_of_ble_eq_true rfl), (Nat.le_of_ble_eq_true rfl)⟩ rfl m0 (Nat.le_of_ble_eq_true rfl) (k_cut hm2 (rel_setV hr hT) hrr (by omega)) (fun v h87 hq87 => ?_)
              obtain ⟨rfl, hm87, o87⟩ := hq87
              have ho := ho.tr o87
              obtain ⟨m0, m1, m2, m3, m4, m5, m6, m7, m8, m9, m10, m11, m12⟩ := id hm87
              refine ev_aload_n dX7_rotate_90 rfl rfl ?_
              refine ev_iload_n dX7_rotate_91 rfl rfl ?_
              refine ev_iconst (nI 3) dX7_rotate_92 rfl ?_
              refine ev_callVU2 dX7_rotate_93 cal_X7_change lk_7_185 ⟨(Nat.le_of_ble_eq_true rfl), (Nat.le_of_ble_eq_true rfl)⟩ rfl m0 (Nat.le_of_ble_eq_true rfl) (k_change9 hm87 hr hT hK hcm rfl hf t ht hok 3 (by decide) (by decide)) (fun v h93 hq93 => ?_)
              refine ev_pc (pc' := 96) rfl ?_
              obtain ⟨rfl, hs9, o9⟩ := hq93
              have ho := ho.tr o9
              refine ev_ireturn dX7_rotate_96 rfl (Or.inl rfl) (Nat.zero_le _) (Nat.zero_le _) ?_
              exact ⟨_, rfl, rfl, hs9, ho⟩
            · refine ev_aload_n dX7_rotate_61 rfl rfl ?_
              refine ev_getfield dX7_rotate_62 lf_7_26 m0 rfl ?_
              refine ev_iload_n dX7_rotate_65 rfl rfl ?_
              refine ev_aload_n dX7_rotate_66 rfl rfl ?_
              refine ev_iload_n dX7_rotate_67 rfl rfl ?_
              refine ev_iload_n dX7_rotate_68 rfl rfl ?_
              refine ev_iload_n dX7_rotate_69 rfl rfl ?_
              refine ev_iaddN dX7_rotate_70 ?_
              refine ev_aload_n dX7_rotate_71 rfl rfl ?_
              refine ev_getfield dX7_rotate_72 lf_7_62 m0 rfl ?_
              refine ev_iremN dX7_rotate_75 (by omega) (by omega) (by omega) ?_
              refine ev_callVP2 dX7_rotate_76 cal_X7_valueAt lk_7_65 ⟨(Nat.le_of_ble_eq_true rfl), (Nat.le_of_ble_eq_true rfl)⟩ rfl m0 (Nat.le_of_ble_eq_true rfl) (k_valueAt hm2 t ((k + m) % kL (tC T t)) ht (Nat.lt_of_lt_of_le (Nat.mod_lt _ (by omega)) h40)) ?_
              refine em_iRw dX7_rotate_79 hm2 (by omega) (fun h79 hm79 o79 => ?_)
              have ho := ho.tr o79
              obtain ⟨m0, m1, m2, m3, m4, m5, m6, m7, m8, m9, m10, m11, m12⟩ := id hm79
              refine ev_iincN (L' := [_, _, _, _]) 1 dX7_rotate_80 rfl rfl ?_
              refine ev_goto 53 dX7_rotate_83 rfl ?_
              refine ev_pc (pc' := 53) rfl ?_
              refine ih _ (by omega) (k + 1) _ _ rfl (by omega) hm79 ho (fun j hj => ?_)
              by_cases e : j = k
              · rw [e, upN_s, hX.2.1 _ (Nat.mod_lt _ (by omega)), rotF]
                by_cases z : k < kL (tC T t) - m
                · rw [if_pos z, Nat.mod_eq_of_lt (by omega), Nat.add_comm]
                · rw [if_neg z, Nat.mod_eq_sub_mod (by omega), Nat.mod_eq_of_lt (by omega)]
                  congr 1
                  omega
              · rw [upN_n e]; exact hf j (by omega)
        exact LP53 _ 0 _ gr rfl (Nat.zero_le _) hm48 ho (fun j hj => absurd hj (Nat.not_lt_zero j))
      · first | omega | exact absurd hc37 (by decide)
  · first | omega | exact absurd hc5 (by decide)
set_option maxHeartbeats 4000000 in
set_option maxRecDepth 100000 in
theorem k_takeOut1 {X : mX} {h : mH} {gz : Nat → Nat} {gc : Nat → Int64} {gs : Nat} {gh : Nat → Nat} {gk : Nat → Int64} {gl : Nat} {gb : Nat → Nat} {gt : Nat} {gr : Nat → Nat} {gm : Nat} {gp : Nat → Int64} {gq : Nat → Nat} {ge : Nat → Nat} {gn : Nat} {go : Nat → Nat} {gu : Nat} {gi : Bool} {ga : Nat → Int64} {gv : Nat → Nat} {gw : Nat} {gx : Int64} (hm : MN h gz gc gs gh gk gl gb gt gr gm gp gq ge gn go gu gi ga gv gw gx) {T : mSt} (hr : RelT gz gc T) (hT : InvT T) (t u w : Int32) (hb : (inX t 0 4 && inX u 0 (gz (7 + t.toInt.toNat))) = false) : CnU X m_X7_takeOut [.ref 270, .int t, .int u, .int w] h (fun v h1 => v = some (.int (nI 0)) ∧ MS h1 gz gc gs gh gk gl gb 1 gx ∧ Out h h1 270 13) := by
  obtain ⟨m0, m1, m2, m3, m4, m5, m6, m7, m8, m9, m10, m11, m12⟩ := id hm
  have ho : Out h h 270 13 := Out.rf
  have h30 : ∀ k, k < 4 → gz (7 + k) < 2 ^ 30 := fun k hk => by
    have := (hr.tx hT hk).1
    omega
  refine cn_of_ev (L0 := [_, _, _, _, _]) (by decide +kernel) rfl rfl (Nat.le_of_ble_eq_true rfl) rfl ?_
  refine ev_aload_n dX7_takeOut_0 rfl rfl ?_
  refine ev_aload_n dX7_takeOut_1 rfl rfl ?_
  refine ev_iload_n dX7_takeOut_2 rfl rfl ?_
  refine ev_iload_n dX7_takeOut_3 rfl rfl ?_
  refine ev_callVP2 dX7_takeOut_4 cal_X7_isPlace lk_7_182 ⟨(Nat.le_of_ble_eq_true rfl), (Nat.le_of_ble_eq_true rfl)⟩ rfl m0 (Nat.le_of_ble_eq_true rfl) (k_isPlaceB hm h30 hb) ?_
  refine ev_if_neB 14 dX7_takeOut_7 rfl (fun hc7 => ?_) (fun hc7 => ?_)
  · first | omega | exact absurd hc7 (by decide)
  · refine ev_iconst (nI 1) dX7_takeOut_10 rfl ?_
    refine ev_goto 34 dX7_takeOut_11 rfl ?_
    refine em_pTh dX7_takeOut_34 lf_7_47 hm (fun h34 hm34 o34 => ?_)
    have ho := ho.tr o34
    obtain ⟨m0, m1, m2, m3, m4, m5, m6, m7, m8, m9, m10, m11, m12⟩ := id hm34
    refine ev_aload_n dX7_takeOut_37 rfl rfl ?_
    refine ev_getfield dX7_takeOut_38 lf_7_47 m0 rfl ?_
    refine ev_if_leN 46 dX7_takeOut_41 rfl (by omega) (fun hc41 => ?_) (fun hc41 => ?_)
    · first | omega | exact absurd hc41 (by decide)
    · refine ev_iconst (nI 0) dX7_takeOut_44 rfl ?_
      refine ev_ireturn dX7_takeOut_45 rfl (Or.inl rfl) (Nat.zero_le _) (Nat.zero_le _) ?_
      exact ⟨_, rfl, rfl, hm34.ms, ho⟩
set_option maxHeartbeats 4000000 in
set_option maxRecDepth 100000 in
theorem k_takeOut2 {X : mX} {h : mH} {gz : Nat → Nat} {gc : Nat → Int64} {gs : Nat} {gh : Nat → Nat} {gk : Nat → Int64} {gl : Nat} {gb : Nat → Nat} {gt : Nat} {gr : Nat → Nat} {gm : Nat} {gp : Nat → Int64} {gq : Nat → Nat} {ge : Nat → Nat} {gn : Nat} {go : Nat → Nat} {gu : Nat} {gi : Bool} {ga : Nat → Int64} {gv : Nat → Nat} {gw : Nat} {gx : Int64} (hm : MN h gz gc gs gh gk gl gb gt gr gm gp gq ge gn go gu gi ga gv gw gx) {T : mSt} (hr : RelT gz gc T) (hT : InvT T) (t p : Nat) (w : Int32) (ht : t < 4) (hp : p < kL (tC T t)) (hw : inX w 1 (kL (tC T t) - p + 1) = false) : CnU X m_X7_takeOut [.ref 270, .int (nI t), .int (nI p), .int w] h (fun v h1 => v = some (.int (nI 0)) ∧ MS h1 gz gc gs gh gk gl gb 2 gx ∧ Out h h1 270 13) := by
  obtain ⟨m0, m1, m2, m3, m4, m5, m6, m7, m8, m9, m10, m11, m12⟩ := id hm
  have ho : Out h h 270 13 := Out.rf
  have h30 : ∀ k, k < 4 → gz (7 + k) < 2 ^ 30 := fun k hk => by
    have := (hr.tx hT hk).1
    omega
  have hX := hr.2.2 t ht
  have hKt := hT.2.1 t ht
  have h40 := hKt.1
  have h7 := hX.1
  refine cn_of_ev (L0 := [_, _, _, _, _]) (by decide +kernel) rfl rfl (Nat.le_of_ble_eq_true rfl) rfl ?_
  refine ev_aload_n dX7_takeOut_0 rfl rfl ?_
  refine ev_aload_n dX7_takeOut_1 rfl rfl ?_
  refine ev_iload_n dX7_takeOut_2 rfl rfl ?_
  refine ev_iload_n dX7_takeOut_3 rfl rfl ?_
  refine ev_callVP2 dX7_takeOut_4 cal_X7_isPlace lk_7_182 ⟨(Nat.le_of_ble_eq_true rfl), (Nat.le_of_ble_eq_true rfl)⟩ rfl m0 (Nat.le_of_ble_eq_true rfl) (k_isPlaceB hm h30 (pl_k ht (inY (by omega) (Nat.zero_le _) (by omega)))) ?_
  refine ev_if_neB 14 dX7_takeOut_7 rfl (fun hc7 => ?_) (fun hc7 => ?_)
  · refine ev_iload_n dX7_takeOut_14 rfl rfl ?_
    refine ev_iconst (nI 1) dX7_takeOut_15 rfl ?_
    refine ev_aload_n dX7_takeOut_16 rfl rfl ?_
    refine ev_iload_n dX7_takeOut_17 rfl rfl ?_
    refine ev_callVP1 dX7_takeOut_18 cal_X7_signsOf lk_7_58 ⟨(Nat.le_of_ble_eq_true rfl), (Nat.le_of_ble_eq_true rfl)⟩ rfl m0 (Nat.le_of_ble_eq_true rfl) ((show CnP X m_X7_signsOf _ _ (some (.int (nI (kL (tC T t))))) from by have z := k_signsOf (X := X) hm t ht; rwa [h7] at z)) ?_
    refine ev_iload_n dX7_takeOut_21 rfl rfl ?_
    refine ev_isubN dX7_takeOut_22 (by omega) ?_
    refine ev_callSP3 dX7_takeOut_23 cal_X7_within lk_7_54 ⟨(Nat.le_of_ble_eq_true rfl), (Nat.le_of_ble_eq_true rfl)⟩ rfl (Nat.le_of_ble_eq_true rfl) (k_wB hw (by decide) (by omega)) ?_
    refine ev_if_eqB 33 dX7_takeOut_26 rfl (fun hc26 => ?_) (fun hc26 => ?_)
    · refine ev_iconst (nI 2) dX7_takeOut_33 rfl ?_
      refine em_pTh dX7_takeOut_34 lf_7_47 hm (fun h34 hm34 o34 => ?_)
      have ho := ho.tr o34
      obtain ⟨m0, m1, m2, m3, m4, m5, m6, m7, m8, m9, m10, m11, m12⟩ := id hm34
      refine ev_aload_n dX7_takeOut_37 rfl rfl ?_
      refine ev_getfield dX7_takeOut_38 lf_7_47 m0 rfl ?_
      refine ev_if_leN 46 dX7_takeOut_41 rfl (by omega) (fun hc41 => ?_) (fun hc41 => ?_)
      · first | omega | exact absurd hc41 (by decide)
      · refine ev_iconst (nI 0) dX7_takeOut_44 rfl ?_
        refine ev_ireturn dX7_takeOut_45 rfl (Or.inl rfl) (Nat.zero_le _) (Nat.zero_le _) ?_
        exact ⟨_, rfl, rfl, hm34.ms, ho⟩
    · first | omega | exact absurd hc26 (by decide)
  · first | omega | exact absurd hc7 (by decide)
set_option maxHeartbeats 4000000 in
set_option maxRecDepth 100000 in
theorem k_takeOut {X : mX} {h : mH} {gz : Nat → Nat} {gc : Nat → Int64} {gs : Nat} {gh : Nat → Nat} {gk : Nat → Int64} {gl : Nat} {gb : Nat → Nat} {gt : Nat} {gr : Nat → Nat} {gm : Nat} {gp : Nat → Int64} {gq : Nat → Nat} {ge : Nat → Nat} {gn : Nat} {go : Nat → Nat} {gu : Nat} {gi : Bool} {ga : Nat → Int64} {gv : Nat → Nat} {gw : Nat} {gx : Int64} (hm : MN h gz gc gs gh gk gl gb gt gr gm gp gq ge gn go gu gi ga gv gw gx) {T : mSt} (hr : RelT gz gc T) (hT : InvT T) {n : Nat} {Ts : Nat → mSt} (hh : HisR gs gh gk n Ts) (hI : ∀ i, i < n → InvT (Ts i)) (hn6 : n ≤ 6) (t p m : Nat) (ht : t < 4) (hp : p < kL (tC T t)) (hm1 : 1 ≤ m) (hmL : m ≤ kL (tC T t) - p) (hok : okS T t (cutK (tV T) (kL (tC T t) - m) (dropF (kS (tC T t)) p m)) = true) : CnU X m_X7_takeOut [.ref 270, .int (nI t), .int (nI p), .int (nI m)] h (fun v h1 => v = some (.int (nI (kN (cutK (tV T) (kL (tC T t) - m) (dropF (kS (tC T t)) p m))))) ∧ (∃ z c s H E, MS h1 z c s H E gl gb 0 gx ∧ RelT z c (chgT T t (cutK (tV T) (kL (tC T t) - m) (dropF (kS (tC T t)) p m))) ∧ HisR s H E (pshN n) (pshT n Ts T)) ∧ Out h h1 270 13) := by
  obtain ⟨m0, m1, m2, m3, m4, m5, m6, m7, m8, m9, m10, m11, m12⟩ := id hm
  have ho : Out h h 270 13 := Out.rf
  have h30 : ∀ k, k < 4 → gz (7 + k) < 2 ^ 30 := fun k hk => by
    have := (hr.tx hT hk).1
    omega
  have hX := hr.2.2 t ht
  have hKt := hT.2.1 t ht
  have h40 := hKt.1
  have h7 := hX.1
  have hsg : ∀ j, j < kL (tC T t) - m → 1 ≤ dropF (kS (tC T t)) p m j ∧ dropF (kS (tC T t)) p m j ≤ 8 := fun j hj => by
    rw [dropF]
    split
    · exact hKt.2.1 _ (by omega)
    · exact hKt.2.1 _ (by omega)
  refine cn_of_ev (L0 := [_, _, _, _, _]) (by decide +kernel) rfl rfl (Nat.le_of_ble_eq_true rfl) rfl ?_
  refine ev_aload_n dX7_takeOut_0 rfl rfl ?_
  refine ev_aload_n dX7_takeOut_1 rfl rfl ?_
  refine ev_iload_n dX7_takeOut_2 rfl rfl ?_
  refine ev_iload_n dX7_takeOut_3 rfl rfl ?_
  refine ev_callVP2 dX7_takeOut_4 cal_X7_isPlace lk_7_182 ⟨(Nat.le_of_ble_eq_true rfl), (Nat.le_of_ble_eq_true rfl)⟩ rfl m0 (Nat.le_of_ble_eq_true rfl) (k_isPlaceB hm h30 (pl_k ht (inY (by omega) (Nat.zero_le _) (by omega)))) ?_
  refine ev_if_neB 14 dX7_takeOut_7 rfl (fun hc7 => ?_) (fun hc7 => ?_)
  · refine ev_iload_n dX7_takeOut_14 rfl rfl ?_
    refine ev_iconst (nI 1) dX7_takeOut_15 rfl ?_
    refine ev_aload_n dX7_takeOut_16 rfl rfl ?_
    refine ev_iload_n dX7_takeOut_17 rfl rfl ?_
    refine ev_callVP1 dX7_takeOut_18 cal_X7_signsOf lk_7_58 ⟨(Nat.le_of_ble_eq_true rfl), (Nat.le_of_ble_eq_true rfl)⟩ rfl m0 (Nat.le_of_ble_eq_true rfl) ((show CnP X m_X7_signsOf _ _ (some (.int (nI (kL (tC T t))))) from by have z := k_signsOf (X := X) hm t ht; rwa [h7] at z)) ?_
    refine ev_iload_n dX7_takeOut_21 rfl rfl ?_
    refine ev_isubN dX7_takeOut_22 (by omega) ?_
    refine ev_callSP3 dX7_takeOut_23 cal_X7_within lk_7_54 ⟨(Nat.le_of_ble_eq_true rfl), (Nat.le_of_ble_eq_true rfl)⟩ rfl (Nat.le_of_ble_eq_true rfl) (k_wB (inY (by omega) hm1 (by omega)) (by decide) (by omega)) ?_
    refine ev_if_eqB 33 dX7_takeOut_26 rfl (fun hc26 => ?_) (fun hc26 => ?_)
    · first | omega | exact absurd hc26 (by decide)
    · refine ev_iconst (nI 0) dX7_takeOut_29 rfl ?_
      refine ev_goto 34 dX7_takeOut_30 rfl ?_
      refine em_pTh dX7_takeOut_34 lf_7_47 hm (fun h34 hm34 o34 => ?_)
      have ho := ho.tr o34
      obtain ⟨m0, m1, m2, m3, m4, m5, m6, m7, m8, m9, m10, m11, m12⟩ := id hm34
      refine ev_aload_n dX7_takeOut_37 rfl rfl ?_
      refine ev_getfield dX7_takeOut_38 lf_7_47 m0 rfl ?_
      refine ev_if_leN 46 dX7_takeOut_41 rfl (by omega) (fun hc41 => ?_) (fun hc41 => ?_)
      · refine ev_aload_n dX7_takeOut_46 rfl rfl ?_
        refine ev_iload_n dX7_takeOut_47 rfl rfl ?_
        refine ev_callVU1 dX7_takeOut_48 cal_X7_takeRow lk_7_175 ⟨(Nat.le_of_ble_eq_true rfl), (Nat.le_of_ble_eq_true rfl)⟩ rfl m0 (Nat.le_of_ble_eq_true rfl) (k_takeRow hm34 t ht (by omega)) (fun v h48 hq48 => ?_)
        refine ev_pc (pc' := 51) rfl ?_
        obtain ⟨rfl, ⟨f, hm48, hf⟩, o48⟩ := hq48
        have ho := ho.tr o48
        rw [h7] at hm48 hf
        have hf2 : ∀ j, j < kL (tC T t) → f j = kS (tC T t) j := fun j hj => by rw [hf j hj]; exact hX.2.1 j hj
        obtain ⟨m0, m1, m2, m3, m4, m5, m6, m7, m8, m9, m10, m11, m12⟩ := id hm48
        refine ev_aload_n dX7_takeOut_51 rfl rfl ?_
        refine ev_dup dX7_takeOut_52 rfl ?_
        refine ev_getfield dX7_takeOut_53 lf_7_62 m0 rfl ?_
        refine ev_iload_n dX7_takeOut_56 rfl rfl ?_
        refine ev_isubN dX7_takeOut_57 (by omega) ?_
        refine em_pRM dX7_takeOut_58 lf_7_62 hm48 (fun h58 hm58 o58 => ?_)
        have ho := ho.tr o58
        obtain ⟨m0, m1, m2, m3, m4, m5, m6, m7, m8, m9, m10, m11, m12⟩ := id hm58
        refine ev_iload_n dX7_takeOut_61 rfl rfl ?_
        refine ev_istore (L' := [_, _, _, _, _]) dX7_takeOut_62 (Nat.le_of_ble_eq_true rfl) rfl ?_
        refine ev_pc (pc' := 64) rfl ?_
        have LP64 : ∀ (mz : Nat) (k : Nat) (h2 : mH) (F : Nat → Nat), kL (tC T t) - m - k = mz → (p ≤ k) → (k ≤ kL (tC T t) - m) → (MN h2 gz gc gs gh gk gl gb 0 F (kL (tC T t) - m) gp gq ge gn go gu gi ga gv gw gx) → (Out h h2 270 13) → (∀ j, j < k → F j = dropF (kS (tC T t)) p m j) → (∀ j, k ≤ j → F j = f j) → Ev X m_X7_takeOut B0 64 [.ref 270, .int (nI t), .int (nI p), .int (nI m), .int (nI k)] [] h2 (fun o h1 => ∃ v, o = .inl v ∧ (v = some (.int (nI (kN (cutK (tV T) (kL (tC T t) - m) (dropF (kS (tC T t)) p m))))) ∧ (∃ z c s H E, MS h1 z c s H E gl gb 0 gx ∧ RelT z c (chgT T t (cutK (tV T) (kL (tC T t) - m) (dropF (kS (tC T t)) p m))) ∧ HisR s H E (pshN n) (pshT n Ts T)) ∧ Out h h1 270 13)) := by
          intro mz
          induction mz using Nat.strongRecOn with
          | _ mz ih =>
            intro k h2 F hmz hk0 hk hm2 ho hf hg
            obtain ⟨m0, m1, m2, m3, m4, m5, m6, m7, m8, m9, m10, m11, m12⟩ := id hm2
            refine ev_iload dX7_takeOut_64 rfl ?_
            refine ev_aload_n dX7_takeOut_66 rfl rfl ?_
            refine ev_getfield dX7_takeOut_67 lf_7_62 m0 rfl ?_
            refine ev_icmp_geN 95 dX7_takeOut_70 rfl (by omega) (by omega) (fun hc70 => ?_) (fun hc70 => ?_)
            · refine ev_pc (pc' := 95) rfl ?_
              have ek : k = kL (tC T t) - m := by omega
              rw [ek] at hf
              refine ev_fgt 4 (L' := [_, _, _, _, _]) rfl ?_
              obtain ⟨hK, hcm, hrr⟩ := cut_row (gp := gp) (gq := gq) (ge := ge) (n := kL (tC T t) - m) (s := dropF (kS (tC T t)) p m) hr hT (by omega) hsg hf
              refine ev_aload_n dX7_takeOut_95 rfl rfl ?_
              refine ev_callVU0 dX7_takeOut_96 cal_X7_cut lk_7_154 ⟨(Nat.le_of_ble_eq_true rfl), (Nat.le_of_ble_eq_true rfl)⟩ rfl m0 (Nat.le_of_ble_eq_true rfl) (k_cut hm2 (rel_setV hr hT) hrr (by omega)) (fun v h96 hq96 => ?_)
              obtain ⟨rfl, hm96, o96⟩ := hq96
              have ho := ho.tr o96
              obtain ⟨m0, m1, m2, m3, m4, m5, m6, m7, m8, m9, m10, m11, m12⟩ := id hm96
              refine ev_aload_n dX7_takeOut_99 rfl rfl ?_
              refine ev_iload_n dX7_takeOut_100 rfl rfl ?_
              refine ev_iconst (nI 3) dX7_takeOut_101 rfl ?_
              refine ev_callVU2 dX7_takeOut_102 cal_X7_change lk_7_185 ⟨(Nat.le_of_ble_eq_true rfl), (Nat.le_of_ble_eq_true rfl)⟩ rfl m0 (Nat.le_of_ble_eq_true rfl) (k_change hm96 hr hT hh hI hn6 hK hcm rfl hf t ht hok 3) (fun v h102 hq102 => ?_)
              refine ev_pc (pc' := 105) rfl ?_
              obtain ⟨rfl, hs9, o9⟩ := hq102
              have ho := ho.tr o9
              refine ev_ireturn dX7_takeOut_105 rfl (Or.inl rfl) (Nat.zero_le _) (Nat.zero_le _) ?_
              exact ⟨_, rfl, rfl, hs9, ho⟩
            · refine ev_aload_n dX7_takeOut_73 rfl rfl ?_
              refine ev_getfield dX7_takeOut_74 lf_7_26 m0 rfl ?_
              refine ev_iload dX7_takeOut_77 rfl ?_
              refine ev_aload_n dX7_takeOut_79 rfl rfl ?_
              refine ev_getfield dX7_takeOut_80 lf_7_26 m0 rfl ?_
              refine ev_iload dX7_takeOut_83 rfl ?_
              refine ev_iload_n dX7_takeOut_85 rfl rfl ?_
              refine ev_iaddN dX7_takeOut_86 ?_
              refine ev_ialoadF dX7_takeOut_87 m6 (by omega) (by decide) ?_
              refine em_iRw dX7_takeOut_88 hm2 (by omega) (fun h88 hm88 o88 => ?_)
              have ho := ho.tr o88
              obtain ⟨m0, m1, m2, m3, m4, m5, m6, m7, m8, m9, m10, m11, m12⟩ := id hm88
              refine ev_iincN (L' := [_, _, _, _, _]) 1 dX7_takeOut_89 rfl rfl ?_
              refine ev_goto 64 dX7_takeOut_92 rfl ?_
              refine ev_pc (pc' := 64) rfl ?_
              refine ih _ (by omega) (k + 1) _ _ rfl (by omega) (by omega) hm88 ho (fun j hj => ?_) (fun j hj => ?_)
              · by_cases e : j = k
                · rw [e, upN_s, hg _ (by omega), hf2 _ (by omega), dropF, if_neg (by omega)]
                · rw [upN_n e]; exact hf j (by omega)
              · rw [upN_n (by omega)]; exact hg j (by omega)
        exact LP64 _ p _ f rfl (Nat.le_refl _) (by omega) hm58 ho (fun j hj => by rw [dropF, if_pos hj]; exact hf2 j (by omega)) (fun _ _ => rfl)
      · first | omega | exact absurd hc41 (by decide)
  · first | omega | exact absurd hc7 (by decide)
set_option maxHeartbeats 4000000 in
set_option maxRecDepth 100000 in
theorem k_takeOut9 {X : mX} {h : mH} {gz : Nat → Nat} {gc : Nat → Int64} {gs : Nat} {gh : Nat → Nat} {gk : Nat → Int64} {gl : Nat} {gb : Nat → Nat} {gt : Nat} {gr : Nat → Nat} {gm : Nat} {gp : Nat → Int64} {gq : Nat → Nat} {ge : Nat → Nat} {gn : Nat} {go : Nat → Nat} {gu : Nat} {gi : Bool} {ga : Nat → Int64} {gv : Nat → Nat} {gw : Nat} {gx : Int64} (hm : MN h gz gc gs gh gk gl gb gt gr gm gp gq ge gn go gu gi ga gv gw gx) {T : mSt} (hr : RelT gz gc T) (hT : InvT T) (t p m : Nat) (ht : t < 4) (hp : p < kL (tC T t)) (hm1 : 1 ≤ m) (hmL : m ≤ kL (tC T t) - p) (hok : okS T t (cutK (tV T) (kL (tC T t) - m) (dropF (kS (tC T t)) p m)) = false) : CnU X m_X7_takeOut [.ref 270, .int (nI t), .int (nI p), .int (nI m)] h (fun v h1 => v = some (.int (nI 0)) ∧ MS h1 gz gc gs gh gk gl gb 3 gx ∧ Out h h1 270 13) := by
  obtain ⟨m0, m1, m2, m3, m4, m5, m6, m7, m8, m9, m10, m11, m12⟩ := id hm
  have ho : Out h h 270 13 := Out.rf
  have h30 : ∀ k, k < 4 → gz (7 + k) < 2 ^ 30 := fun k hk => by
    have := (hr.tx hT hk).1
    omega
  have hX := hr.2.2 t ht
  have hKt := hT.2.1 t ht
  have h40 := hKt.1
  have h7 := hX.1
  have hsg : ∀ j, j < kL (tC T t) - m → 1 ≤ dropF (kS (tC T t)) p m j ∧ dropF (kS (tC T t)) p m j ≤ 8 := fun j hj => by
    rw [dropF]
    split
    · exact hKt.2.1 _ (by omega)
    · exact hKt.2.1 _ (by omega)
  refine cn_of_ev (L0 := [_, _, _, _, _]) (by decide +kernel) rfl rfl (Nat.le_of_ble_eq_true rfl) rfl ?_
  refine ev_aload_n dX7_takeOut_0 rfl rfl ?_
  refine ev_aload_n dX7_takeOut_1 rfl rfl ?_
  refine ev_iload_n dX7_takeOut_2 rfl rfl ?_
  refine ev_iload_n dX7_takeOut_3 rfl rfl ?_
  refine ev_callVP2 dX7_takeOut_4 cal_X7_isPlace lk_7_182 ⟨(Nat.le_of_ble_eq_true rfl), (Nat.le_of_ble_eq_true rfl)⟩ rfl m0 (Nat.le_of_ble_eq_true rfl) (k_isPlaceB hm h30 (pl_k ht (inY (by omega) (Nat.zero_le _) (by omega)))) ?_
  refine ev_if_neB 14 dX7_takeOut_7 rfl (fun hc7 => ?_) (fun hc7 => ?_)
  · refine ev_iload_n dX7_takeOut_14 rfl rfl ?_
    refine ev_iconst (nI 1) dX7_takeOut_15 rfl ?_
    refine ev_aload_n dX7_takeOut_16 rfl rfl ?_
    refine ev_iload_n dX7_takeOut_17 rfl rfl ?_
    refine ev_callVP1 dX7_takeOut_18 cal_X7_signsOf lk_7_58 ⟨(Nat.le_of_ble_eq_true rfl), (Nat.le_of_ble_eq_true rfl)⟩ rfl m0 (Nat.le_of_ble_eq_true rfl) ((show CnP X m_X7_signsOf _ _ (some (.int (nI (kL (tC T t))))) from by have z := k_signsOf (X := X) hm t ht; rwa [h7] at z)) ?_
    refine ev_iload_n dX7_takeOut_21 rfl rfl ?_
    refine ev_isubN dX7_takeOut_22 (by omega) ?_
    refine ev_callSP3 dX7_takeOut_23 cal_X7_within lk_7_54 ⟨(Nat.le_of_ble_eq_true rfl), (Nat.le_of_ble_eq_true rfl)⟩ rfl (Nat.le_of_ble_eq_true rfl) (k_wB (inY (by omega) hm1 (by omega)) (by decide) (by omega)) ?_
    refine ev_if_eqB 33 dX7_takeOut_26 rfl (fun hc26 => ?_) (fun hc26 => ?_)
    · first | omega | exact absurd hc26 (by decide)
    · refine ev_iconst (nI 0) dX7_takeOut_29 rfl ?_
      refine ev_goto 34 dX7_takeOut_30 rfl ?_
      refine em_pTh dX7_takeOut_34 lf_7_47 hm (fun h34 hm34 o34 => ?_)
      have ho := ho.tr o34
      obtain ⟨m0, m1, m2, m3, m4, m5, m6, m7, m8, m9, m10, m11, m12⟩ := id hm34
      refine ev_aload_n dX7_takeOut_37 rfl rfl ?_
      refine ev_getfield dX7_takeOut_38 lf_7_47 m0 rfl ?_
      refine ev_if_leN 46 dX7_takeOut_41 rfl (by omega) (fun hc41 => ?_) (fun hc41 => ?_)
      · refine ev_aload_n dX7_takeOut_46 rfl rfl ?_
        refine ev_iload_n dX7_takeOut_47 rfl rfl ?_
        refine ev_callVU1 dX7_takeOut_48 cal_X7_takeRow lk_7_175 ⟨(Nat.le_of_ble_eq_true rfl), (Nat.le_of_ble_eq_true rfl)⟩ rfl m0 (Nat.le_of_ble_eq_true rfl) (k_takeRow hm34 t ht (by omega)) (fun v h48 hq48 => ?_)
        refine ev_pc (pc' := 51) rfl ?_
        obtain ⟨rfl, ⟨f, hm48, hf⟩, o48⟩ := hq48
        have ho := ho.tr o48
        rw [h7] at hm48 hf
        have hf2 : ∀ j, j < kL (tC T t) → f j = kS (tC T t) j := fun j hj => by rw [hf j hj]; exact hX.2.1 j hj
        obtain ⟨m0, m1, m2, m3, m4, m5, m6, m7, m8, m9, m10, m11, m12⟩ := id hm48
        refine ev_aload_n dX7_takeOut_51 rfl rfl ?_
        refine ev_dup dX7_takeOut_52 rfl ?_
        refine ev_getfield dX7_takeOut_53 lf_7_62 m0 rfl ?_
        refine ev_iload_n dX7_takeOut_56 rfl rfl ?_
        refine ev_isubN dX7_takeOut_57 (by omega) ?_
        refine em_pRM dX7_takeOut_58 lf_7_62 hm48 (fun h58 hm58 o58 => ?_)
        have ho := ho.tr o58
        obtain ⟨m0, m1, m2, m3, m4, m5, m6, m7, m8, m9, m10, m11, m12⟩ := id hm58
        refine ev_iload_n dX7_takeOut_61 rfl rfl ?_
        refine ev_istore (L' := [_, _, _, _, _]) dX7_takeOut_62 (Nat.le_of_ble_eq_true rfl) rfl ?_
        refine ev_pc (pc' := 64) rfl ?_
        have LP64 : ∀ (mz : Nat) (k : Nat) (h2 : mH) (F : Nat → Nat), kL (tC T t) - m - k = mz → (p ≤ k) → (k ≤ kL (tC T t) - m) → (MN h2 gz gc gs gh gk gl gb 0 F (kL (tC T t) - m) gp gq ge gn go gu gi ga gv gw gx) → (Out h h2 270 13) → (∀ j, j < k → F j = dropF (kS (tC T t)) p m j) → (∀ j, k ≤ j → F j = f j) → Ev X m_X7_takeOut B0 64 [.ref 270, .int (nI t), .int (nI p), .int (nI m), .int (nI k)] [] h2 (fun o h1 => ∃ v, o = .inl v ∧ (v = some (.int (nI 0)) ∧ MS h1 gz gc gs gh gk gl gb 3 gx ∧ Out h h1 270 13)) := by
          intro mz
          induction mz using Nat.strongRecOn with
          | _ mz ih =>
            intro k h2 F hmz hk0 hk hm2 ho hf hg
            obtain ⟨m0, m1, m2, m3, m4, m5, m6, m7, m8, m9, m10, m11, m12⟩ := id hm2
            refine ev_iload dX7_takeOut_64 rfl ?_
            refine ev_aload_n dX7_takeOut_66 rfl rfl ?_
            refine ev_getfield dX7_takeOut_67 lf_7_62 m0 rfl ?_
            refine ev_icmp_geN 95 dX7_takeOut_70 rfl (by omega) (by omega) (fun hc70 => ?_) (fun hc70 => ?_)
            · refine ev_pc (pc' := 95) rfl ?_
              have ek : k = kL (tC T t) - m := by omega
              rw [ek] at hf
              refine ev_fgt 4 (L' := [_, _, _, _, _]) rfl ?_
              obtain ⟨hK, hcm, hrr⟩ := cut_row (gp := gp) (gq := gq) (ge := ge) (n := kL (tC T t) - m) (s := dropF (kS (tC T t)) p m) hr hT (by omega) hsg hf
              refine ev_aload_n dX7_takeOut_95 rfl rfl ?_
              refine ev_callVU0 dX7_takeOut_96 cal_X7_cut lk_7_154 ⟨(Nat.le_of_ble_eq_true rfl), (Nat.le_of_ble_eq_true rfl)⟩ rfl m0 (Nat.le_of_ble_eq_true rfl) (k_cut hm2 (rel_setV hr hT) hrr (by omega)) (fun v h96 hq96 => ?_)
              obtain ⟨rfl, hm96, o96⟩ := hq96
              have ho := ho.tr o96
              obtain ⟨m0, m1, m2, m3, m4, m5, m6, m7, m8, m9, m10, m11, m12⟩ := id hm96
              refine ev_aload_n dX7_takeOut_99 rfl rfl ?_
              refine ev_iload_n dX7_takeOut_100 rfl rfl ?_
              refine ev_iconst (nI 3) dX7_takeOut_101 rfl ?_
              refine ev_callVU2 dX7_takeOut_102 cal_X7_change lk_7_185 ⟨(Nat.le_of_ble_eq_true rfl), (Nat.le_of_ble_eq_true rfl)⟩ rfl m0 (Nat.le_of_ble_eq_true rfl) (k_change9 hm96 hr hT hK hcm rfl hf t ht hok 3 (by decide) (by decide)) (fun v h102 hq102 => ?_)
              refine ev_pc (pc' := 105) rfl ?_
              obtain ⟨rfl, hs9, o9⟩ := hq102
              have ho := ho.tr o9
              refine ev_ireturn dX7_takeOut_105 rfl (Or.inl rfl) (Nat.zero_le _) (Nat.zero_le _) ?_
              exact ⟨_, rfl, rfl, hs9, ho⟩
            · refine ev_aload_n dX7_takeOut_73 rfl rfl ?_
              refine ev_getfield dX7_takeOut_74 lf_7_26 m0 rfl ?_
              refine ev_iload dX7_takeOut_77 rfl ?_
              refine ev_aload_n dX7_takeOut_79 rfl rfl ?_
              refine ev_getfield dX7_takeOut_80 lf_7_26 m0 rfl ?_
              refine ev_iload dX7_takeOut_83 rfl ?_
              refine ev_iload_n dX7_takeOut_85 rfl rfl ?_
              refine ev_iaddN dX7_takeOut_86 ?_
              refine ev_ialoadF dX7_takeOut_87 m6 (by omega) (by decide) ?_
              refine em_iRw dX7_takeOut_88 hm2 (by omega) (fun h88 hm88 o88 => ?_)
              have ho := ho.tr o88
              obtain ⟨m0, m1, m2, m3, m4, m5, m6, m7, m8, m9, m10, m11, m12⟩ := id hm88
              refine ev_iincN (L' := [_, _, _, _, _]) 1 dX7_takeOut_89 rfl rfl ?_
              refine ev_goto 64 dX7_takeOut_92 rfl ?_
              refine ev_pc (pc' := 64) rfl ?_
              refine ih _ (by omega) (k + 1) _ _ rfl (by omega) (by omega) hm88 ho (fun j hj => ?_) (fun j hj => ?_)
              · by_cases e : j = k
                · rw [e, upN_s, hg _ (by omega), hf2 _ (by omega), dropF, if_neg (by omega)]
                · rw [upN_n e]; exact hf j (by omega)
              · rw [upN_n (by omega)]; exact hg j (by omega)
        exact LP64 _ p _ f rfl (Nat.le_refl _) (by omega) hm58 ho (fun j hj => by rw [dropF, if_pos hj]; exact hf2 j (by omega)) (fun _ _ => rfl)
      · first | omega | exact absurd hc41 (by decide)
  · first | omega | exact absurd hc7 (by decide)
