set_option maxHeartbeats 4000000 in
set_option maxRecDepth 100000 in
theorem k_firstError {X : mX} {h : mH} {gz : Nat → Nat} {gc : Nat → Int64} {gs : Nat} {gh : Nat → Nat} {gk : Nat → Int64} {gl : Nat} {gb : Nat → Nat} {gt : Nat} {gr : Nat → Nat} {gm : Nat} {gp : Nat → Int64} {gq : Nat → Nat} {ge : Nat → Nat} {gn : Nat} {go : Nat → Nat} {gu : Nat} {gi : Bool} {ga : Nat → Int64} {gv : Nat → Nat} {gw : Nat} {gx : Int64} (hm : MN h gz gc gs gh gk gl gb gt gr gm gp gq ge gn go gu gi ga gv gw gx) (hl60 : gl ≤ 60) (hb : ∀ j, j < gl → gb j ≤ 200) : CnU X m_X7_firstError [.ref 270] h (fun v h1 => v = some (.int (nI (errI gb gl))) ∧ (∃ f op, MN h1 gz gc gs gh gk gl gb 0 gr gm gp gq ge gn f (smN (addN gb) (errI gb gl)) op ga gv gw gx) ∧ Out h h1 270 13) := by
  obtain ⟨m0, m1, m2, m3, m4, m5, m6, m7, m8, m9, m10, m11, m12⟩ := id hm
  have ho : Out h h 270 13 := Out.rf
  refine cn_of_ev (L0 := [_]) (by decide +kernel) rfl rfl (Nat.le_of_ble_eq_true rfl) rfl ?_
  refine ev_aload_n dX7_firstError_0 rfl rfl ?_
  refine ev_iconst (nI 0) dX7_firstError_1 rfl ?_
  refine em_pTh dX7_firstError_2 lf_7_47 hm (fun h2 hm2 o2 => ?_)
  have ho := ho.tr o2
  obtain ⟨m0, m1, m2, m3, m4, m5, m6, m7, m8, m9, m10, m11, m12⟩ := id hm2
  refine ev_aload_n dX7_firstError_5 rfl rfl ?_
  refine ev_callVU0 dX7_firstError_6 cal_X7_rightUpTo lk_7_151 ⟨(Nat.le_of_ble_eq_true rfl), (Nat.le_of_ble_eq_true rfl)⟩ rfl m0 (Nat.le_of_ble_eq_true rfl) (k_rightUpTo hm2 hl60 hb) (fun v h6 hq6 => ?_)
  refine ev_pc (pc' := 9) rfl ?_
  obtain ⟨rfl, ⟨f, op, hm6, hf⟩, o6⟩ := hq6
  refine ev_ireturn dX7_firstError_9 rfl (Or.inl rfl) (Nat.zero_le _) (Nat.zero_le _) ?_
  exact ⟨_, rfl, rfl, ⟨f, op, hm6⟩, ho.tr o6⟩
set_option maxHeartbeats 4000000 in
set_option maxRecDepth 100000 in
theorem k_appendN {X : mX} {h : mH} {gz : Nat → Nat} {gc : Nat → Int64} {gs : Nat} {gh : Nat → Nat} {gk : Nat → Int64} {gl : Nat} {gb : Nat → Nat} {gt : Nat} {gr : Nat → Nat} {gm : Nat} {gp : Nat → Int64} {gq : Nat → Nat} {ge : Nat → Nat} {gn : Nat} {go : Nat → Nat} {gu : Nat} {gi : Bool} {ga : Nat → Int64} {gv : Nat → Nat} {gw : Nat} {gx : Int64} (hm : MN h gz gc gs gh gk gl gb gt gr gm gp gq ge gn go gu gi ga gv gw gx) (t : Int32) (ht : inX t 33 127 = false) : CnU X m_X7_append [.ref 270, .int t] h (fun v h1 => v = some (.int (nI 0)) ∧ MN h1 gz gc gs gh gk gl gb 1 gr gm gp gq ge gn go gu gi ga gv gw gx ∧ Out h h1 270 13) := by
  obtain ⟨m0, m1, m2, m3, m4, m5, m6, m7, m8, m9, m10, m11, m12⟩ := id hm
  have ho : Out h h 270 13 := Out.rf
  refine cn_of_ev (L0 := [_, _]) (by decide +kernel) rfl rfl (Nat.le_of_ble_eq_true rfl) rfl ?_
  refine ev_aload_n dX7_append_0 rfl rfl ?_
  refine ev_iload_n dX7_append_1 rfl rfl ?_
  refine ev_bipush (nI 33) dX7_append_2 rfl ?_
  refine ev_bipush (nI 126) dX7_append_4 rfl ?_
  refine ev_callSP3 dX7_append_6 cal_X7_within lk_7_54 ⟨(Nat.le_of_ble_eq_true rfl), (Nat.le_of_ble_eq_true rfl)⟩ rfl (Nat.le_of_ble_eq_true rfl) ((show CnP X m_X7_within _ h (some (.int (bI (inX t 33 127)))) from by have z := k_within (X := X) (h := h) t (nI 33) (nI 126); rwa [wth_inX (by decide) (by decide)] at z)) ?_
  refine ev_if_neB 16 dX7_append_9 rfl (fun hc9 => ?_) (fun hc9 => ?_)
  · refine ev_pc (pc' := 16) rfl ?_
    exact absurd hc9 (by rw [ht]; decide)
  · refine ev_iconst (nI 1) dX7_append_12 rfl ?_
    refine ev_goto 30 dX7_append_13 rfl ?_
    refine em_pTh dX7_append_30 lf_7_47 hm (fun h30 hm30 o30 => ?_)
    have ho := ho.tr o30
    obtain ⟨m0, m1, m2, m3, m4, m5, m6, m7, m8, m9, m10, m11, m12⟩ := id hm30
    refine ev_aload_n dX7_append_33 rfl rfl ?_
    refine ev_getfield dX7_append_34 lf_7_47 m0 rfl ?_
    refine ev_if_leN 42 dX7_append_37 rfl (by omega) (fun hc37 => ?_) (fun hc37 => ?_)
    · refine ev_pc (pc' := 42) rfl ?_
      omega
    · refine ev_iconst (nI 0) dX7_append_40 rfl ?_
      refine ev_ireturn dX7_append_41 rfl (Or.inl rfl) (Nat.zero_le _) (Nat.zero_le _) ?_
      exact ⟨_, rfl, rfl, hm30, ho⟩
set_option maxHeartbeats 4000000 in
set_option maxRecDepth 100000 in
theorem k_appendF {X : mX} {h : mH} {gz : Nat → Nat} {gc : Nat → Int64} {gs : Nat} {gh : Nat → Nat} {gk : Nat → Int64} {gl : Nat} {gb : Nat → Nat} {gt : Nat} {gr : Nat → Nat} {gm : Nat} {gp : Nat → Int64} {gq : Nat → Nat} {ge : Nat → Nat} {gn : Nat} {go : Nat → Nat} {gu : Nat} {gi : Bool} {ga : Nat → Int64} {gv : Nat → Nat} {gw : Nat} {gx : Int64} (hm : MN h gz gc gs gh gk gl gb gt gr gm gp gq ge gn go gu gi ga gv gw gx) (k : Nat) (h1 : 33 ≤ k) (h2 : k < 127) (hl : gl = 60) : CnU X m_X7_append [.ref 270, .int (nI k)] h (fun v h1 => v = some (.int (nI 0)) ∧ MN h1 gz gc gs gh gk gl gb 2 gr gm gp gq ge gn go gu gi ga gv gw gx ∧ Out h h1 270 13) := by
  obtain ⟨m0, m1, m2, m3, m4, m5, m6, m7, m8, m9, m10, m11, m12⟩ := id hm
  have ho : Out h h 270 13 := Out.rf
  refine cn_of_ev (L0 := [_, _]) (by decide +kernel) rfl rfl (Nat.le_of_ble_eq_true rfl) rfl ?_
  refine ev_aload_n dX7_append_0 rfl rfl ?_
  refine ev_iload_n dX7_append_1 rfl rfl ?_
  refine ev_bipush (nI 33) dX7_append_2 rfl ?_
  refine ev_bipush (nI 126) dX7_append_4 rfl ?_
  refine ev_callSP3 dX7_append_6 cal_X7_within lk_7_54 ⟨(Nat.le_of_ble_eq_true rfl), (Nat.le_of_ble_eq_true rfl)⟩ rfl (Nat.le_of_ble_eq_true rfl) ((show CnP X m_X7_within _ h (some (.int (bI (inX (nI k) 33 127)))) from by have z := k_within (X := X) (h := h) (nI k) (nI 33) (nI 126); rwa [wth_inX (by decide) (by decide)] at z)) ?_
  refine ev_if_neB 16 dX7_append_9 rfl (fun hc9 => ?_) (fun hc9 => ?_)
  · refine ev_aload_n dX7_append_16 rfl rfl ?_
    refine ev_getfield dX7_append_17 lf_7_145 m0 rfl ?_
    refine ev_bipush (nI 60) dX7_append_20 rfl ?_
    refine ev_icmp_neN 29 dX7_append_22 rfl (by omega) (by omega) (fun hc22 => ?_) (fun hc22 => ?_)
    · refine ev_pc (pc' := 29) rfl ?_
      omega
    · refine ev_iconst (nI 2) dX7_append_25 rfl ?_
      refine ev_goto 30 dX7_append_26 rfl ?_
      refine em_pTh dX7_append_30 lf_7_47 hm (fun h30 hm30 o30 => ?_)
      have ho := ho.tr o30
      obtain ⟨m0, m1, m2, m3, m4, m5, m6, m7, m8, m9, m10, m11, m12⟩ := id hm30
      refine ev_aload_n dX7_append_33 rfl rfl ?_
      refine ev_getfield dX7_append_34 lf_7_47 m0 rfl ?_
      refine ev_if_leN 42 dX7_append_37 rfl (by omega) (fun hc37 => ?_) (fun hc37 => ?_)
      · refine ev_pc (pc' := 42) rfl ?_
        omega
      · refine ev_iconst (nI 0) dX7_append_40 rfl ?_
        refine ev_ireturn dX7_append_41 rfl (Or.inl rfl) (Nat.zero_le _) (Nat.zero_le _) ?_
        exact ⟨_, rfl, rfl, hm30, ho⟩
  · refine ev_pc (pc' := 12) rfl ?_
    exact absurd ((inX_nI (by omega)).mpr ⟨h1, h2⟩) (by rw [hc9]; decide)
set_option maxHeartbeats 4000000 in
set_option maxRecDepth 100000 in
theorem k_append {X : mX} {h : mH} {gz : Nat → Nat} {gc : Nat → Int64} {gs : Nat} {gh : Nat → Nat} {gk : Nat → Int64} {gl : Nat} {gb : Nat → Nat} {gt : Nat} {gr : Nat → Nat} {gm : Nat} {gp : Nat → Int64} {gq : Nat → Nat} {ge : Nat → Nat} {gn : Nat} {go : Nat → Nat} {gu : Nat} {gi : Bool} {ga : Nat → Int64} {gv : Nat → Nat} {gw : Nat} {gx : Int64} (hm : MN h gz gc gs gh gk gl gb gt gr gm gp gq ge gn go gu gi ga gv gw gx) (k : Nat) (h1 : 33 ≤ k) (h2 : k < 127) (hl : gl < 60) : CnU X m_X7_append [.ref 270, .int (nI k)] h (fun v h1 => v = some (.int (nI (gl + 1))) ∧ MN h1 gz gc gs gh gk (gl + 1) (upN gb gl k) 0 gr gm gp gq ge gn go gu gi ga gv gw gx ∧ Out h h1 270 13) := by
  obtain ⟨m0, m1, m2, m3, m4, m5, m6, m7, m8, m9, m10, m11, m12⟩ := id hm
  have ho : Out h h 270 13 := Out.rf
  refine cn_of_ev (L0 := [_, _]) (by decide +kernel) rfl rfl (Nat.le_of_ble_eq_true rfl) rfl ?_
  refine ev_aload_n dX7_append_0 rfl rfl ?_
  refine ev_iload_n dX7_append_1 rfl rfl ?_
  refine ev_bipush (nI 33) dX7_append_2 rfl ?_
  refine ev_bipush (nI 126) dX7_append_4 rfl ?_
  refine ev_callSP3 dX7_append_6 cal_X7_within lk_7_54 ⟨(Nat.le_of_ble_eq_true rfl), (Nat.le_of_ble_eq_true rfl)⟩ rfl (Nat.le_of_ble_eq_true rfl) ((show CnP X m_X7_within _ h (some (.int (bI (inX (nI k) 33 127)))) from by have z := k_within (X := X) (h := h) (nI k) (nI 33) (nI 126); rwa [wth_inX (by decide) (by decide)] at z)) ?_
  refine ev_if_neB 16 dX7_append_9 rfl (fun hc9 => ?_) (fun hc9 => ?_)
  · refine ev_aload_n dX7_append_16 rfl rfl ?_
    refine ev_getfield dX7_append_17 lf_7_145 m0 rfl ?_
    refine ev_bipush (nI 60) dX7_append_20 rfl ?_
    refine ev_icmp_neN 29 dX7_append_22 rfl (by omega) (by omega) (fun hc22 => ?_) (fun hc22 => ?_)
    · refine ev_iconst (nI 0) dX7_append_29 rfl ?_
      refine em_pTh dX7_append_30 lf_7_47 hm (fun h30 hm30 o30 => ?_)
      have ho := ho.tr o30
      obtain ⟨m0, m1, m2, m3, m4, m5, m6, m7, m8, m9, m10, m11, m12⟩ := id hm30
      refine ev_aload_n dX7_append_33 rfl rfl ?_
      refine ev_getfield dX7_append_34 lf_7_47 m0 rfl ?_
      refine ev_if_leN 42 dX7_append_37 rfl (by omega) (fun hc37 => ?_) (fun hc37 => ?_)
      · refine ev_aload_n dX7_append_42 rfl rfl ?_
        refine ev_getfield dX7_append_43 lf_7_23 m0 rfl ?_
        refine ev_aload_n dX7_append_46 rfl rfl ?_
        refine ev_getfield dX7_append_47 lf_7_145 m0 rfl ?_
        refine ev_iload_n dX7_append_50 rfl rfl ?_
        refine em_iB dX7_append_51 hm30 (by omega) (fun h51 hm51 o51 => ?_)
        have ho := ho.tr o51
        obtain ⟨m0, m1, m2, m3, m4, m5, m6, m7, m8, m9, m10, m11, m12⟩ := id hm51
        refine ev_aload_n dX7_append_52 rfl rfl ?_
        refine ev_dup dX7_append_53 rfl ?_
        refine ev_getfield dX7_append_54 lf_7_145 m0 rfl ?_
        refine ev_iconst (nI 1) dX7_append_57 rfl ?_
        refine ev_iaddN dX7_append_58 ?_
        refine em_pLn dX7_append_59 lf_7_145 hm51 (fun h59 hm59 o59 => ?_)
        have ho := ho.tr o59
        obtain ⟨m0, m1, m2, m3, m4, m5, m6, m7, m8, m9, m10, m11, m12⟩ := id hm59
        refine ev_aload_n dX7_append_62 rfl rfl ?_
        refine ev_getfield dX7_append_63 lf_7_145 m0 rfl ?_
        refine ev_ireturn dX7_append_66 rfl (Or.inl rfl) (Nat.zero_le _) (Nat.zero_le _) ?_
        exact ⟨_, rfl, rfl, hm59, ho⟩
      · refine ev_pc (pc' := 40) rfl ?_
        omega
    · refine ev_pc (pc' := 25) rfl ?_
      omega
  · refine ev_pc (pc' := 12) rfl ?_
    exact absurd ((inX_nI (by omega)).mpr ⟨h1, h2⟩) (by rw [hc9]; decide)
