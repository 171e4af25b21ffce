set_option maxHeartbeats 4000000 in
set_option maxRecDepth 100000 in
theorem k_comesY {X : mX} {h : mH} {gz : Nat → Nat} {gc : Nat → Int64} {gs : Nat} {gh : Nat → Nat} {gk : Nat → Int64} {gl : Nat} {gb : Nat → Nat} {gt : Nat} {gr : Nat → Nat} {gm : Nat} {gp : Nat → Int64} {gq : Nat → Nat} {ge : Nat → Nat} {gn : Nat} {go : Nat → Nat} {gu : Nat} {gi : Bool} {ga : Nat → Int64} {gv : Nat → Nat} {gw : Nat} {gx : Int64} (hm : MN h gz gc gs gh gk gl gb gt gr gm gp gq ge gn go gu gi ga gv gw gx) (hn40 : gn ≤ 40) (hq : ∀ p, p < gn → gq p ≤ 40) (hkp : KpB gz) (p : Nat) (hp : p < gn) (u : Nat) (hu : u < 60) (hh : lstM (hitM gz gc gp gq p) 60 = nI u) : CnU X m_X7_comes [.ref 270, .int (nI p)] h (fun v h1 => v = some (.int (nI u)) ∧ MN h1 (upN gz (551 + u) (gz (551 + u) + 1)) gc gs gh gk gl gb gt gr gm gp gq ge gn go gu gi ga gv gw gx ∧ Out h h1 270 13) := by
  obtain ⟨m0, m1, m2, m3, m4, m5, m6, m7, m8, m9, m10, m11, m12⟩ := id hm
  have ho : Out h h 270 13 := Out.rf
  refine cn_of_ev (L0 := [_, _, _]) (by decide +kernel) rfl rfl (Nat.le_of_ble_eq_true rfl) rfl ?_
  refine ev_aload_n dX7_comes_0 rfl rfl ?_
  refine ev_iload_n dX7_comes_1 rfl rfl ?_
  refine ev_callVP1 dX7_comes_2 cal_X7_slotFor lk_7_89 ⟨(Nat.le_of_ble_eq_true rfl), (Nat.le_of_ble_eq_true rfl)⟩ rfl m0 (Nat.le_of_ble_eq_true rfl) ((show CnP X m_X7_slotFor _ h (some (.int (nI u))) from by have z := k_slotFor (X := X) hm hn40 hq hkp p hp; rwa [hh] at z)) ?_
  refine ev_istore_n (L' := [_, _, _]) dX7_comes_5 rfl (Nat.le_of_ble_eq_true rfl) rfl ?_
  refine ev_iload_n dX7_comes_6 rfl rfl ?_
  refine ev_iconst (-1) dX7_comes_7 rfl ?_
  refine ev_icmp_ne 54 dX7_comes_8 rfl (fun hc8 => ?_) (fun hc8 => ?_)
  · refine ev_pc (pc' := 54) rfl ?_
    refine ev_aload_n dX7_comes_54 rfl rfl ?_
    refine ev_getfield dX7_comes_55 lf_7_7 m0 rfl ?_
    refine ev_sipush (nI 551) dX7_comes_58 rfl ?_
    refine ev_iload_n dX7_comes_61 rfl rfl ?_
    refine ev_iaddN dX7_comes_62 ?_
    refine ev_dup2 dX7_comes_63 rfl rfl ?_
    refine ev_ialoadF dX7_comes_64 m1 (by omega) (by decide) ?_
    refine ev_iconst (nI 1) dX7_comes_65 rfl ?_
    refine ev_iaddN dX7_comes_66 ?_
    refine em_iZ dX7_comes_67 hm (by omega) (fun h67 hm67 o67 => ?_)
    have ho := ho.tr o67
    obtain ⟨m0, m1, m2, m3, m4, m5, m6, m7, m8, m9, m10, m11, m12⟩ := id hm67
    refine ev_iload_n dX7_comes_68 rfl rfl ?_
    refine ev_ireturn dX7_comes_69 rfl (Or.inl rfl) (Nat.zero_le _) (Nat.zero_le _) ?_
    exact ⟨_, rfl, rfl, hm67, ho⟩
  · refine ev_pc (pc' := 11) rfl ?_
    exact absurd hc8 (nI_m1 hu)
set_option maxHeartbeats 4000000 in
set_option maxRecDepth 100000 in
theorem k_comesN {X : mX} {h : mH} {gz : Nat → Nat} {gc : Nat → Int64} {gs : Nat} {gh : Nat → Nat} {gk : Nat → Int64} {gl : Nat} {gb : Nat → Nat} {gt : Nat} {gr : Nat → Nat} {gm : Nat} {gp : Nat → Int64} {gq : Nat → Nat} {ge : Nat → Nat} {gn : Nat} {go : Nat → Nat} {gu : Nat} {gi : Bool} {ga : Nat → Int64} {gv : Nat → Nat} {gw : Nat} {gx : Int64} (hm : MN h gz gc gs gh gk gl gb gt gr gm gp gq ge gn go gu gi ga gv gw gx) (hn40 : gn ≤ 40) (hq : ∀ p, p < gn → gq p ≤ 40) (hkp : KpB gz) (p : Nat) (hp : p < gn) (f : Nat) (hf : f < 60) (hf0 : gz (491 + f) = 0) (hfl : ∀ j, j < f → 0 < gz (491 + j)) (hh : lstM (hitM gz gc gp gq p) 60 = -1) : CnU X m_X7_comes [.ref 270, .int (nI p)] h (fun v h1 => v = some (.int (nI f)) ∧ MN h1 (upN (upN (upN gz (491 + f) (gq p)) 5 ((upN gz (491 + f) (gq p)) 5 + 1)) (551 + f) ((upN (upN gz (491 + f) (gq p)) 5 ((upN gz (491 + f) (gq p)) 5 + 1)) (551 + f) + 1)) (vp_updL gc f (gp p)) gs gh gk gl gb gt gr gm gp gq ge gn go gu gi ga gv gw gx ∧ Out h h1 270 13) := by
  obtain ⟨m0, m1, m2, m3, m4, m5, m6, m7, m8, m9, m10, m11, m12⟩ := id hm
  have ho : Out h h 270 13 := Out.rf
  refine cn_of_ev (L0 := [_, _, _]) (by decide +kernel) rfl rfl (Nat.le_of_ble_eq_true rfl) rfl ?_
  refine ev_aload_n dX7_comes_0 rfl rfl ?_
  refine ev_iload_n dX7_comes_1 rfl rfl ?_
  refine ev_callVP1 dX7_comes_2 cal_X7_slotFor lk_7_89 ⟨(Nat.le_of_ble_eq_true rfl), (Nat.le_of_ble_eq_true rfl)⟩ rfl m0 (Nat.le_of_ble_eq_true rfl) ((show CnP X m_X7_slotFor _ h (some (.int (-1))) from by have z := k_slotFor (X := X) hm hn40 hq hkp p hp; rwa [hh] at z)) ?_
  refine ev_istore_n (L' := [_, _, _]) dX7_comes_5 rfl (Nat.le_of_ble_eq_true rfl) rfl ?_
  refine ev_iload_n dX7_comes_6 rfl rfl ?_
  refine ev_iconst (-1) dX7_comes_7 rfl ?_
  refine ev_icmp_ne 54 dX7_comes_8 rfl (fun hc8 => ?_) (fun hc8 => ?_)
  · refine ev_pc (pc' := 54) rfl ?_
    exact absurd rfl hc8
  · refine ev_pc (pc' := 11) rfl ?_
    refine ev_aload_n dX7_comes_11 rfl rfl ?_
    refine ev_callVP0 dX7_comes_12 cal_X7_lowestFree lk_7_125 ⟨(Nat.le_of_ble_eq_true rfl), (Nat.le_of_ble_eq_true rfl)⟩ rfl m0 (Nat.le_of_ble_eq_true rfl) (k_lowestFree hm hkp f hf hf0 hfl) ?_
    refine ev_istore_n (L' := [_, _, _]) dX7_comes_15 rfl (Nat.le_of_ble_eq_true rfl) rfl ?_
    refine ev_aload_n dX7_comes_16 rfl rfl ?_
    refine ev_getfield dX7_comes_17 lf_7_7 m0 rfl ?_
    refine ev_sipush (nI 491) dX7_comes_20 rfl ?_
    refine ev_iload_n dX7_comes_23 rfl rfl ?_
    refine ev_iaddN dX7_comes_24 ?_
    refine ev_aload_n dX7_comes_25 rfl rfl ?_
    refine ev_getfield dX7_comes_26 lf_7_32 m0 rfl ?_
    refine ev_iload_n dX7_comes_29 rfl rfl ?_
    refine ev_ialoadF dX7_comes_30 m8 (by omega) (by decide) ?_
    refine em_iZ dX7_comes_31 hm (by omega) (fun h31 hm31 o31 => ?_)
    have ho := ho.tr o31
    obtain ⟨m0, m1, m2, m3, m4, m5, m6, m7, m8, m9, m10, m11, m12⟩ := id hm31
    refine ev_aload_n dX7_comes_32 rfl rfl ?_
    refine ev_getfield dX7_comes_33 lf_7_13 m0 rfl ?_
    refine ev_iload_n dX7_comes_36 rfl rfl ?_
    refine ev_aload_n dX7_comes_37 rfl rfl ?_
    refine ev_getfield dX7_comes_38 lf_7_29 m0 rfl ?_
    refine ev_iload_n dX7_comes_41 rfl rfl ?_
    refine ev_laloadN dX7_comes_42 m7 (by omega) (by decide) ?_
    refine em_lC dX7_comes_43 hm31 (by omega) (fun h43 hm43 o43 => ?_)
    have ho := ho.tr o43
    obtain ⟨m0, m1, m2, m3, m4, m5, m6, m7, m8, m9, m10, m11, m12⟩ := id hm43
    refine ev_aload_n dX7_comes_44 rfl rfl ?_
    refine ev_getfield dX7_comes_45 lf_7_7 m0 rfl ?_
    refine ev_iconst (nI 5) dX7_comes_48 rfl ?_
    refine ev_dup2 dX7_comes_49 rfl rfl ?_
    refine ev_ialoadF dX7_comes_50 m1 (by omega) (by decide) ?_
    refine ev_iconst (nI 1) dX7_comes_51 rfl ?_
    refine ev_iaddN dX7_comes_52 ?_
    refine em_iZ dX7_comes_53 hm43 (by omega) (fun h53 hm53 o53 => ?_)
    have ho := ho.tr o53
    obtain ⟨m0, m1, m2, m3, m4, m5, m6, m7, m8, m9, m10, m11, m12⟩ := id hm53
    refine ev_aload_n dX7_comes_54 rfl rfl ?_
    refine ev_getfield dX7_comes_55 lf_7_7 m0 rfl ?_
    refine ev_sipush (nI 551) dX7_comes_58 rfl ?_
    refine ev_iload_n dX7_comes_61 rfl rfl ?_
    refine ev_iaddN dX7_comes_62 ?_
    refine ev_dup2 dX7_comes_63 rfl rfl ?_
    refine ev_ialoadF dX7_comes_64 m1 (by omega) (by decide) ?_
    refine ev_iconst (nI 1) dX7_comes_65 rfl ?_
    refine ev_iaddN dX7_comes_66 ?_
    refine em_iZ dX7_comes_67 hm53 (by omega) (fun h67 hm67 o67 => ?_)
    have ho := ho.tr o67
    obtain ⟨m0, m1, m2, m3, m4, m5, m6, m7, m8, m9, m10, m11, m12⟩ := id hm67
    refine ev_iload_n dX7_comes_68 rfl rfl ?_
    refine ev_ireturn dX7_comes_69 rfl (Or.inl rfl) (Nat.zero_le _) (Nat.zero_le _) ?_
    exact ⟨_, rfl, rfl, hm67, ho⟩
