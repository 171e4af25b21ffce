theorem wth_inX {t : Int32} {a b : Nat} (ha : a < 2 ^ 31) (hb : b < 2 ^ 31) : decide (nI a ≤ t ∧ t ≤ nI b) = inX t a (b + 1) := by
  unfold inX
  rw [decide_eq_decide, i_le, i_le, nI_toInt ha, nI_toInt hb]
  omega
theorem wth_inX1 {t : Int32} {n : Nat} (hn : n < 2 ^ 30) : decide (nI 0 ≤ t ∧ t ≤ nI n - nI 1) = inX t 0 n := by
  unfold inX
  rw [decide_eq_decide, i_le, i_le, nI_toInt (by omega), pk_sub_toInt hn (by omega)]
  omega
set_option maxHeartbeats 4000000 in
set_option maxRecDepth 100000 in
theorem k_thrown {X : mX} {h : mH} {gz : Nat → Nat} {gc : Nat → Int64} {gs : Nat} {gh : Nat → Nat} {gk : Nat → Int64} {gl : Nat} {gb : Nat → Nat} {gt : Nat} {gr : Nat → Nat} {gm : Nat} {gp : Nat → Int64} {gq : Nat → Nat} {ge : Nat → Nat} {gn : Nat} {go : Nat → Nat} {gu : Nat} {gi : Bool} {ga : Nat → Int64} {gv : Nat → Nat} {gw : Nat} {gx : Int64} (hm : MN h gz gc gs gh gk gl gb gt gr gm gp gq ge gn go gu gi ga gv gw gx)  : CnP X m_X7_thrown [.ref 270] h (some (.int (nI (gt)))) := by
  obtain ⟨m0, m1, m2, m3, m4, m5, m6, m7, m8, m9, m10, m11, m12⟩ := id hm
  refine cn_of_ev (L0 := [_]) (by decide +kernel) rfl rfl (Nat.le_of_ble_eq_true rfl) rfl ?_
  refine ev_aload_n dX7_thrown_0 rfl rfl ?_
  refine ev_getfield dX7_thrown_1 lf_7_47 m0 rfl ?_
  refine ev_ireturn dX7_thrown_4 rfl (Or.inl rfl) (Nat.zero_le _) (Nat.zero_le _) ?_
  exact ⟨rfl, rfl⟩
set_option maxHeartbeats 4000000 in
set_option maxRecDepth 100000 in
theorem k_within {X : mX} {h : mH}  (t l u : Int32) : CnP X m_X7_within [.int t, .int l, .int u] h (some (.int (bI (decide (l ≤ t ∧ t ≤ u))))) := by
  refine cn_of_ev (L0 := [_, _, _]) (by decide +kernel) rfl rfl (Nat.le_of_ble_eq_true rfl) rfl ?_
  refine ev_iload_n dX7_within_0 rfl rfl ?_
  refine ev_iload_n dX7_within_1 rfl rfl ?_
  refine ev_icmp_lt 14 dX7_within_2 rfl (fun hc2 => ?_) (fun hc2 => ?_)
  · refine ev_iconst (nI 0) dX7_within_14 rfl ?_
    refine ev_zreturn dX7_within_15 rfl (by first | rfl | exact bI_nar _) (Or.inl rfl) (Nat.zero_le _) (Nat.zero_le _) ?_
    rw [i_lt] at hc2
    first
      | (rw [decide_eq_false (by rw [i_le, i_le]; omega)]; exact ⟨rfl, rfl⟩)
      | (rw [i_lt] at hc7; rw [decide_eq_false (by rw [i_le, i_le]; omega)]; exact ⟨rfl, rfl⟩)
      | (rw [i_le] at hc7; rw [decide_eq_true (by rw [i_le, i_le]; omega)]; exact ⟨rfl, rfl⟩)
      | (rw [i_lt] at hc7; rw [decide_eq_true (by rw [i_le, i_le]; omega)]; exact ⟨rfl, rfl⟩)
  · refine ev_iload_n dX7_within_5 rfl rfl ?_
    refine ev_iload_n dX7_within_6 rfl rfl ?_
    refine ev_icmp_gt 14 dX7_within_7 rfl (fun hc7 => ?_) (fun hc7 => ?_)
    · refine ev_iconst (nI 0) dX7_within_14 rfl ?_
      refine ev_zreturn dX7_within_15 rfl (by first | rfl | exact bI_nar _) (Or.inl rfl) (Nat.zero_le _) (Nat.zero_le _) ?_
      rw [i_lt] at hc2
      first
        | (rw [decide_eq_false (by rw [i_le, i_le]; omega)]; exact ⟨rfl, rfl⟩)
        | (rw [i_lt] at hc7; rw [decide_eq_false (by rw [i_le, i_le]; omega)]; exact ⟨rfl, rfl⟩)
        | (rw [i_le] at hc7; rw [decide_eq_true (by rw [i_le, i_le]; omega)]; exact ⟨rfl, rfl⟩)
        | (rw [i_lt] at hc7; rw [decide_eq_true (by rw [i_le, i_le]; omega)]; exact ⟨rfl, rfl⟩)
    · refine ev_iconst (nI 1) dX7_within_10 rfl ?_
      refine ev_goto 15 dX7_within_11 rfl ?_
      refine ev_zreturn dX7_within_15 rfl (by first | rfl | exact bI_nar _) (Or.inl rfl) (Nat.zero_le _) (Nat.zero_le _) ?_
      rw [i_lt] at hc2
      first
        | (rw [decide_eq_false (by rw [i_le, i_le]; omega)]; exact ⟨rfl, rfl⟩)
        | (rw [i_lt] at hc7; rw [decide_eq_false (by rw [i_le, i_le]; omega)]; exact ⟨rfl, rfl⟩)
        | (rw [i_le] at hc7; rw [decide_eq_true (by rw [i_le, i_le]; omega)]; exact ⟨rfl, rfl⟩)
        | (rw [i_lt] at hc7; rw [decide_eq_true (by rw [i_le, i_le]; omega)]; exact ⟨rfl, rfl⟩)
set_option maxHeartbeats 4000000 in
set_option maxRecDepth 100000 in
theorem k_isText {X : mX} {h : mH}  (t : Int32) : CnP X m_X7_isText [.int t] h (some (.int (bI (inX t 0 4)))) := by
  refine cn_of_ev (L0 := [_]) (by decide +kernel) rfl rfl (Nat.le_of_ble_eq_true rfl) rfl ?_
  refine ev_iload_n dX7_isText_0 rfl rfl ?_
  refine ev_iconst (nI 0) dX7_isText_1 rfl ?_
  refine ev_iconst (nI 3) dX7_isText_2 rfl ?_
  refine ev_callSP3 dX7_isText_3 cal_X7_within lk_7_54 ⟨(Nat.le_of_ble_eq_true rfl), (Nat.le_of_ble_eq_true rfl)⟩ rfl (Nat.le_of_ble_eq_true rfl) (k_within t (nI 0) (nI 3)) ?_
  refine ev_zreturn dX7_isText_6 rfl (by first | rfl | exact bI_nar _) (Or.inl rfl) (Nat.zero_le _) (Nat.zero_le _) ?_
  rw [wth_inX (by decide) (by decide)]
  exact ⟨rfl, rfl⟩
set_option maxHeartbeats 4000000 in
set_option maxRecDepth 100000 in
theorem k_isSetting {X : mX} {h : mH}  (t : Int32) : CnP X m_X7_isSetting [.int t] h (some (.int (bI (inX t 0 5)))) := by
  refine cn_of_ev (L0 := [_]) (by decide +kernel) rfl rfl (Nat.le_of_ble_eq_true rfl) rfl ?_
  refine ev_iload_n dX7_isSetting_0 rfl rfl ?_
  refine ev_iconst (nI 0) dX7_isSetting_1 rfl ?_
  refine ev_iconst (nI 4) dX7_isSetting_2 rfl ?_
  refine ev_callSP3 dX7_isSetting_3 cal_X7_within lk_7_54 ⟨(Nat.le_of_ble_eq_true rfl), (Nat.le_of_ble_eq_true rfl)⟩ rfl (Nat.le_of_ble_eq_true rfl) (k_within t (nI 0) (nI 4)) ?_
  refine ev_zreturn dX7_isSetting_6 rfl (by first | rfl | exact bI_nar _) (Or.inl rfl) (Nat.zero_le _) (Nat.zero_le _) ?_
  rw [wth_inX (by decide) (by decide)]
  exact ⟨rfl, rfl⟩
set_option maxHeartbeats 4000000 in
set_option maxRecDepth 100000 in
theorem k_signsOf {X : mX} {h : mH} {gz : Nat → Nat} {gc : Nat → Int64} {gs : Nat} {gh : Nat → Nat} {gk : Nat → Int64} {gl : Nat} {gb : Nat → Nat} {gt : Nat} {gr : Nat → Nat} {gm : Nat} {gp : Nat → Int64} {gq : Nat → Nat} {ge : Nat → Nat} {gn : Nat} {go : Nat → Nat} {gu : Nat} {gi : Bool} {ga : Nat → Int64} {gv : Nat → Nat} {gw : Nat} {gx : Int64} (hm : MN h gz gc gs gh gk gl gb gt gr gm gp gq ge gn go gu gi ga gv gw gx) (t : Nat) (ht : t < 4) : CnP X m_X7_signsOf [.ref 270, .int (nI t)] h (some (.int (nI (gz (7 + t))))) := by
  obtain ⟨m0, m1, m2, m3, m4, m5, m6, m7, m8, m9, m10, m11, m12⟩ := id hm
  refine cn_of_ev (L0 := [_, _]) (by decide +kernel) rfl rfl (Nat.le_of_ble_eq_true rfl) rfl ?_
  refine ev_aload_n dX7_signsOf_0 rfl rfl ?_
  refine ev_getfield dX7_signsOf_1 lf_7_7 m0 rfl ?_
  refine ev_bipush (nI 7) dX7_signsOf_4 rfl ?_
  refine ev_iload_n dX7_signsOf_6 rfl rfl ?_
  refine ev_iaddN dX7_signsOf_7 ?_
  refine ev_ialoadF dX7_signsOf_8 m1 (by omega) (by decide) ?_
  refine ev_ireturn dX7_signsOf_9 rfl (Or.inl rfl) (Nat.zero_le _) (Nat.zero_le _) ?_
  exact ⟨rfl, rfl⟩
set_option maxHeartbeats 4000000 in
set_option maxRecDepth 100000 in
theorem k_valueAt {X : mX} {h : mH} {gz : Nat → Nat} {gc : Nat → Int64} {gs : Nat} {gh : Nat → Nat} {gk : Nat → Int64} {gl : Nat} {gb : Nat → Nat} {gt : Nat} {gr : Nat → Nat} {gm : Nat} {gp : Nat → Int64} {gq : Nat → Nat} {ge : Nat → Nat} {gn : Nat} {go : Nat → Nat} {gu : Nat} {gi : Bool} {ga : Nat → Int64} {gv : Nat → Nat} {gw : Nat} {gx : Int64} (hm : MN h gz gc gs gh gk gl gb gt gr gm gp gq ge gn go gu gi ga gv gw gx) (t p : Nat) (ht : t < 4) (hp : p < 40) : CnP X m_X7_valueAt [.ref 270, .int (nI t), .int (nI p)] h (some (.int (nI (gz (11 + 40 * t + p))))) := by
  obtain ⟨m0, m1, m2, m3, m4, m5, m6, m7, m8, m9, m10, m11, m12⟩ := id hm
  refine cn_of_ev (L0 := [_, _, _]) (by decide +kernel) rfl rfl (Nat.le_of_ble_eq_true rfl) rfl ?_
  refine ev_aload_n dX7_valueAt_0 rfl rfl ?_
  refine ev_getfield dX7_valueAt_1 lf_7_7 m0 rfl ?_
  refine ev_bipush (nI 11) dX7_valueAt_4 rfl ?_
  refine ev_bipush (nI 40) dX7_valueAt_6 rfl ?_
  refine ev_iload_n dX7_valueAt_8 rfl rfl ?_
  refine ev_imulN dX7_valueAt_9 ?_
  refine ev_iaddN dX7_valueAt_10 ?_
  refine ev_iload_n dX7_valueAt_11 rfl rfl ?_
  refine ev_iaddN dX7_valueAt_12 ?_
  refine ev_ialoadF dX7_valueAt_13 m1 (by omega) (by decide) ?_
  refine ev_ireturn dX7_valueAt_14 rfl (Or.inl rfl) (Nat.zero_le _) (Nat.zero_le _) ?_
  exact ⟨rfl, rfl⟩
set_option maxHeartbeats 4000000 in
set_option maxRecDepth 100000 in
theorem k_markAt {X : mX} {h : mH} {gz : Nat → Nat} {gc : Nat → Int64} {gs : Nat} {gh : Nat → Nat} {gk : Nat → Int64} {gl : Nat} {gb : Nat → Nat} {gt : Nat} {gr : Nat → Nat} {gm : Nat} {gp : Nat → Int64} {gq : Nat → Nat} {ge : Nat → Nat} {gn : Nat} {go : Nat → Nat} {gu : Nat} {gi : Bool} {ga : Nat → Int64} {gv : Nat → Nat} {gw : Nat} {gx : Int64} (hm : MN h gz gc gs gh gk gl gb gt gr gm gp gq ge gn go gu gi ga gv gw gx) (t p : Nat) (ht : t < 4) (hp : p < 40) : CnP X m_X7_markAt [.ref 270, .int (nI t), .int (nI p)] h (some (.int (nI (gz (171 + 40 * t + p))))) := by
  obtain ⟨m0, m1, m2, m3, m4, m5, m6, m7, m8, m9, m10, m11, m12⟩ := id hm
  refine cn_of_ev (L0 := [_, _, _]) (by decide +kernel) rfl rfl (Nat.le_of_ble_eq_true rfl) rfl ?_
  refine ev_aload_n dX7_markAt_0 rfl rfl ?_
  refine ev_getfield dX7_markAt_1 lf_7_7 m0 rfl ?_
  refine ev_sipush (nI 171) dX7_markAt_4 rfl ?_
  refine ev_bipush (nI 40) dX7_markAt_7 rfl ?_
  refine ev_iload_n dX7_markAt_9 rfl rfl ?_
  refine ev_imulN dX7_markAt_10 ?_
  refine ev_iaddN dX7_markAt_11 ?_
  refine ev_iload_n dX7_markAt_12 rfl rfl ?_
  refine ev_iaddN dX7_markAt_13 ?_
  refine ev_ialoadF dX7_markAt_14 m1 (by omega) (by decide) ?_
  refine ev_ireturn dX7_markAt_15 rfl (Or.inl rfl) (Nat.zero_le _) (Nat.zero_le _) ?_
  exact ⟨rfl, rfl⟩
set_option maxHeartbeats 4000000 in
set_option maxRecDepth 100000 in
theorem k_slotAt {X : mX} {h : mH} {gz : Nat → Nat} {gc : Nat → Int64} {gs : Nat} {gh : Nat → Nat} {gk : Nat → Int64} {gl : Nat} {gb : Nat → Nat} {gt : Nat} {gr : Nat → Nat} {gm : Nat} {gp : Nat → Int64} {gq : Nat → Nat} {ge : Nat → Nat} {gn : Nat} {go : Nat → Nat} {gu : Nat} {gi : Bool} {ga : Nat → Int64} {gv : Nat → Nat} {gw : Nat} {gx : Int64} (hm : MN h gz gc gs gh gk gl gb gt gr gm gp gq ge gn go gu gi ga gv gw gx) (t p : Nat) (ht : t < 4) (hp : p < 40) : CnP X m_X7_slotAt [.ref 270, .int (nI t), .int (nI p)] h (some (.int (nI (gz (331 + 40 * t + p))))) := by
  obtain ⟨m0, m1, m2, m3, m4, m5, m6, m7, m8, m9, m10, m11, m12⟩ := id hm
  refine cn_of_ev (L0 := [_, _, _]) (by decide +kernel) rfl rfl (Nat.le_of_ble_eq_true rfl) rfl ?_
  refine ev_aload_n dX7_slotAt_0 rfl rfl ?_
  refine ev_getfield dX7_slotAt_1 lf_7_7 m0 rfl ?_
  refine ev_sipush (nI 331) dX7_slotAt_4 rfl ?_
  refine ev_bipush (nI 40) dX7_slotAt_7 rfl ?_
  refine ev_iload_n dX7_slotAt_9 rfl rfl ?_
  refine ev_imulN dX7_slotAt_10 ?_
  refine ev_iaddN dX7_slotAt_11 ?_
  refine ev_iload_n dX7_slotAt_12 rfl rfl ?_
  refine ev_iaddN dX7_slotAt_13 ?_
  refine ev_ialoadF dX7_slotAt_14 m1 (by omega) (by decide) ?_
  refine ev_ireturn dX7_slotAt_15 rfl (Or.inl rfl) (Nat.zero_le _) (Nat.zero_le _) ?_
  exact ⟨rfl, rfl⟩
set_option maxHeartbeats 4000000 in
set_option maxRecDepth 100000 in
theorem k_isKept {X : mX} {h : mH} {gz : Nat → Nat} {gc : Nat → Int64} {gs : Nat} {gh : Nat → Nat} {gk : Nat → Int64} {gl : Nat} {gb : Nat → Nat} {gt : Nat} {gr : Nat → Nat} {gm : Nat} {gp : Nat → Int64} {gq : Nat → Nat} {ge : Nat → Nat} {gn : Nat} {go : Nat → Nat} {gu : Nat} {gi : Bool} {ga : Nat → Int64} {gv : Nat → Nat} {gw : Nat} {gx : Int64} (hm : MN h gz gc gs gh gk gl gb gt gr gm gp gq ge gn go gu gi ga gv gw gx) (k : Nat) (hk : k < 60) (hz : gz (491 + k) < 2 ^ 31) : CnP X m_X7_isKept [.ref 270, .int (nI k)] h (some (.int (bI (decide (0 < gz (491 + k)))))) := by
  obtain ⟨m0, m1, m2, m3, m4, m5, m6, m7, m8, m9, m10, m11, m12⟩ := id hm
  refine cn_of_ev (L0 := [_, _]) (by decide +kernel) rfl rfl (Nat.le_of_ble_eq_true rfl) rfl ?_
  refine ev_aload_n dX7_isKept_0 rfl rfl ?_
  refine ev_getfield dX7_isKept_1 lf_7_7 m0 rfl ?_
  refine ev_sipush (nI 491) dX7_isKept_4 rfl ?_
  refine ev_iload_n dX7_isKept_7 rfl rfl ?_
  refine ev_iaddN dX7_isKept_8 ?_
  refine ev_ialoadF dX7_isKept_9 m1 (by omega) (by decide) ?_
  refine ev_if_leN 17 dX7_isKept_10 rfl (by omega) (fun hc10 => ?_) (fun hc10 => ?_)
  · refine ev_iconst (nI 0) dX7_isKept_17 rfl ?_
    refine ev_zreturn dX7_isKept_18 rfl (by first | rfl | exact bI_nar _) (Or.inl rfl) (Nat.zero_le _) (Nat.zero_le _) ?_
    first | (rw [decide_eq_true (by omega)]; exact ⟨rfl, rfl⟩) | (rw [decide_eq_false (by omega)]; exact ⟨rfl, rfl⟩)
  · refine ev_iconst (nI 1) dX7_isKept_13 rfl ?_
    refine ev_goto 18 dX7_isKept_14 rfl ?_
    refine ev_zreturn dX7_isKept_18 rfl (by first | rfl | exact bI_nar _) (Or.inl rfl) (Nat.zero_le _) (Nat.zero_le _) ?_
    first | (rw [decide_eq_true (by omega)]; exact ⟨rfl, rfl⟩) | (rw [decide_eq_false (by omega)]; exact ⟨rfl, rfl⟩)
set_option maxHeartbeats 4000000 in
set_option maxRecDepth 100000 in
theorem k_takeRow {X : mX} {h : mH} {gz : Nat → Nat} {gc : Nat → Int64} {gs : Nat} {gh : Nat → Nat} {gk : Nat → Int64} {gl : Nat} {gb : Nat → Nat} {gt : Nat} {gr : Nat → Nat} {gm : Nat} {gp : Nat → Int64} {gq : Nat → Nat} {ge : Nat → Nat} {gn : Nat} {go : Nat → Nat} {gu : Nat} {gi : Bool} {ga : Nat → Int64} {gv : Nat → Nat} {gw : Nat} {gx : Int64} (hm : MN h gz gc gs gh gk gl gb gt gr gm gp gq ge gn go gu gi ga gv gw gx) (t : Nat) (ht : t < 4) (h40 : gz (7 + t) ≤ 40) : CnU X m_X7_takeRow [.ref 270, .int (nI t)] h (fun v h1 => v = none ∧ (∃ f, MN h1 gz gc gs gh gk gl gb gt f (gz (7 + t)) gp gq ge gn go gu gi ga gv gw gx ∧ ∀ j, j < gz (7 + t) → f j = gz (11 + 40 * t + j)) ∧ Out h h1 270 13) := by
  obtain ⟨m0, m1, m2, m3, m4, m5, m6, m7, m8, m9, m10, m11, m12⟩ := id hm
  have ho : Out h h 270 13 := Out.rf
  refine cn_of_ev (L0 := [_, _, _]) (by decide +kernel) rfl rfl (Nat.le_of_ble_eq_true rfl) rfl ?_
  refine ev_aload_n dX7_takeRow_0 rfl rfl ?_
  refine ev_aload_n dX7_takeRow_1 rfl rfl ?_
  refine ev_iload_n dX7_takeRow_2 rfl rfl ?_
  refine ev_callVP1 dX7_takeRow_3 cal_X7_signsOf lk_7_58 ⟨(Nat.le_of_ble_eq_true rfl), (Nat.le_of_ble_eq_true rfl)⟩ rfl m0 (Nat.le_of_ble_eq_true rfl) (k_signsOf hm t ht) ?_
  refine em_pRM dX7_takeRow_6 lf_7_62 hm (fun h6 hm6 o6 => ?_)
  have ho := ho.tr o6
  obtain ⟨m0, m1, m2, m3, m4, m5, m6, m7, m8, m9, m10, m11, m12⟩ := id hm6
  refine ev_iconst (nI 0) dX7_takeRow_9 rfl ?_
  refine ev_istore_n (L' := [_, _, _]) dX7_takeRow_10 rfl (Nat.le_of_ble_eq_true rfl) rfl ?_
  refine ev_pc (pc' := 11) rfl ?_
  have LP11 : ∀ (mz : Nat) (k : Nat) (h2 : mH) (f : Nat → Nat), gz (7 + t) - k = mz → (k ≤ gz (7 + t)) → (MN h2 gz gc gs gh gk gl gb gt f (gz (7 + t)) gp gq ge gn go gu gi ga gv gw gx) → (Out h h2 270 13) → (∀ j, j < k → f j = gz (11 + 40 * t + j)) → Ev X m_X7_takeRow B0 11 [.ref 270, .int (nI t), .int (nI k)] [] h2 (fun o h1 => ∃ v, o = .inl v ∧ v = none ∧ (∃ f, MN h1 gz gc gs gh gk gl gb gt f (gz (7 + t)) gp gq ge gn go gu gi ga gv gw gx ∧ ∀ j, j < gz (7 + t) → f j = gz (11 + 40 * t + j)) ∧ Out h h1 270 13) := by
    intro mz
    induction mz using Nat.strongRecOn with
    | _ mz ih =>
      intro k h2 f hmz hk hm2 ho hf
      obtain ⟨m0, m1, m2, m3, m4, m5, m6, m7, m8, m9, m10, m11, m12⟩ := id hm2
      refine ev_iload_n dX7_takeRow_11 rfl rfl ?_
      refine ev_aload_n dX7_takeRow_12 rfl rfl ?_
      refine ev_getfield dX7_takeRow_13 lf_7_62 m0 rfl ?_
      refine ev_icmp_geN 37 dX7_takeRow_16 rfl (by omega) (by omega) (fun hc16 => ?_) (fun hc16 => ?_)
      · refine ev_return dX7_takeRow_37 rfl (Or.inl rfl) (Nat.zero_le _) (Nat.zero_le _) ?_
        have e : gz (7 + t) = k := (by omega)
        exact ⟨none, rfl, rfl, ⟨f, hm2, by rw [e]; exact hf⟩, ho⟩
      · refine ev_aload_n dX7_takeRow_19 rfl rfl ?_
        refine ev_getfield dX7_takeRow_20 lf_7_26 m0 rfl ?_
        refine ev_iload_n dX7_takeRow_23 rfl rfl ?_
        refine ev_aload_n dX7_takeRow_24 rfl rfl ?_
        refine ev_iload_n dX7_takeRow_25 rfl rfl ?_
        refine ev_iload_n dX7_takeRow_26 rfl rfl ?_
        refine ev_callVP2 dX7_takeRow_27 cal_X7_valueAt lk_7_65 ⟨(Nat.le_of_ble_eq_true rfl), (Nat.le_of_ble_eq_true rfl)⟩ rfl m0 (Nat.le_of_ble_eq_true rfl) (k_valueAt hm2 t k ht (by omega)) ?_
        refine em_iRw dX7_takeRow_30 hm2 (by omega) (fun h30 hm30 o30 => ?_)
        have ho := ho.tr o30
        obtain ⟨m0, m1, m2, m3, m4, m5, m6, m7, m8, m9, m10, m11, m12⟩ := id hm30
        refine ev_iincN (L' := [_, _, _]) 1 dX7_takeRow_31 rfl rfl ?_
        refine ev_goto 11 dX7_takeRow_34 rfl ?_
        refine ev_pc (pc' := 11) rfl ?_
        refine ih _ (by omega) (k + 1) _ (upN f k (gz (11 + 40 * t + k))) rfl (by omega) hm30 ho (fun j hj => ?_)
        by_cases e : j = k
        · rw [e, upN_s]
        · rw [upN_n e]; exact hf j (by omega)
  exact LP11 _ 0 _ gr rfl (Nat.zero_le _) hm6 ho (fun j hj => absurd hj (Nat.not_lt_zero j))
set_option maxHeartbeats 4000000 in
set_option maxRecDepth 100000 in
theorem k_sumAt {X : mX} {h : mH} {gz : Nat → Nat} {gc : Nat → Int64} {gs : Nat} {gh : Nat → Nat} {gk : Nat → Int64} {gl : Nat} {gb : Nat → Nat} {gt : Nat} {gr : Nat → Nat} {gm : Nat} {gp : Nat → Int64} {gq : Nat → Nat} {ge : Nat → Nat} {gn : Nat} {go : Nat → Nat} {gu : Nat} {gi : Bool} {ga : Nat → Int64} {gv : Nat → Nat} {gw : Nat} {gx : Int64} (hm : MN h gz gc gs gh gk gl gb gt gr gm gp gq ge gn go gu gi ga gv gw gx) (j : Nat) (hj : j < 80) (h6 : gz 0 ≤ 6) (hs : ∀ i, i ≤ j → gr i ≤ 8) : CnP X m_X7_sumAt [.ref 270, .int (nI j)] h (some (.int (nI (sumN (gr) (gz 0) j)))) := by
  obtain ⟨m0, m1, m2, m3, m4, m5, m6, m7, m8, m9, m10, m11, m12⟩ := id hm
  refine cn_of_ev (L0 := [_, _, _, _]) (by decide +kernel) rfl rfl (Nat.le_of_ble_eq_true rfl) rfl ?_
  refine ev_iconst (nI 0) dX7_sumAt_0 rfl ?_
  refine ev_istore_n (L' := [_, _, _, _]) dX7_sumAt_1 rfl (Nat.le_of_ble_eq_true rfl) rfl ?_
  refine ev_iconst (nI 0) dX7_sumAt_2 rfl ?_
  refine ev_istore_n (L' := [_, _, _, _]) dX7_sumAt_3 rfl (Nat.le_of_ble_eq_true rfl) rfl ?_
  refine ev_pc (pc' := 4) rfl ?_
  have LP4 : ∀ (mz : Nat) (k : Nat), gz 0 - k = mz → (k ≤ min (gz 0) (j + 1)) → Ev X m_X7_sumAt B0 4 [.ref 270, .int (nI j), .int (nI (smN (fun b => gr (j - b) * (b + 1)) k)), .int (nI k)] [] h (fun o h1 => o = .inl (some (.int (nI (sumN (gr) (gz 0) j)))) ∧ h1 = h) := by
    intro mz
    induction mz using Nat.strongRecOn with
    | _ mz ih =>
      intro k hmz hk
      refine ev_iload_n dX7_sumAt_4 rfl rfl ?_
      refine ev_aload_n dX7_sumAt_5 rfl rfl ?_
      refine ev_getfield dX7_sumAt_6 lf_7_7 m0 rfl ?_
      refine ev_iconst (nI 0) dX7_sumAt_9 rfl ?_
      refine ev_ialoadF dX7_sumAt_10 m1 (by omega) (by decide) ?_
      refine ev_icmp_geN 40 dX7_sumAt_11 rfl (by omega) (by omega) (fun hc11 => ?_) (fun hc11 => ?_)
      · refine ev_iload_n dX7_sumAt_40 rfl rfl ?_
        refine ev_ireturn dX7_sumAt_41 rfl (Or.inl rfl) (Nat.zero_le _) (Nat.zero_le _) ?_
        rw [sumN, show min (gz 0) (j + 1) = k by omega]; exact ⟨rfl, rfl⟩
      · refine ev_iload_n dX7_sumAt_14 rfl rfl ?_
        refine ev_iload_n dX7_sumAt_15 rfl rfl ?_
        refine ev_icmp_gtN 40 dX7_sumAt_16 rfl (by omega) (by omega) (fun hc16 => ?_) (fun hc16 => ?_)
        · refine ev_iload_n dX7_sumAt_40 rfl rfl ?_
          refine ev_ireturn dX7_sumAt_41 rfl (Or.inl rfl) (Nat.zero_le _) (Nat.zero_le _) ?_
          rw [sumN, show min (gz 0) (j + 1) = k by omega]; exact ⟨rfl, rfl⟩
        · refine ev_iload_n dX7_sumAt_19 rfl rfl ?_
          refine ev_iload_n dX7_sumAt_20 rfl rfl ?_
          refine ev_iconst (nI 1) dX7_sumAt_21 rfl ?_
          refine ev_iaddN dX7_sumAt_22 ?_
          refine ev_aload_n dX7_sumAt_23 rfl rfl ?_
          refine ev_getfield dX7_sumAt_24 lf_7_26 m0 rfl ?_
          refine ev_iload_n dX7_sumAt_27 rfl rfl ?_
          refine ev_iload_n dX7_sumAt_28 rfl rfl ?_
          refine ev_isubN dX7_sumAt_29 (by omega) ?_
          refine ev_ialoadF dX7_sumAt_30 m6 (by omega) (by decide) ?_
          refine ev_imulN dX7_sumAt_31 ?_
          rw [Nat.mul_comm]
          refine ev_iaddN dX7_sumAt_32 ?_
          refine ev_istore_n (L' := [_, _, _, _]) dX7_sumAt_33 rfl (Nat.le_of_ble_eq_true rfl) rfl ?_
          refine ev_iincN (L' := [_, _, _, _]) 1 dX7_sumAt_34 rfl rfl ?_
          refine ev_goto 4 dX7_sumAt_37 rfl ?_
          refine ev_pc (pc' := 4) rfl ?_
          exact ih _ (by omega) (k + 1) rfl (by omega)
  exact LP4 _ 0 rfl (Nat.zero_le _)
