theorem k_isTextB {X : mX} {h : mH} {t : Int32} {b : Bool} (ht : inX t 0 4 = b) : CnP X m_X7_isText [.int t] h (some (.int (bI b))) := by
  rw [← ht]; exact k_isText t
theorem k_isSetB {X : mX} {h : mH} {t : Int32} {b : Bool} (ht : inX t 0 5 = b) : CnP X m_X7_isSetting [.int t] h (some (.int (bI b))) := by
  rw [← ht]; exact k_isSetting t
theorem k_isValB {X : mX} {h : mH} {k : Nat} {t : Int32} {b : Bool} (hk : k < 5) (ht : inX t (lowF k) (higF k + 1) = b) : CnP X m_X7_isValue [.int (nI k), .int t] h (some (.int (bI b))) := by
  rw [← ht]; exact k_isValue k hk t
theorem k_wB {X : mX} {h : mH} {t : Int32} {a c : Nat} {b : Bool} (ht : inX t a (c + 1) = b) (ha : a < 2 ^ 31) (hc : c < 2 ^ 31) : CnP X m_X7_within [.int t, .int (nI a), .int (nI c)] h (some (.int (bI b))) := by
  rw [← ht, ← wth_inX ha hc]; exact k_within t _ _
theorem inY {k a b : Nat} (hk : k < 2 ^ 31) (h1 : a ≤ k) (h2 : k < b) : inX (nI k) a b = true := (inX_nI hk).mpr ⟨h1, h2⟩
theorem k_isPlaceB {X : mX} {h : mH} {gz : Nat → Nat} {gc : Nat → Int64} {gs : Nat} {gh : Nat → Nat} {gk : Nat → Int64} {gl : Nat} {gb : Nat → Nat} {gt : Nat} {gr : Nat → Nat} {gm : Nat} {gp : Nat → Int64} {gq : Nat → Nat} {ge : Nat → Nat} {gn : Nat} {go : Nat → Nat} {gu : Nat} {gi : Bool} {ga : Nat → Int64} {gv : Nat → Nat} {gw : Nat} {gx : Int64} (hm : MN h gz gc gs gh gk gl gb gt gr gm gp gq ge gn go gu gi ga gv gw gx) {t u : Int32} {b : Bool} (h30 : ∀ k, k < 4 → gz (7 + k) < 2 ^ 30) (hb : (inX t 0 4 && inX u 0 (gz (7 + t.toInt.toNat))) = b) : CnP X m_X7_isPlace [.ref 270, .int t, .int u] h (some (.int (bI b))) := by
  rw [← hb]; exact k_isPlace hm t u h30
theorem pl_no {t u : Int32} {n : Nat} (ht : inX t 0 4 = false) : (inX t 0 4 && inX u 0 n) = false := by rw [ht]; rfl
theorem pl_k {gz : Nat → Nat} {t : Nat} {u : Int32} {b : Bool} (ht : t < 4) (hu : inX u 0 (gz (7 + t)) = b) : (inX (nI t) 0 4 && inX u 0 (gz (7 + (nI t).toInt.toNat))) = b := by
  rw [inY (by omega) (Nat.zero_le _) ht, Bool.true_and, nI_toInt (by omega)]
  exact hu
theorem Tile.sum {gz r : Nat → Nat} {gc : Nat → Int64} {T : mSt} (hr : RelT gz gc T) {t u : Nat} (hr2 : ∀ j, j ≤ u → r j = kS (tC T t) j) : sumN r (gz 0) u = sumN (kS (tC T t)) (tV T 0) u := by
  rw [hr.1 0 (by decide)]
  exact sumN_congr hr2
set_option maxHeartbeats 4000000 in
set_option maxRecDepth 100000 in
theorem k_signNow {X : mX} {h : mH} {gz : Nat → Nat} {gc : Nat → Int64} {gs : Nat} {gh : Nat → Nat} {gk : Nat → Int64} {gl : Nat} {gb : Nat → Nat} {gt : Nat} {gr : Nat → Nat} {gm : Nat} {gp : Nat → Int64} {gq : Nat → Nat} {ge : Nat → Nat} {gn : Nat} {go : Nat → Nat} {gu : Nat} {gi : Bool} {ga : Nat → Int64} {gv : Nat → Nat} {gw : Nat} {gx : Int64} (hm : MN h gz gc gs gh gk gl gb gt gr gm gp gq ge gn go gu gi ga gv gw gx) {T : mSt} (hr : RelT gz gc T) (hT : InvT T) (t u w : Nat) (ht : t < 4) (hu : u < gz (7 + t)) (hw : w < 4) : CnU X m_X7_signNow [.ref 270, .int (nI t), .int (nI u), .int (nI w)] h (fun v h1 => v = some (.int (nI (sgnV T t u w))) ∧ MS h1 gz gc gs gh gk gl gb gt gx ∧ Out h h1 270 13) := by
  obtain ⟨m0, m1, m2, m3, m4, m5, m6, m7, m8, m9, m10, m11, m12⟩ := id hm
  have ho : Out h h 270 13 := Out.rf
  have hkp := hr.2.1.kp
  have hxs : ∀ t, t < 4 → TxB gz t := fun t ht => hr.tx hT ht
  have hb0 : ∀ k, k < 60 → gz (551 + k) ≤ 1000 := fun k hk => Nat.le_trans (hr.2.1.ow hT.B hk) (by decide)
  have hx := hxs t ht
  have hX := hr.2.2 t ht
  have hK := hT.2.1 t ht
  have h40 := hK.1
  have hn40 := hK.n40
  have h7 := hX.1
  obtain ⟨p, i, hp, hi, eu⟩ := hK.pl (j := u) (by omega)
  have he := hK.en hp
  obtain ⟨-, hla, hlb, hlc⟩ := hX.2.2 p hp i hi
  rw [← eu] at hla hlb hlc
  have h06 : gz 0 ≤ 6 := by rw [hr.1 0 (by decide)]; exact hT.1.1.2
  have hpa := pcAt_is hK hp hi
  have hpp := rel_pcp hX hK hp hi
  rw [← eu] at hpa hpp
  refine cn_of_ev (L0 := [_, _, _, _]) (by decide +kernel) rfl rfl (Nat.le_of_ble_eq_true rfl) rfl ?_
  refine ev_aload_n dX7_signNow_0 rfl rfl ?_
  refine ev_iload_n dX7_signNow_1 rfl rfl ?_
  refine ev_callVU1 dX7_signNow_2 cal_X7_takeRow lk_7_175 ⟨(Nat.le_of_ble_eq_true rfl), (Nat.le_of_ble_eq_true rfl)⟩ rfl m0 (Nat.le_of_ble_eq_true rfl) (k_takeRow hm t ht (by omega)) (fun v h2 hq2 => ?_)
  refine ev_pc (pc' := 5) rfl ?_
  obtain ⟨rfl, ⟨f, hm2, hf⟩, o2⟩ := hq2
  have ho := ho.tr o2
  obtain ⟨m0, m1, m2, m3, m4, m5, m6, m7, m8, m9, m10, m11, m12⟩ := id hm2
  have hf2 : ∀ j, j < gz (7 + t) → f j = kS (tC T t) j := fun j hj => by rw [hf j hj]; exact hX.2.1 j (by omega)
  have hs8 : ∀ j, j < gz (7 + t) → f j ≤ 8 := fun j hj => by rw [hf2 j hj]; exact (hK.2.1 j (by omega)).2
  refine ev_iload_n dX7_signNow_5 rfl rfl ?_
  refine ev_pc (pc' := 6) rfl ?_
  obtain rfl | rfl | rfl | rfl : w = 0 ∨ w = 1 ∨ w = 2 ∨ w = 3 := by omega
  · refine ev_tableIn 32 dX7_signNow_6 (by decide) (by decide) rfl rfl ?_
    refine ev_aload_n dX7_signNow_32 rfl rfl ?_
    refine ev_getfield dX7_signNow_33 lf_7_26 m0 rfl ?_
    refine ev_iload_n dX7_signNow_36 rfl rfl ?_
    refine ev_ialoadF dX7_signNow_37 m6 (by omega) (by decide) ?_
    rw [hf2 u hu]
    refine ev_ireturn dX7_signNow_38 rfl (Or.inl rfl) (Nat.zero_le _) (Nat.zero_le _) ?_
    exact ⟨_, rfl, rfl, hm2.ms, ho⟩
  · refine ev_tableIn 39 dX7_signNow_6 (by decide) (by decide) rfl rfl ?_
    refine ev_aload_n dX7_signNow_39 rfl rfl ?_
    refine ev_iload_n dX7_signNow_40 rfl rfl ?_
    refine ev_callVP1 dX7_signNow_41 cal_X7_sumAt lk_7_69 ⟨(Nat.le_of_ble_eq_true rfl), (Nat.le_of_ble_eq_true rfl)⟩ rfl m0 (Nat.le_of_ble_eq_true rfl) (k_sumAt hm2 u (by omega) h06 (fun j hj => hs8 j (by omega))) ?_
    refine ev_ireturn dX7_signNow_44 rfl (Or.inl rfl) (Nat.zero_le _) (Nat.zero_le _) ?_
    rw [Tile.sum hr (fun j hj => hf2 j (by omega))]
    exact ⟨_, rfl, rfl, hm2.ms, ho⟩
  · refine ev_tableIn 45 dX7_signNow_6 (by decide) (by decide) rfl rfl ?_
    refine ev_aload_n dX7_signNow_45 rfl rfl ?_
    refine ev_iload_n dX7_signNow_46 rfl rfl ?_
    refine ev_iload_n dX7_signNow_47 rfl rfl ?_
    refine ev_callVP2 dX7_signNow_48 cal_X7_piecesUpTo lk_7_194 ⟨(Nat.le_of_ble_eq_true rfl), (Nat.le_of_ble_eq_true rfl)⟩ rfl m0 (Nat.le_of_ble_eq_true rfl) (k_piecesUpTo hm2 t ht hx u (by omega)) ?_
    refine ev_ireturn dX7_signNow_51 rfl (Or.inl rfl) (Nat.zero_le _) (Nat.zero_le _) ?_
    rw [show sgnV T t u 2 = pcuM gz t u from hpa.trans hpp.symm]
    exact ⟨_, rfl, rfl, hm2.ms, ho⟩
  · refine ev_tableOut 52 dX7_signNow_6 (Or.inr (by decide)) rfl ?_
    refine ev_aload_n dX7_signNow_52 rfl rfl ?_
    refine ev_iload_n dX7_signNow_53 rfl rfl ?_
    refine ev_iload_n dX7_signNow_54 rfl rfl ?_
    refine ev_callVP2 dX7_signNow_55 cal_X7_markAt lk_7_92 ⟨(Nat.le_of_ble_eq_true rfl), (Nat.le_of_ble_eq_true rfl)⟩ rfl m0 (Nat.le_of_ble_eq_true rfl) (k_markAt hm2 t u ht (by omega)) ?_
    refine ev_if_neN 65 dX7_signNow_58 rfl (by omega) (fun hc58 => ?_) (fun hc58 => ?_)
    · refine ev_iconst (nI 1) dX7_signNow_65 rfl ?_
      refine ev_ireturn dX7_signNow_66 rfl (Or.inl rfl) (Nat.zero_le _) (Nat.zero_le _) ?_
      first
        | (rw [show sgnV T t u 3 = 1 from congrArg b2n (decide_eq_true (by rw [hpa]; exact ⟨hp, by have := mt hlb.mpr hc58; omega⟩))]
           exact ⟨_, rfl, rfl, hm2.ms, ho⟩)
        | (rw [show sgnV T t u 3 = 0 from congrArg b2n (decide_eq_false (by rw [hpa]; exact fun z => hlb.mp hc58 (by omega)))]
           exact ⟨_, rfl, rfl, hm2.ms, ho⟩)
    · refine ev_iconst (nI 0) dX7_signNow_61 rfl ?_
      refine ev_goto 66 dX7_signNow_62 rfl ?_
      refine ev_ireturn dX7_signNow_66 rfl (Or.inl rfl) (Nat.zero_le _) (Nat.zero_le _) ?_
      first
        | (rw [show sgnV T t u 3 = 1 from congrArg b2n (decide_eq_true (by rw [hpa]; exact ⟨hp, by have := mt hlb.mpr hc58; omega⟩))]
           exact ⟨_, rfl, rfl, hm2.ms, ho⟩)
        | (rw [show sgnV T t u 3 = 0 from congrArg b2n (decide_eq_false (by rw [hpa]; exact fun z => hlb.mp hc58 (by omega)))]
           exact ⟨_, rfl, rfl, hm2.ms, ho⟩)
set_option maxHeartbeats 4000000 in
set_option maxRecDepth 100000 in
theorem k_sign1 {X : mX} {h : mH} {gz : Nat → Nat} {gc : Nat → Int64} {gs : Nat} {gh : Nat → Nat} {gk : Nat → Int64} {gl : Nat} {gb : Nat → Nat} {gt : Nat} {gr : Nat → Nat} {gm : Nat} {gp : Nat → Int64} {gq : Nat → Nat} {ge : Nat → Nat} {gn : Nat} {go : Nat → Nat} {gu : Nat} {gi : Bool} {ga : Nat → Int64} {gv : Nat → Nat} {gw : Nat} {gx : Int64} (hm : MN h gz gc gs gh gk gl gb gt gr gm gp gq ge gn go gu gi ga gv gw gx) {T : mSt} (hr : RelT gz gc T) (hT : InvT T) (t u w : Int32) (hb : (inX t 0 4 && inX u 0 (gz (7 + t.toInt.toNat))) = false) : CnU X m_X7_sign [.ref 270, .int t, .int u, .int w] h (fun v h1 => v = some (.int (nI 0)) ∧ MS h1 gz gc gs gh gk gl gb 1 gx ∧ Out h h1 270 13) := by
  obtain ⟨m0, m1, m2, m3, m4, m5, m6, m7, m8, m9, m10, m11, m12⟩ := id hm
  have ho : Out h h 270 13 := Out.rf
  have h30 : ∀ k, k < 4 → gz (7 + k) < 2 ^ 30 := fun k hk => by
    have := (hr.tx hT hk).1
    omega
  refine cn_of_ev (L0 := [_, _, _, _]) (by decide +kernel) rfl rfl (Nat.le_of_ble_eq_true rfl) rfl ?_
  refine ev_aload_n dX7_sign_0 rfl rfl ?_
  refine ev_aload_n dX7_sign_1 rfl rfl ?_
  refine ev_iload_n dX7_sign_2 rfl rfl ?_
  refine ev_iload_n dX7_sign_3 rfl rfl ?_
  refine ev_callVP2 dX7_sign_4 cal_X7_isPlace lk_7_182 ⟨(Nat.le_of_ble_eq_true rfl), (Nat.le_of_ble_eq_true rfl)⟩ rfl m0 (Nat.le_of_ble_eq_true rfl) (k_isPlaceB hm h30 hb) ?_
  refine ev_if_neB 14 dX7_sign_7 rfl (fun hc7 => ?_) (fun hc7 => ?_)
  · first | omega | exact absurd hc7 (by decide)
  · refine ev_iconst (nI 1) dX7_sign_10 rfl ?_
    refine ev_goto 28 dX7_sign_11 rfl ?_
    refine em_pTh dX7_sign_28 lf_7_47 hm (fun h28 hm28 o28 => ?_)
    have ho := ho.tr o28
    obtain ⟨m0, m1, m2, m3, m4, m5, m6, m7, m8, m9, m10, m11, m12⟩ := id hm28
    refine ev_aload_n dX7_sign_31 rfl rfl ?_
    refine ev_getfield dX7_sign_32 lf_7_47 m0 rfl ?_
    refine ev_if_leN 42 dX7_sign_35 rfl (by omega) (fun hc35 => ?_) (fun hc35 => ?_)
    · first | omega | exact absurd hc35 (by decide)
    · refine ev_iconst (nI 0) dX7_sign_38 rfl ?_
      refine ev_goto 49 dX7_sign_39 rfl ?_
      refine ev_ireturn dX7_sign_49 rfl (Or.inl rfl) (Nat.zero_le _) (Nat.zero_le _) ?_
      exact ⟨_, rfl, rfl, hm28.ms, ho⟩
set_option maxHeartbeats 4000000 in
set_option maxRecDepth 100000 in
theorem k_sign2 {X : mX} {h : mH} {gz : Nat → Nat} {gc : Nat → Int64} {gs : Nat} {gh : Nat → Nat} {gk : Nat → Int64} {gl : Nat} {gb : Nat → Nat} {gt : Nat} {gr : Nat → Nat} {gm : Nat} {gp : Nat → Int64} {gq : Nat → Nat} {ge : Nat → Nat} {gn : Nat} {go : Nat → Nat} {gu : Nat} {gi : Bool} {ga : Nat → Int64} {gv : Nat → Nat} {gw : Nat} {gx : Int64} (hm : MN h gz gc gs gh gk gl gb gt gr gm gp gq ge gn go gu gi ga gv gw gx) {T : mSt} (hr : RelT gz gc T) (hT : InvT T) (t u : Nat) (w : Int32) (ht : t < 4) (hu : u < gz (7 + t)) (hw : inX w 0 4 = false) : CnU X m_X7_sign [.ref 270, .int (nI t), .int (nI u), .int w] h (fun v h1 => v = some (.int (nI 0)) ∧ MS h1 gz gc gs gh gk gl gb 2 gx ∧ Out h h1 270 13) := by
  obtain ⟨m0, m1, m2, m3, m4, m5, m6, m7, m8, m9, m10, m11, m12⟩ := id hm
  have ho : Out h h 270 13 := Out.rf
  have h30 : ∀ k, k < 4 → gz (7 + k) < 2 ^ 30 := fun k hk => by
    have := (hr.tx hT hk).1
    omega
  have := h30 t ht
  refine cn_of_ev (L0 := [_, _, _, _]) (by decide +kernel) rfl rfl (Nat.le_of_ble_eq_true rfl) rfl ?_
  refine ev_aload_n dX7_sign_0 rfl rfl ?_
  refine ev_aload_n dX7_sign_1 rfl rfl ?_
  refine ev_iload_n dX7_sign_2 rfl rfl ?_
  refine ev_iload_n dX7_sign_3 rfl rfl ?_
  refine ev_callVP2 dX7_sign_4 cal_X7_isPlace lk_7_182 ⟨(Nat.le_of_ble_eq_true rfl), (Nat.le_of_ble_eq_true rfl)⟩ rfl m0 (Nat.le_of_ble_eq_true rfl) (k_isPlaceB hm h30 (pl_k ht (inY (by omega) (Nat.zero_le _) hu))) ?_
  refine ev_if_neB 14 dX7_sign_7 rfl (fun hc7 => ?_) (fun hc7 => ?_)
  · refine ev_iload_n dX7_sign_14 rfl rfl ?_
    refine ev_iconst (nI 0) dX7_sign_15 rfl ?_
    refine ev_iconst (nI 3) dX7_sign_16 rfl ?_
    refine ev_callSP3 dX7_sign_17 cal_X7_within lk_7_54 ⟨(Nat.le_of_ble_eq_true rfl), (Nat.le_of_ble_eq_true rfl)⟩ rfl (Nat.le_of_ble_eq_true rfl) (k_wB hw (by decide) (by decide)) ?_
    refine ev_if_eqB 27 dX7_sign_20 rfl (fun hc20 => ?_) (fun hc20 => ?_)
    · refine ev_iconst (nI 2) dX7_sign_27 rfl ?_
      refine em_pTh dX7_sign_28 lf_7_47 hm (fun h28 hm28 o28 => ?_)
      have ho := ho.tr o28
      obtain ⟨m0, m1, m2, m3, m4, m5, m6, m7, m8, m9, m10, m11, m12⟩ := id hm28
      refine ev_aload_n dX7_sign_31 rfl rfl ?_
      refine ev_getfield dX7_sign_32 lf_7_47 m0 rfl ?_
      refine ev_if_leN 42 dX7_sign_35 rfl (by omega) (fun hc35 => ?_) (fun hc35 => ?_)
      · first | omega | exact absurd hc35 (by decide)
      · refine ev_iconst (nI 0) dX7_sign_38 rfl ?_
        refine ev_goto 49 dX7_sign_39 rfl ?_
        refine ev_ireturn dX7_sign_49 rfl (Or.inl rfl) (Nat.zero_le _) (Nat.zero_le _) ?_
        exact ⟨_, rfl, rfl, hm28.ms, ho⟩
    · first | omega | exact absurd hc20 (by decide)
  · first | omega | exact absurd hc7 (by decide)
set_option maxHeartbeats 4000000 in
set_option maxRecDepth 100000 in
theorem k_sign {X : mX} {h : mH} {gz : Nat → Nat} {gc : Nat → Int64} {gs : Nat} {gh : Nat → Nat} {gk : Nat → Int64} {gl : Nat} {gb : Nat → Nat} {gt : Nat} {gr : Nat → Nat} {gm : Nat} {gp : Nat → Int64} {gq : Nat → Nat} {ge : Nat → Nat} {gn : Nat} {go : Nat → Nat} {gu : Nat} {gi : Bool} {ga : Nat → Int64} {gv : Nat → Nat} {gw : Nat} {gx : Int64} (hm : MN h gz gc gs gh gk gl gb gt gr gm gp gq ge gn go gu gi ga gv gw gx) {T : mSt} (hr : RelT gz gc T) (hT : InvT T) (t u w : Nat) (ht : t < 4) (hu : u < gz (7 + t)) (hw : w < 4) : CnU X m_X7_sign [.ref 270, .int (nI t), .int (nI u), .int (nI w)] h (fun v h1 => v = some (.int (nI (sgnV T t u w))) ∧ MS h1 gz gc gs gh gk gl gb 0 gx ∧ Out h h1 270 13) := by
  obtain ⟨m0, m1, m2, m3, m4, m5, m6, m7, m8, m9, m10, m11, m12⟩ := id hm
  have ho : Out h h 270 13 := Out.rf
  have h30 : ∀ k, k < 4 → gz (7 + k) < 2 ^ 30 := fun k hk => by
    have := (hr.tx hT hk).1
    omega
  have := h30 t ht
  refine cn_of_ev (L0 := [_, _, _, _]) (by decide +kernel) rfl rfl (Nat.le_of_ble_eq_true rfl) rfl ?_
  refine ev_aload_n dX7_sign_0 rfl rfl ?_
  refine ev_aload_n dX7_sign_1 rfl rfl ?_
  refine ev_iload_n dX7_sign_2 rfl rfl ?_
  refine ev_iload_n dX7_sign_3 rfl rfl ?_
  refine ev_callVP2 dX7_sign_4 cal_X7_isPlace lk_7_182 ⟨(Nat.le_of_ble_eq_true rfl), (Nat.le_of_ble_eq_true rfl)⟩ rfl m0 (Nat.le_of_ble_eq_true rfl) (k_isPlaceB hm h30 (pl_k ht (inY (by omega) (Nat.zero_le _) hu))) ?_
  refine ev_if_neB 14 dX7_sign_7 rfl (fun hc7 => ?_) (fun hc7 => ?_)
  · refine ev_iload_n dX7_sign_14 rfl rfl ?_
    refine ev_iconst (nI 0) dX7_sign_15 rfl ?_
    refine ev_iconst (nI 3) dX7_sign_16 rfl ?_
    refine ev_callSP3 dX7_sign_17 cal_X7_within lk_7_54 ⟨(Nat.le_of_ble_eq_true rfl), (Nat.le_of_ble_eq_true rfl)⟩ rfl (Nat.le_of_ble_eq_true rfl) (k_wB (inY (by omega) (Nat.zero_le _) hw) (by decide) (by decide)) ?_
    refine ev_if_eqB 27 dX7_sign_20 rfl (fun hc20 => ?_) (fun hc20 => ?_)
    · first | omega | exact absurd hc20 (by decide)
    · refine ev_iconst (nI 0) dX7_sign_23 rfl ?_
      refine ev_goto 28 dX7_sign_24 rfl ?_
      refine em_pTh dX7_sign_28 lf_7_47 hm (fun h28 hm28 o28 => ?_)
      have ho := ho.tr o28
      obtain ⟨m0, m1, m2, m3, m4, m5, m6, m7, m8, m9, m10, m11, m12⟩ := id hm28
      refine ev_aload_n dX7_sign_31 rfl rfl ?_
      refine ev_getfield dX7_sign_32 lf_7_47 m0 rfl ?_
      refine ev_if_leN 42 dX7_sign_35 rfl (by omega) (fun hc35 => ?_) (fun hc35 => ?_)
      · refine ev_aload_n dX7_sign_42 rfl rfl ?_
        refine ev_iload_n dX7_sign_43 rfl rfl ?_
        refine ev_iload_n dX7_sign_44 rfl rfl ?_
        refine ev_iload_n dX7_sign_45 rfl rfl ?_
        refine ev_callVU3 dX7_sign_46 cal_X7_signNow lk_7_197 ⟨(Nat.le_of_ble_eq_true rfl), (Nat.le_of_ble_eq_true rfl)⟩ rfl m0 (Nat.le_of_ble_eq_true rfl) (k_signNow hm28 hr hT t u w ht hu hw) (fun v h46 hq46 => ?_)
        refine ev_pc (pc' := 49) rfl ?_
        obtain ⟨rfl, hs46, o46⟩ := hq46
        have ho := ho.tr o46
        refine ev_ireturn dX7_sign_49 rfl (Or.inl rfl) (Nat.zero_le _) (Nat.zero_le _) ?_
        exact ⟨_, rfl, rfl, hs46, ho⟩
      · first | omega | exact absurd hc35 (by decide)
  · first | omega | exact absurd hc7 (by decide)
set_option maxHeartbeats 4000000 in
set_option maxRecDepth 100000 in
theorem k_piece1 {X : mX} {h : mH} {gz : Nat → Nat} {gc : Nat → Int64} {gs : Nat} {gh : Nat → Nat} {gk : Nat → Int64} {gl : Nat} {gb : Nat → Nat} {gt : Nat} {gr : Nat → Nat} {gm : Nat} {gp : Nat → Int64} {gq : Nat → Nat} {ge : Nat → Nat} {gn : Nat} {go : Nat → Nat} {gu : Nat} {gi : Bool} {ga : Nat → Int64} {gv : Nat → Nat} {gw : Nat} {gx : Int64} (hm : MN h gz gc gs gh gk gl gb gt gr gm gp gq ge gn go gu gi ga gv gw gx) (t u w : Int32) (ht : inX t 0 4 = false) : CnU X m_X7_piece [.ref 270, .int t, .int u, .int w] h (fun v h1 => v = some (.int (nI 0)) ∧ MS h1 gz gc gs gh gk gl gb 1 gx ∧ Out h h1 270 13) := by
  obtain ⟨m0, m1, m2, m3, m4, m5, m6, m7, m8, m9, m10, m11, m12⟩ := id hm
  have ho : Out h h 270 13 := Out.rf
  refine cn_of_ev (L0 := [_, _, _, _]) (by decide +kernel) rfl rfl (Nat.le_of_ble_eq_true rfl) rfl ?_
  refine ev_aload_n dX7_piece_0 rfl rfl ?_
  refine ev_iload_n dX7_piece_1 rfl rfl ?_
  refine ev_callSP1 dX7_piece_2 cal_X7_isText lk_7_157 ⟨(Nat.le_of_ble_eq_true rfl), (Nat.le_of_ble_eq_true rfl)⟩ rfl (Nat.le_of_ble_eq_true rfl) (k_isTextB ht) ?_
  refine ev_if_neB 12 dX7_piece_5 rfl (fun hc5 => ?_) (fun hc5 => ?_)
  · first | omega | exact absurd hc5 (by decide)
  · refine ev_iconst (nI 1) dX7_piece_8 rfl ?_
    refine ev_goto 30 dX7_piece_9 rfl ?_
    refine em_pTh dX7_piece_30 lf_7_47 hm (fun h30 hm30 o30 => ?_)
    have ho := ho.tr o30
    obtain ⟨m0, m1, m2, m3, m4, m5, m6, m7, m8, m9, m10, m11, m12⟩ := id hm30
    refine ev_aload_n dX7_piece_33 rfl rfl ?_
    refine ev_getfield dX7_piece_34 lf_7_47 m0 rfl ?_
    refine ev_if_leN 44 dX7_piece_37 rfl (by omega) (fun hc37 => ?_) (fun hc37 => ?_)
    · first | omega | exact absurd hc37 (by decide)
    · refine ev_iconst (nI 0) dX7_piece_40 rfl ?_
      refine ev_goto 51 dX7_piece_41 rfl ?_
      refine ev_ireturn dX7_piece_51 rfl (Or.inl rfl) (Nat.zero_le _) (Nat.zero_le _) ?_
      exact ⟨_, rfl, rfl, hm30.ms, ho⟩
set_option maxHeartbeats 4000000 in
set_option maxRecDepth 100000 in
theorem k_piece2 {X : mX} {h : mH} {gz : Nat → Nat} {gc : Nat → Int64} {gs : Nat} {gh : Nat → Nat} {gk : Nat → Int64} {gl : Nat} {gb : Nat → Nat} {gt : Nat} {gr : Nat → Nat} {gm : Nat} {gp : Nat → Int64} {gq : Nat → Nat} {ge : Nat → Nat} {gn : Nat} {go : Nat → Nat} {gu : Nat} {gi : Bool} {ga : Nat → Int64} {gv : Nat → Nat} {gw : Nat} {gx : Int64} (hm : MN h gz gc gs gh gk gl gb gt gr gm gp gq ge gn go gu gi ga gv gw gx) (t : Nat) (u w : Int32) (ht : t < 4) (hu : u < 0) : CnU X m_X7_piece [.ref 270, .int (nI t), .int u, .int w] h (fun v h1 => v = some (.int (nI 0)) ∧ MS h1 gz gc gs gh gk gl gb 2 gx ∧ Out h h1 270 13) := by
  obtain ⟨m0, m1, m2, m3, m4, m5, m6, m7, m8, m9, m10, m11, m12⟩ := id hm
  have ho : Out h h 270 13 := Out.rf
  refine cn_of_ev (L0 := [_, _, _, _]) (by decide +kernel) rfl rfl (Nat.le_of_ble_eq_true rfl) rfl ?_
  refine ev_aload_n dX7_piece_0 rfl rfl ?_
  refine ev_iload_n dX7_piece_1 rfl rfl ?_
  refine ev_callSP1 dX7_piece_2 cal_X7_isText lk_7_157 ⟨(Nat.le_of_ble_eq_true rfl), (Nat.le_of_ble_eq_true rfl)⟩ rfl (Nat.le_of_ble_eq_true rfl) (k_isTextB (inY (by omega) (Nat.zero_le _) ht)) ?_
  refine ev_if_neB 12 dX7_piece_5 rfl (fun hc5 => ?_) (fun hc5 => ?_)
  · refine ev_iload_n dX7_piece_12 rfl rfl ?_
    refine ev_if_lt 29 dX7_piece_13 rfl (fun hc13 => ?_) (fun hc13 => ?_)
    · refine ev_iconst (nI 2) dX7_piece_29 rfl ?_
      refine em_pTh dX7_piece_30 lf_7_47 hm (fun h30 hm30 o30 => ?_)
      have ho := ho.tr o30
      obtain ⟨m0, m1, m2, m3, m4, m5, m6, m7, m8, m9, m10, m11, m12⟩ := id hm30
      refine ev_aload_n dX7_piece_33 rfl rfl ?_
      refine ev_getfield dX7_piece_34 lf_7_47 m0 rfl ?_
      refine ev_if_leN 44 dX7_piece_37 rfl (by omega) (fun hc37 => ?_) (fun hc37 => ?_)
      · first | omega | exact absurd hc37 (by decide)
      · refine ev_iconst (nI 0) dX7_piece_40 rfl ?_
        refine ev_goto 51 dX7_piece_41 rfl ?_
        refine ev_ireturn dX7_piece_51 rfl (Or.inl rfl) (Nat.zero_le _) (Nat.zero_le _) ?_
        exact ⟨_, rfl, rfl, hm30.ms, ho⟩
    · refine ev_pc (pc' := 16) rfl ?_
      exact absurd hu hc13
  · first | omega | exact absurd hc5 (by decide)
set_option maxHeartbeats 4000000 in
set_option maxRecDepth 100000 in
theorem k_piece3 {X : mX} {h : mH} {gz : Nat → Nat} {gc : Nat → Int64} {gs : Nat} {gh : Nat → Nat} {gk : Nat → Int64} {gl : Nat} {gb : Nat → Nat} {gt : Nat} {gr : Nat → Nat} {gm : Nat} {gp : Nat → Int64} {gq : Nat → Nat} {ge : Nat → Nat} {gn : Nat} {go : Nat → Nat} {gu : Nat} {gi : Bool} {ga : Nat → Int64} {gv : Nat → Nat} {gw : Nat} {gx : Int64} (hm : MN h gz gc gs gh gk gl gb gt gr gm gp gq ge gn go gu gi ga gv gw gx) (t u : Nat) (w : Int32) (ht : t < 4) (hu : u < 2 ^ 31) (hw : inX w 0 5 = false) : CnU X m_X7_piece [.ref 270, .int (nI t), .int (nI u), .int w] h (fun v h1 => v = some (.int (nI 0)) ∧ MS h1 gz gc gs gh gk gl gb 2 gx ∧ Out h h1 270 13) := by
  obtain ⟨m0, m1, m2, m3, m4, m5, m6, m7, m8, m9, m10, m11, m12⟩ := id hm
  have ho : Out h h 270 13 := Out.rf
  refine cn_of_ev (L0 := [_, _, _, _]) (by decide +kernel) rfl rfl (Nat.le_of_ble_eq_true rfl) rfl ?_
  refine ev_aload_n dX7_piece_0 rfl rfl ?_
  refine ev_iload_n dX7_piece_1 rfl rfl ?_
  refine ev_callSP1 dX7_piece_2 cal_X7_isText lk_7_157 ⟨(Nat.le_of_ble_eq_true rfl), (Nat.le_of_ble_eq_true rfl)⟩ rfl (Nat.le_of_ble_eq_true rfl) (k_isTextB (inY (by omega) (Nat.zero_le _) ht)) ?_
  refine ev_if_neB 12 dX7_piece_5 rfl (fun hc5 => ?_) (fun hc5 => ?_)
  · refine ev_iload_n dX7_piece_12 rfl rfl ?_
    refine ev_if_ltN 29 dX7_piece_13 rfl (by omega) (fun hc13 => ?_) (fun hc13 => ?_)
    · first | omega | exact absurd hc13 (by decide)
    · refine ev_iload_n dX7_piece_16 rfl rfl ?_
      refine ev_iconst (nI 0) dX7_piece_17 rfl ?_
      refine ev_iconst (nI 4) dX7_piece_18 rfl ?_
      refine ev_callSP3 dX7_piece_19 cal_X7_within lk_7_54 ⟨(Nat.le_of_ble_eq_true rfl), (Nat.le_of_ble_eq_true rfl)⟩ rfl (Nat.le_of_ble_eq_true rfl) (k_wB hw (by decide) (by decide)) ?_
      refine ev_if_eqB 29 dX7_piece_22 rfl (fun hc22 => ?_) (fun hc22 => ?_)
      · refine ev_iconst (nI 2) dX7_piece_29 rfl ?_
        refine em_pTh dX7_piece_30 lf_7_47 hm (fun h30 hm30 o30 => ?_)
        have ho := ho.tr o30
        obtain ⟨m0, m1, m2, m3, m4, m5, m6, m7, m8, m9, m10, m11, m12⟩ := id hm30
        refine ev_aload_n dX7_piece_33 rfl rfl ?_
        refine ev_getfield dX7_piece_34 lf_7_47 m0 rfl ?_
        refine ev_if_leN 44 dX7_piece_37 rfl (by omega) (fun hc37 => ?_) (fun hc37 => ?_)
        · first | omega | exact absurd hc37 (by decide)
        · refine ev_iconst (nI 0) dX7_piece_40 rfl ?_
          refine ev_goto 51 dX7_piece_41 rfl ?_
          refine ev_ireturn dX7_piece_51 rfl (Or.inl rfl) (Nat.zero_le _) (Nat.zero_le _) ?_
          exact ⟨_, rfl, rfl, hm30.ms, ho⟩
      · first | omega | exact absurd hc22 (by decide)
  · first | omega | exact absurd hc5 (by decide)
set_option maxHeartbeats 4000000 in
set_option maxRecDepth 100000 in
theorem k_piece {X : mX} {h : mH} {gz : Nat → Nat} {gc : Nat → Int64} {gs : Nat} {gh : Nat → Nat} {gk : Nat → Int64} {gl : Nat} {gb : Nat → Nat} {gt : Nat} {gr : Nat → Nat} {gm : Nat} {gp : Nat → Int64} {gq : Nat → Nat} {ge : Nat → Nat} {gn : Nat} {go : Nat → Nat} {gu : Nat} {gi : Bool} {ga : Nat → Int64} {gv : Nat → Nat} {gw : Nat} {gx : Int64} (hm : MN h gz gc gs gh gk gl gb gt gr gm gp gq ge gn go gu gi ga gv gw gx) {T : mSt} (hr : RelT gz gc T) (hT : InvT T) (t u w : Nat) (ht : t < 4) (hu : u < 2 ^ 31) (hw : w < 5) : CnU X m_X7_piece [.ref 270, .int (nI t), .int (nI u), .int (nI w)] h (fun v h1 => v = some (.int (if u < kN (tC T t) then pceV T t u w else -1)) ∧ MS h1 gz gc gs gh gk gl gb 0 gx ∧ Out h h1 270 13) := by
  obtain ⟨m0, m1, m2, m3, m4, m5, m6, m7, m8, m9, m10, m11, m12⟩ := id hm
  have ho : Out h h 270 13 := Out.rf
  refine cn_of_ev (L0 := [_, _, _, _]) (by decide +kernel) rfl rfl (Nat.le_of_ble_eq_true rfl) rfl ?_
  refine ev_aload_n dX7_piece_0 rfl rfl ?_
  refine ev_iload_n dX7_piece_1 rfl rfl ?_
  refine ev_callSP1 dX7_piece_2 cal_X7_isText lk_7_157 ⟨(Nat.le_of_ble_eq_true rfl), (Nat.le_of_ble_eq_true rfl)⟩ rfl (Nat.le_of_ble_eq_true rfl) (k_isTextB (inY (by omega) (Nat.zero_le _) ht)) ?_
  refine ev_if_neB 12 dX7_piece_5 rfl (fun hc5 => ?_) (fun hc5 => ?_)
  · refine ev_iload_n dX7_piece_12 rfl rfl ?_
    refine ev_if_ltN 29 dX7_piece_13 rfl (by omega) (fun hc13 => ?_) (fun hc13 => ?_)
    · first | omega | exact absurd hc13 (by decide)
    · refine ev_iload_n dX7_piece_16 rfl rfl ?_
      refine ev_iconst (nI 0) dX7_piece_17 rfl ?_
      refine ev_iconst (nI 4) dX7_piece_18 rfl ?_
      refine ev_callSP3 dX7_piece_19 cal_X7_within lk_7_54 ⟨(Nat.le_of_ble_eq_true rfl), (Nat.le_of_ble_eq_true rfl)⟩ rfl (Nat.le_of_ble_eq_true rfl) (k_wB (inY (by omega) (Nat.zero_le _) hw) (by decide) (by decide)) ?_
      refine ev_if_eqB 29 dX7_piece_22 rfl (fun hc22 => ?_) (fun hc22 => ?_)
      · first | omega | exact absurd hc22 (by decide)
      · refine ev_iconst (nI 0) dX7_piece_25 rfl ?_
        refine ev_goto 30 dX7_piece_26 rfl ?_
        refine em_pTh dX7_piece_30 lf_7_47 hm (fun h30 hm30 o30 => ?_)
        have ho := ho.tr o30
        obtain ⟨m0, m1, m2, m3, m4, m5, m6, m7, m8, m9, m10, m11, m12⟩ := id hm30
        refine ev_aload_n dX7_piece_33 rfl rfl ?_
        refine ev_getfield dX7_piece_34 lf_7_47 m0 rfl ?_
        refine ev_if_leN 44 dX7_piece_37 rfl (by omega) (fun hc37 => ?_) (fun hc37 => ?_)
        · refine ev_aload_n dX7_piece_44 rfl rfl ?_
          refine ev_iload_n dX7_piece_45 rfl rfl ?_
          refine ev_iload_n dX7_piece_46 rfl rfl ?_
          refine ev_iload_n dX7_piece_47 rfl rfl ?_
          refine ev_callVP3 dX7_piece_48 cal_X7_pieceNow lk_7_216 ⟨(Nat.le_of_ble_eq_true rfl), (Nat.le_of_ble_eq_true rfl)⟩ rfl m0 (Nat.le_of_ble_eq_true rfl) (k_pieceNow hm30 hr hT t u w ht hu hw) ?_
          refine ev_ireturn dX7_piece_51 rfl (Or.inl rfl) (Nat.zero_le _) (Nat.zero_le _) ?_
          exact ⟨_, rfl, rfl, hm30.ms, ho⟩
        · first | omega | exact absurd hc37 (by decide)
  · first | omega | exact absurd hc5 (by decide)
set_option maxHeartbeats 4000000 in
set_option maxRecDepth 100000 in
theorem k_slot1 {X : mX} {h : mH} {gz : Nat → Nat} {gc : Nat → Int64} {gs : Nat} {gh : Nat → Nat} {gk : Nat → Int64} {gl : Nat} {gb : Nat → Nat} {gt : Nat} {gr : Nat → Nat} {gm : Nat} {gp : Nat → Int64} {gq : Nat → Nat} {ge : Nat → Nat} {gn : Nat} {go : Nat → Nat} {gu : Nat} {gi : Bool} {ga : Nat → Int64} {gv : Nat → Nat} {gw : Nat} {gx : Int64} (hm : MN h gz gc gs gh gk gl gb gt gr gm gp gq ge gn go gu gi ga gv gw gx) (t w : Int32) (ht : inX t 0 60 = false) : CnU X m_X7_slot [.ref 270, .int t, .int w] h (fun v h1 => v = some (.int (nI 0)) ∧ MS h1 gz gc gs gh gk gl gb 1 gx ∧ Out h h1 270 13) := by
  obtain ⟨m0, m1, m2, m3, m4, m5, m6, m7, m8, m9, m10, m11, m12⟩ := id hm
  have ho : Out h h 270 13 := Out.rf
  refine cn_of_ev (L0 := [_, _, _]) (by decide +kernel) rfl rfl (Nat.le_of_ble_eq_true rfl) rfl ?_
  refine ev_aload_n dX7_slot_0 rfl rfl ?_
  refine ev_iload_n dX7_slot_1 rfl rfl ?_
  refine ev_iconst (nI 0) dX7_slot_2 rfl ?_
  refine ev_bipush (nI 59) dX7_slot_3 rfl ?_
  refine ev_callSP3 dX7_slot_5 cal_X7_within lk_7_54 ⟨(Nat.le_of_ble_eq_true rfl), (Nat.le_of_ble_eq_true rfl)⟩ rfl (Nat.le_of_ble_eq_true rfl) (k_wB ht (by decide) (by decide)) ?_
  refine ev_if_neB 15 dX7_slot_8 rfl (fun hc8 => ?_) (fun hc8 => ?_)
  · first | omega | exact absurd hc8 (by decide)
  · refine ev_iconst (nI 1) dX7_slot_11 rfl ?_
    refine ev_goto 29 dX7_slot_12 rfl ?_
    refine em_pTh dX7_slot_29 lf_7_47 hm (fun h29 hm29 o29 => ?_)
    have ho := ho.tr o29
    obtain ⟨m0, m1, m2, m3, m4, m5, m6, m7, m8, m9, m10, m11, m12⟩ := id hm29
    refine ev_aload_n dX7_slot_32 rfl rfl ?_
    refine ev_getfield dX7_slot_33 lf_7_47 m0 rfl ?_
    refine ev_if_leN 43 dX7_slot_36 rfl (by omega) (fun hc36 => ?_) (fun hc36 => ?_)
    · first | omega | exact absurd hc36 (by decide)
    · refine ev_iconst (nI 0) dX7_slot_39 rfl ?_
      refine ev_goto 49 dX7_slot_40 rfl ?_
      refine ev_ireturn dX7_slot_49 rfl (Or.inl rfl) (Nat.zero_le _) (Nat.zero_le _) ?_
      exact ⟨_, rfl, rfl, hm29.ms, ho⟩
set_option maxHeartbeats 4000000 in
set_option maxRecDepth 100000 in
theorem k_slot2 {X : mX} {h : mH} {gz : Nat → Nat} {gc : Nat → Int64} {gs : Nat} {gh : Nat → Nat} {gk : Nat → Int64} {gl : Nat} {gb : Nat → Nat} {gt : Nat} {gr : Nat → Nat} {gm : Nat} {gp : Nat → Int64} {gq : Nat → Nat} {ge : Nat → Nat} {gn : Nat} {go : Nat → Nat} {gu : Nat} {gi : Bool} {ga : Nat → Int64} {gv : Nat → Nat} {gw : Nat} {gx : Int64} (hm : MN h gz gc gs gh gk gl gb gt gr gm gp gq ge gn go gu gi ga gv gw gx) (t : Nat) (w : Int32) (ht : t < 60) (hw : inX w 0 5 = false) : CnU X m_X7_slot [.ref 270, .int (nI t), .int w] h (fun v h1 => v = some (.int (nI 0)) ∧ MS h1 gz gc gs gh gk gl gb 2 gx ∧ Out h h1 270 13) := by
  obtain ⟨m0, m1, m2, m3, m4, m5, m6, m7, m8, m9, m10, m11, m12⟩ := id hm
  have ho : Out h h 270 13 := Out.rf
  refine cn_of_ev (L0 := [_, _, _]) (by decide +kernel) rfl rfl (Nat.le_of_ble_eq_true rfl) rfl ?_
  refine ev_aload_n dX7_slot_0 rfl rfl ?_
  refine ev_iload_n dX7_slot_1 rfl rfl ?_
  refine ev_iconst (nI 0) dX7_slot_2 rfl ?_
  refine ev_bipush (nI 59) dX7_slot_3 rfl ?_
  refine ev_callSP3 dX7_slot_5 cal_X7_within lk_7_54 ⟨(Nat.le_of_ble_eq_true rfl), (Nat.le_of_ble_eq_true rfl)⟩ rfl (Nat.le_of_ble_eq_true rfl) (k_wB (inY (by omega) (Nat.zero_le _) ht) (by decide) (by decide)) ?_
  refine ev_if_neB 15 dX7_slot_8 rfl (fun hc8 => ?_) (fun hc8 => ?_)
  · refine ev_iload_n dX7_slot_15 rfl rfl ?_
    refine ev_iconst (nI 0) dX7_slot_16 rfl ?_
    refine ev_iconst (nI 4) dX7_slot_17 rfl ?_
    refine ev_callSP3 dX7_slot_18 cal_X7_within lk_7_54 ⟨(Nat.le_of_ble_eq_true rfl), (Nat.le_of_ble_eq_true rfl)⟩ rfl (Nat.le_of_ble_eq_true rfl) (k_wB hw (by decide) (by decide)) ?_
    refine ev_if_eqB 28 dX7_slot_21 rfl (fun hc21 => ?_) (fun hc21 => ?_)
    · refine ev_iconst (nI 2) dX7_slot_28 rfl ?_
      refine em_pTh dX7_slot_29 lf_7_47 hm (fun h29 hm29 o29 => ?_)
      have ho := ho.tr o29
      obtain ⟨m0, m1, m2, m3, m4, m5, m6, m7, m8, m9, m10, m11, m12⟩ := id hm29
      refine ev_aload_n dX7_slot_32 rfl rfl ?_
      refine ev_getfield dX7_slot_33 lf_7_47 m0 rfl ?_
      refine ev_if_leN 43 dX7_slot_36 rfl (by omega) (fun hc36 => ?_) (fun hc36 => ?_)
      · first | omega | exact absurd hc36 (by decide)
      · refine ev_iconst (nI 0) dX7_slot_39 rfl ?_
        refine ev_goto 49 dX7_slot_40 rfl ?_
        refine ev_ireturn dX7_slot_49 rfl (Or.inl rfl) (Nat.zero_le _) (Nat.zero_le _) ?_
        exact ⟨_, rfl, rfl, hm29.ms, ho⟩
    · first | omega | exact absurd hc21 (by decide)
  · first | omega | exact absurd hc8 (by decide)
set_option maxHeartbeats 4000000 in
set_option maxRecDepth 100000 in
theorem k_slot {X : mX} {h : mH} {gz : Nat → Nat} {gc : Nat → Int64} {gs : Nat} {gh : Nat → Nat} {gk : Nat → Int64} {gl : Nat} {gb : Nat → Nat} {gt : Nat} {gr : Nat → Nat} {gm : Nat} {gp : Nat → Int64} {gq : Nat → Nat} {ge : Nat → Nat} {gn : Nat} {go : Nat → Nat} {gu : Nat} {gi : Bool} {ga : Nat → Int64} {gv : Nat → Nat} {gw : Nat} {gx : Int64} (hm : MN h gz gc gs gh gk gl gb gt gr gm gp gq ge gn go gu gi ga gv gw gx) {T : mSt} (hr : RelT gz gc T) (hT : InvT T) (t w : Nat) (ht : t < 60) (hw : w < 5) : CnU X m_X7_slot [.ref 270, .int (nI t), .int (nI w)] h (fun v h1 => v = some (.int (if isF (tS T) t = true then -1 else sltV T t w)) ∧ MS h1 gz gc gs gh gk gl gb 0 gx ∧ Out h h1 270 13) := by
  obtain ⟨m0, m1, m2, m3, m4, m5, m6, m7, m8, m9, m10, m11, m12⟩ := id hm
  have ho : Out h h 270 13 := Out.rf
  refine cn_of_ev (L0 := [_, _, _]) (by decide +kernel) rfl rfl (Nat.le_of_ble_eq_true rfl) rfl ?_
  refine ev_aload_n dX7_slot_0 rfl rfl ?_
  refine ev_iload_n dX7_slot_1 rfl rfl ?_
  refine ev_iconst (nI 0) dX7_slot_2 rfl ?_
  refine ev_bipush (nI 59) dX7_slot_3 rfl ?_
  refine ev_callSP3 dX7_slot_5 cal_X7_within lk_7_54 ⟨(Nat.le_of_ble_eq_true rfl), (Nat.le_of_ble_eq_true rfl)⟩ rfl (Nat.le_of_ble_eq_true rfl) (k_wB (inY (by omega) (Nat.zero_le _) ht) (by decide) (by decide)) ?_
  refine ev_if_neB 15 dX7_slot_8 rfl (fun hc8 => ?_) (fun hc8 => ?_)
  · refine ev_iload_n dX7_slot_15 rfl rfl ?_
    refine ev_iconst (nI 0) dX7_slot_16 rfl ?_
    refine ev_iconst (nI 4) dX7_slot_17 rfl ?_
    refine ev_callSP3 dX7_slot_18 cal_X7_within lk_7_54 ⟨(Nat.le_of_ble_eq_true rfl), (Nat.le_of_ble_eq_true rfl)⟩ rfl (Nat.le_of_ble_eq_true rfl) (k_wB (inY (by omega) (Nat.zero_le _) hw) (by decide) (by decide)) ?_
    refine ev_if_eqB 28 dX7_slot_21 rfl (fun hc21 => ?_) (fun hc21 => ?_)
    · first | omega | exact absurd hc21 (by decide)
    · refine ev_iconst (nI 0) dX7_slot_24 rfl ?_
      refine ev_goto 29 dX7_slot_25 rfl ?_
      refine em_pTh dX7_slot_29 lf_7_47 hm (fun h29 hm29 o29 => ?_)
      have ho := ho.tr o29
      obtain ⟨m0, m1, m2, m3, m4, m5, m6, m7, m8, m9, m10, m11, m12⟩ := id hm29
      refine ev_aload_n dX7_slot_32 rfl rfl ?_
      refine ev_getfield dX7_slot_33 lf_7_47 m0 rfl ?_
      refine ev_if_leN 43 dX7_slot_36 rfl (by omega) (fun hc36 => ?_) (fun hc36 => ?_)
      · refine ev_aload_n dX7_slot_43 rfl rfl ?_
        refine ev_iload_n dX7_slot_44 rfl rfl ?_
        refine ev_iload_n dX7_slot_45 rfl rfl ?_
        refine ev_callVP2 dX7_slot_46 cal_X7_slotNow lk_7_224 ⟨(Nat.le_of_ble_eq_true rfl), (Nat.le_of_ble_eq_true rfl)⟩ rfl m0 (Nat.le_of_ble_eq_true rfl) (k_slotNow hm29 hr hT t w ht hw) ?_
        refine ev_ireturn dX7_slot_49 rfl (Or.inl rfl) (Nat.zero_le _) (Nat.zero_le _) ?_
        exact ⟨_, rfl, rfl, hm29.ms, ho⟩
      · first | omega | exact absurd hc36 (by decide)
  · first | omega | exact absurd hc8 (by decide)
set_option maxHeartbeats 4000000 in
set_option maxRecDepth 100000 in
theorem k_text1 {X : mX} {h : mH} {gz : Nat → Nat} {gc : Nat → Int64} {gs : Nat} {gh : Nat → Nat} {gk : Nat → Int64} {gl : Nat} {gb : Nat → Nat} {gt : Nat} {gr : Nat → Nat} {gm : Nat} {gp : Nat → Int64} {gq : Nat → Nat} {ge : Nat → Nat} {gn : Nat} {go : Nat → Nat} {gu : Nat} {gi : Bool} {ga : Nat → Int64} {gv : Nat → Nat} {gw : Nat} {gx : Int64} (hm : MN h gz gc gs gh gk gl gb gt gr gm gp gq ge gn go gu gi ga gv gw gx) (t w : Int32) (ht : inX t 0 4 = false) : CnU X m_X7_text [.ref 270, .int t, .int w] h (fun v h1 => v = some (.int (nI 0)) ∧ MS h1 gz gc gs gh gk gl gb 1 gx ∧ Out h h1 270 13) := by
  obtain ⟨m0, m1, m2, m3, m4, m5, m6, m7, m8, m9, m10, m11, m12⟩ := id hm
  have ho : Out h h 270 13 := Out.rf
  refine cn_of_ev (L0 := [_, _, _]) (by decide +kernel) rfl rfl (Nat.le_of_ble_eq_true rfl) rfl ?_
  refine ev_aload_n dX7_text_0 rfl rfl ?_
  refine ev_iload_n dX7_text_1 rfl rfl ?_
  refine ev_callSP1 dX7_text_2 cal_X7_isText lk_7_157 ⟨(Nat.le_of_ble_eq_true rfl), (Nat.le_of_ble_eq_true rfl)⟩ rfl (Nat.le_of_ble_eq_true rfl) (k_isTextB ht) ?_
  refine ev_if_neB 12 dX7_text_5 rfl (fun hc5 => ?_) (fun hc5 => ?_)
  · first | omega | exact absurd hc5 (by decide)
  · refine ev_iconst (nI 1) dX7_text_8 rfl ?_
    refine ev_goto 26 dX7_text_9 rfl ?_
    refine em_pTh dX7_text_26 lf_7_47 hm (fun h26 hm26 o26 => ?_)
    have ho := ho.tr o26
    obtain ⟨m0, m1, m2, m3, m4, m5, m6, m7, m8, m9, m10, m11, m12⟩ := id hm26
    refine ev_aload_n dX7_text_29 rfl rfl ?_
    refine ev_getfield dX7_text_30 lf_7_47 m0 rfl ?_
    refine ev_if_leN 40 dX7_text_33 rfl (by omega) (fun hc33 => ?_) (fun hc33 => ?_)
    · first | omega | exact absurd hc33 (by decide)
    · refine ev_iconst (nI 0) dX7_text_36 rfl ?_
      refine ev_goto 46 dX7_text_37 rfl ?_
      refine ev_ireturn dX7_text_46 rfl (Or.inl rfl) (Nat.zero_le _) (Nat.zero_le _) ?_
      exact ⟨_, rfl, rfl, hm26.ms, ho⟩
set_option maxHeartbeats 4000000 in
set_option maxRecDepth 100000 in
theorem k_text2 {X : mX} {h : mH} {gz : Nat → Nat} {gc : Nat → Int64} {gs : Nat} {gh : Nat → Nat} {gk : Nat → Int64} {gl : Nat} {gb : Nat → Nat} {gt : Nat} {gr : Nat → Nat} {gm : Nat} {gp : Nat → Int64} {gq : Nat → Nat} {ge : Nat → Nat} {gn : Nat} {go : Nat → Nat} {gu : Nat} {gi : Bool} {ga : Nat → Int64} {gv : Nat → Nat} {gw : Nat} {gx : Int64} (hm : MN h gz gc gs gh gk gl gb gt gr gm gp gq ge gn go gu gi ga gv gw gx) (t : Nat) (w : Int32) (ht : t < 4) (hw : inX w 0 6 = false) : CnU X m_X7_text [.ref 270, .int (nI t), .int w] h (fun v h1 => v = some (.int (nI 0)) ∧ MS h1 gz gc gs gh gk gl gb 2 gx ∧ Out h h1 270 13) := by
  obtain ⟨m0, m1, m2, m3, m4, m5, m6, m7, m8, m9, m10, m11, m12⟩ := id hm
  have ho : Out h h 270 13 := Out.rf
  refine cn_of_ev (L0 := [_, _, _]) (by decide +kernel) rfl rfl (Nat.le_of_ble_eq_true rfl) rfl ?_
  refine ev_aload_n dX7_text_0 rfl rfl ?_
  refine ev_iload_n dX7_text_1 rfl rfl ?_
  refine ev_callSP1 dX7_text_2 cal_X7_isText lk_7_157 ⟨(Nat.le_of_ble_eq_true rfl), (Nat.le_of_ble_eq_true rfl)⟩ rfl (Nat.le_of_ble_eq_true rfl) (k_isTextB (inY (by omega) (Nat.zero_le _) ht)) ?_
  refine ev_if_neB 12 dX7_text_5 rfl (fun hc5 => ?_) (fun hc5 => ?_)
  · refine ev_iload_n dX7_text_12 rfl rfl ?_
    refine ev_iconst (nI 0) dX7_text_13 rfl ?_
    refine ev_iconst (nI 5) dX7_text_14 rfl ?_
    refine ev_callSP3 dX7_text_15 cal_X7_within lk_7_54 ⟨(Nat.le_of_ble_eq_true rfl), (Nat.le_of_ble_eq_true rfl)⟩ rfl (Nat.le_of_ble_eq_true rfl) (k_wB hw (by decide) (by decide)) ?_
    refine ev_if_eqB 25 dX7_text_18 rfl (fun hc18 => ?_) (fun hc18 => ?_)
    · refine ev_iconst (nI 2) dX7_text_25 rfl ?_
      refine em_pTh dX7_text_26 lf_7_47 hm (fun h26 hm26 o26 => ?_)
      have ho := ho.tr o26
      obtain ⟨m0, m1, m2, m3, m4, m5, m6, m7, m8, m9, m10, m11, m12⟩ := id hm26
      refine ev_aload_n dX7_text_29 rfl rfl ?_
      refine ev_getfield dX7_text_30 lf_7_47 m0 rfl ?_
      refine ev_if_leN 40 dX7_text_33 rfl (by omega) (fun hc33 => ?_) (fun hc33 => ?_)
      · first | omega | exact absurd hc33 (by decide)
      · refine ev_iconst (nI 0) dX7_text_36 rfl ?_
        refine ev_goto 46 dX7_text_37 rfl ?_
        refine ev_ireturn dX7_text_46 rfl (Or.inl rfl) (Nat.zero_le _) (Nat.zero_le _) ?_
        exact ⟨_, rfl, rfl, hm26.ms, ho⟩
    · first | omega | exact absurd hc18 (by decide)
  · first | omega | exact absurd hc5 (by decide)
set_option maxHeartbeats 4000000 in
set_option maxRecDepth 100000 in
theorem k_text {X : mX} {h : mH} {gz : Nat → Nat} {gc : Nat → Int64} {gs : Nat} {gh : Nat → Nat} {gk : Nat → Int64} {gl : Nat} {gb : Nat → Nat} {gt : Nat} {gr : Nat → Nat} {gm : Nat} {gp : Nat → Int64} {gq : Nat → Nat} {ge : Nat → Nat} {gn : Nat} {go : Nat → Nat} {gu : Nat} {gi : Bool} {ga : Nat → Int64} {gv : Nat → Nat} {gw : Nat} {gx : Int64} (hm : MN h gz gc gs gh gk gl gb gt gr gm gp gq ge gn go gu gi ga gv gw gx) {T : mSt} (hr : RelT gz gc T) (hT : InvT T) (t w : Nat) (ht : t < 4) (hw : w < 6) : CnU X m_X7_text [.ref 270, .int (nI t), .int (nI w)] h (fun v h1 => v = some (.int (nI (txtV T t w))) ∧ MS h1 gz gc gs gh gk gl gb 0 gx ∧ Out h h1 270 13) := by
  obtain ⟨m0, m1, m2, m3, m4, m5, m6, m7, m8, m9, m10, m11, m12⟩ := id hm
  have ho : Out h h 270 13 := Out.rf
  refine cn_of_ev (L0 := [_, _, _]) (by decide +kernel) rfl rfl (Nat.le_of_ble_eq_true rfl) rfl ?_
  refine ev_aload_n dX7_text_0 rfl rfl ?_
  refine ev_iload_n dX7_text_1 rfl rfl ?_
  refine ev_callSP1 dX7_text_2 cal_X7_isText lk_7_157 ⟨(Nat.le_of_ble_eq_true rfl), (Nat.le_of_ble_eq_true rfl)⟩ rfl (Nat.le_of_ble_eq_true rfl) (k_isTextB (inY (by omega) (Nat.zero_le _) ht)) ?_
  refine ev_if_neB 12 dX7_text_5 rfl (fun hc5 => ?_) (fun hc5 => ?_)
  · refine ev_iload_n dX7_text_12 rfl rfl ?_
    refine ev_iconst (nI 0) dX7_text_13 rfl ?_
    refine ev_iconst (nI 5) dX7_text_14 rfl ?_
    refine ev_callSP3 dX7_text_15 cal_X7_within lk_7_54 ⟨(Nat.le_of_ble_eq_true rfl), (Nat.le_of_ble_eq_true rfl)⟩ rfl (Nat.le_of_ble_eq_true rfl) (k_wB (inY (by omega) (Nat.zero_le _) hw) (by decide) (by decide)) ?_
    refine ev_if_eqB 25 dX7_text_18 rfl (fun hc18 => ?_) (fun hc18 => ?_)
    · first | omega | exact absurd hc18 (by decide)
    · refine ev_iconst (nI 0) dX7_text_21 rfl ?_
      refine ev_goto 26 dX7_text_22 rfl ?_
      refine em_pTh dX7_text_26 lf_7_47 hm (fun h26 hm26 o26 => ?_)
      have ho := ho.tr o26
      obtain ⟨m0, m1, m2, m3, m4, m5, m6, m7, m8, m9, m10, m11, m12⟩ := id hm26
      refine ev_aload_n dX7_text_29 rfl rfl ?_
      refine ev_getfield dX7_text_30 lf_7_47 m0 rfl ?_
      refine ev_if_leN 40 dX7_text_33 rfl (by omega) (fun hc33 => ?_) (fun hc33 => ?_)
      · refine ev_aload_n dX7_text_40 rfl rfl ?_
        refine ev_iload_n dX7_text_41 rfl rfl ?_
        refine ev_iload_n dX7_text_42 rfl rfl ?_
        refine ev_callVP2 dX7_text_43 cal_X7_textNow lk_7_239 ⟨(Nat.le_of_ble_eq_true rfl), (Nat.le_of_ble_eq_true rfl)⟩ rfl m0 (Nat.le_of_ble_eq_true rfl) (k_textNow hm26 hr hT t w ht hw) ?_
        refine ev_ireturn dX7_text_46 rfl (Or.inl rfl) (Nat.zero_le _) (Nat.zero_le _) ?_
        exact ⟨_, rfl, rfl, hm26.ms, ho⟩
      · first | omega | exact absurd hc33 (by decide)
  · first | omega | exact absurd hc5 (by decide)
set_option maxHeartbeats 4000000 in
set_option maxRecDepth 100000 in
theorem k_common1 {X : mX} {h : mH} {gz : Nat → Nat} {gc : Nat → Int64} {gs : Nat} {gh : Nat → Nat} {gk : Nat → Int64} {gl : Nat} {gb : Nat → Nat} {gt : Nat} {gr : Nat → Nat} {gm : Nat} {gp : Nat → Int64} {gq : Nat → Nat} {ge : Nat → Nat} {gn : Nat} {go : Nat → Nat} {gu : Nat} {gi : Bool} {ga : Nat → Int64} {gv : Nat → Nat} {gw : Nat} {gx : Int64} (hm : MN h gz gc gs gh gk gl gb gt gr gm gp gq ge gn go gu gi ga gv gw gx) (t u w : Int32) (ht : inX t 0 4 = false) : CnU X m_X7_common [.ref 270, .int t, .int u, .int w] h (fun v h1 => v = some (.int (nI 0)) ∧ MS h1 gz gc gs gh gk gl gb 1 gx ∧ Out h h1 270 13) := by
  obtain ⟨m0, m1, m2, m3, m4, m5, m6, m7, m8, m9, m10, m11, m12⟩ := id hm
  have ho : Out h h 270 13 := Out.rf
  refine cn_of_ev (L0 := [_, _, _, _]) (by decide +kernel) rfl rfl (Nat.le_of_ble_eq_true rfl) rfl ?_
  refine ev_aload_n dX7_common_0 rfl rfl ?_
  refine ev_iload_n dX7_common_1 rfl rfl ?_
  refine ev_callSP1 dX7_common_2 cal_X7_isText lk_7_157 ⟨(Nat.le_of_ble_eq_true rfl), (Nat.le_of_ble_eq_true rfl)⟩ rfl (Nat.le_of_ble_eq_true rfl) (k_isTextB ht) ?_
  refine ev_if_eqB 15 dX7_common_5 rfl (fun hc5 => ?_) (fun hc5 => ?_)
  · refine ev_iconst (nI 1) dX7_common_15 rfl ?_
    refine ev_goto 33 dX7_common_16 rfl ?_
    refine em_pTh dX7_common_33 lf_7_47 hm (fun h33 hm33 o33 => ?_)
    have ho := ho.tr o33
    obtain ⟨m0, m1, m2, m3, m4, m5, m6, m7, m8, m9, m10, m11, m12⟩ := id hm33
    refine ev_aload_n dX7_common_36 rfl rfl ?_
    refine ev_getfield dX7_common_37 lf_7_47 m0 rfl ?_
    refine ev_if_leN 47 dX7_common_40 rfl (by omega) (fun hc40 => ?_) (fun hc40 => ?_)
    · first | omega | exact absurd hc40 (by decide)
    · refine ev_iconst (nI 0) dX7_common_43 rfl ?_
      refine ev_goto 54 dX7_common_44 rfl ?_
      refine ev_ireturn dX7_common_54 rfl (Or.inl rfl) (Nat.zero_le _) (Nat.zero_le _) ?_
      exact ⟨_, rfl, rfl, hm33.ms, ho⟩
  · first | omega | exact absurd hc5 (by decide)
set_option maxHeartbeats 4000000 in
set_option maxRecDepth 100000 in
theorem k_common2 {X : mX} {h : mH} {gz : Nat → Nat} {gc : Nat → Int64} {gs : Nat} {gh : Nat → Nat} {gk : Nat → Int64} {gl : Nat} {gb : Nat → Nat} {gt : Nat} {gr : Nat → Nat} {gm : Nat} {gp : Nat → Int64} {gq : Nat → Nat} {ge : Nat → Nat} {gn : Nat} {go : Nat → Nat} {gu : Nat} {gi : Bool} {ga : Nat → Int64} {gv : Nat → Nat} {gw : Nat} {gx : Int64} (hm : MN h gz gc gs gh gk gl gb gt gr gm gp gq ge gn go gu gi ga gv gw gx) (t : Nat) (u w : Int32) (ht : t < 4) (hu : inX u 0 4 = false) : CnU X m_X7_common [.ref 270, .int (nI t), .int u, .int w] h (fun v h1 => v = some (.int (nI 0)) ∧ MS h1 gz gc gs gh gk gl gb 1 gx ∧ Out h h1 270 13) := by
  obtain ⟨m0, m1, m2, m3, m4, m5, m6, m7, m8, m9, m10, m11, m12⟩ := id hm
  have ho : Out h h 270 13 := Out.rf
  refine cn_of_ev (L0 := [_, _, _, _]) (by decide +kernel) rfl rfl (Nat.le_of_ble_eq_true rfl) rfl ?_
  refine ev_aload_n dX7_common_0 rfl rfl ?_
  refine ev_iload_n dX7_common_1 rfl rfl ?_
  refine ev_callSP1 dX7_common_2 cal_X7_isText lk_7_157 ⟨(Nat.le_of_ble_eq_true rfl), (Nat.le_of_ble_eq_true rfl)⟩ rfl (Nat.le_of_ble_eq_true rfl) (k_isTextB (inY (by omega) (Nat.zero_le _) ht)) ?_
  refine ev_if_eqB 15 dX7_common_5 rfl (fun hc5 => ?_) (fun hc5 => ?_)
  · first | omega | exact absurd hc5 (by decide)
  · refine ev_iload_n dX7_common_8 rfl rfl ?_
    refine ev_callSP1 dX7_common_9 cal_X7_isText lk_7_157 ⟨(Nat.le_of_ble_eq_true rfl), (Nat.le_of_ble_eq_true rfl)⟩ rfl (Nat.le_of_ble_eq_true rfl) (k_isTextB hu) ?_
    refine ev_if_neB 19 dX7_common_12 rfl (fun hc12 => ?_) (fun hc12 => ?_)
    · first | omega | exact absurd hc12 (by decide)
    · refine ev_iconst (nI 1) dX7_common_15 rfl ?_
      refine ev_goto 33 dX7_common_16 rfl ?_
      refine em_pTh dX7_common_33 lf_7_47 hm (fun h33 hm33 o33 => ?_)
      have ho := ho.tr o33
      obtain ⟨m0, m1, m2, m3, m4, m5, m6, m7, m8, m9, m10, m11, m12⟩ := id hm33
      refine ev_aload_n dX7_common_36 rfl rfl ?_
      refine ev_getfield dX7_common_37 lf_7_47 m0 rfl ?_
      refine ev_if_leN 47 dX7_common_40 rfl (by omega) (fun hc40 => ?_) (fun hc40 => ?_)
      · first | omega | exact absurd hc40 (by decide)
      · refine ev_iconst (nI 0) dX7_common_43 rfl ?_
        refine ev_goto 54 dX7_common_44 rfl ?_
        refine ev_ireturn dX7_common_54 rfl (Or.inl rfl) (Nat.zero_le _) (Nat.zero_le _) ?_
        exact ⟨_, rfl, rfl, hm33.ms, ho⟩
set_option maxHeartbeats 4000000 in
set_option maxRecDepth 100000 in
theorem k_common3 {X : mX} {h : mH} {gz : Nat → Nat} {gc : Nat → Int64} {gs : Nat} {gh : Nat → Nat} {gk : Nat → Int64} {gl : Nat} {gb : Nat → Nat} {gt : Nat} {gr : Nat → Nat} {gm : Nat} {gp : Nat → Int64} {gq : Nat → Nat} {ge : Nat → Nat} {gn : Nat} {go : Nat → Nat} {gu : Nat} {gi : Bool} {ga : Nat → Int64} {gv : Nat → Nat} {gw : Nat} {gx : Int64} (hm : MN h gz gc gs gh gk gl gb gt gr gm gp gq ge gn go gu gi ga gv gw gx) (t u : Nat) (w : Int32) (ht : t < 4) (hu : u < 4) (hw : inX w 0 3 = false) : CnU X m_X7_common [.ref 270, .int (nI t), .int (nI u), .int w] h (fun v h1 => v = some (.int (nI 0)) ∧ MS h1 gz gc gs gh gk gl gb 2 gx ∧ Out h h1 270 13) := by
  obtain ⟨m0, m1, m2, m3, m4, m5, m6, m7, m8, m9, m10, m11, m12⟩ := id hm
  have ho : Out h h 270 13 := Out.rf
  refine cn_of_ev (L0 := [_, _, _, _]) (by decide +kernel) rfl rfl (Nat.le_of_ble_eq_true rfl) rfl ?_
  refine ev_aload_n dX7_common_0 rfl rfl ?_
  refine ev_iload_n dX7_common_1 rfl rfl ?_
  refine ev_callSP1 dX7_common_2 cal_X7_isText lk_7_157 ⟨(Nat.le_of_ble_eq_true rfl), (Nat.le_of_ble_eq_true rfl)⟩ rfl (Nat.le_of_ble_eq_true rfl) (k_isTextB (inY (by omega) (Nat.zero_le _) ht)) ?_
  refine ev_if_eqB 15 dX7_common_5 rfl (fun hc5 => ?_) (fun hc5 => ?_)
  · first | omega | exact absurd hc5 (by decide)
  · refine ev_iload_n dX7_common_8 rfl rfl ?_
    refine ev_callSP1 dX7_common_9 cal_X7_isText lk_7_157 ⟨(Nat.le_of_ble_eq_true rfl), (Nat.le_of_ble_eq_true rfl)⟩ rfl (Nat.le_of_ble_eq_true rfl) (k_isTextB (inY (by omega) (Nat.zero_le _) hu)) ?_
    refine ev_if_neB 19 dX7_common_12 rfl (fun hc12 => ?_) (fun hc12 => ?_)
    · refine ev_iload_n dX7_common_19 rfl rfl ?_
      refine ev_iconst (nI 0) dX7_common_20 rfl ?_
      refine ev_iconst (nI 2) dX7_common_21 rfl ?_
      refine ev_callSP3 dX7_common_22 cal_X7_within lk_7_54 ⟨(Nat.le_of_ble_eq_true rfl), (Nat.le_of_ble_eq_true rfl)⟩ rfl (Nat.le_of_ble_eq_true rfl) (k_wB hw (by decide) (by decide)) ?_
      refine ev_if_eqB 32 dX7_common_25 rfl (fun hc25 => ?_) (fun hc25 => ?_)
      · refine ev_iconst (nI 2) dX7_common_32 rfl ?_
        refine em_pTh dX7_common_33 lf_7_47 hm (fun h33 hm33 o33 => ?_)
        have ho := ho.tr o33
        obtain ⟨m0, m1, m2, m3, m4, m5, m6, m7, m8, m9, m10, m11, m12⟩ := id hm33
        refine ev_aload_n dX7_common_36 rfl rfl ?_
        refine ev_getfield dX7_common_37 lf_7_47 m0 rfl ?_
        refine ev_if_leN 47 dX7_common_40 rfl (by omega) (fun hc40 => ?_) (fun hc40 => ?_)
        · first | omega | exact absurd hc40 (by decide)
        · refine ev_iconst (nI 0) dX7_common_43 rfl ?_
          refine ev_goto 54 dX7_common_44 rfl ?_
          refine ev_ireturn dX7_common_54 rfl (Or.inl rfl) (Nat.zero_le _) (Nat.zero_le _) ?_
          exact ⟨_, rfl, rfl, hm33.ms, ho⟩
      · first | omega | exact absurd hc25 (by decide)
    · first | omega | exact absurd hc12 (by decide)
set_option maxHeartbeats 4000000 in
set_option maxRecDepth 100000 in
theorem k_common {X : mX} {h : mH} {gz : Nat → Nat} {gc : Nat → Int64} {gs : Nat} {gh : Nat → Nat} {gk : Nat → Int64} {gl : Nat} {gb : Nat → Nat} {gt : Nat} {gr : Nat → Nat} {gm : Nat} {gp : Nat → Int64} {gq : Nat → Nat} {ge : Nat → Nat} {gn : Nat} {go : Nat → Nat} {gu : Nat} {gi : Bool} {ga : Nat → Int64} {gv : Nat → Nat} {gw : Nat} {gx : Int64} (hm : MN h gz gc gs gh gk gl gb gt gr gm gp gq ge gn go gu gi ga gv gw gx) {T : mSt} (hr : RelT gz gc T) (hT : InvT T) (t u w : Nat) (ht : t < 4) (hu : u < 4) (hw : w < 3) : CnU X m_X7_common [.ref 270, .int (nI t), .int (nI u), .int (nI w)] h (fun v h1 => v = some (.int (nI (comV (tC T t) (tC T u) w))) ∧ MS h1 gz gc gs gh gk gl gb 0 gx ∧ Out h h1 270 13) := by
  obtain ⟨m0, m1, m2, m3, m4, m5, m6, m7, m8, m9, m10, m11, m12⟩ := id hm
  have ho : Out h h 270 13 := Out.rf
  refine cn_of_ev (L0 := [_, _, _, _]) (by decide +kernel) rfl rfl (Nat.le_of_ble_eq_true rfl) rfl ?_
  refine ev_aload_n dX7_common_0 rfl rfl ?_
  refine ev_iload_n dX7_common_1 rfl rfl ?_
  refine ev_callSP1 dX7_common_2 cal_X7_isText lk_7_157 ⟨(Nat.le_of_ble_eq_true rfl), (Nat.le_of_ble_eq_true rfl)⟩ rfl (Nat.le_of_ble_eq_true rfl) (k_isTextB (inY (by omega) (Nat.zero_le _) ht)) ?_
  refine ev_if_eqB 15 dX7_common_5 rfl (fun hc5 => ?_) (fun hc5 => ?_)
  · first | omega | exact absurd hc5 (by decide)
  · refine ev_iload_n dX7_common_8 rfl rfl ?_
    refine ev_callSP1 dX7_common_9 cal_X7_isText lk_7_157 ⟨(Nat.le_of_ble_eq_true rfl), (Nat.le_of_ble_eq_true rfl)⟩ rfl (Nat.le_of_ble_eq_true rfl) (k_isTextB (inY (by omega) (Nat.zero_le _) hu)) ?_
    refine ev_if_neB 19 dX7_common_12 rfl (fun hc12 => ?_) (fun hc12 => ?_)
    · refine ev_iload_n dX7_common_19 rfl rfl ?_
      refine ev_iconst (nI 0) dX7_common_20 rfl ?_
      refine ev_iconst (nI 2) dX7_common_21 rfl ?_
      refine ev_callSP3 dX7_common_22 cal_X7_within lk_7_54 ⟨(Nat.le_of_ble_eq_true rfl), (Nat.le_of_ble_eq_true rfl)⟩ rfl (Nat.le_of_ble_eq_true rfl) (k_wB (inY (by omega) (Nat.zero_le _) hw) (by decide) (by decide)) ?_
      refine ev_if_eqB 32 dX7_common_25 rfl (fun hc25 => ?_) (fun hc25 => ?_)
      · first | omega | exact absurd hc25 (by decide)
      · refine ev_iconst (nI 0) dX7_common_28 rfl ?_
        refine ev_goto 33 dX7_common_29 rfl ?_
        refine em_pTh dX7_common_33 lf_7_47 hm (fun h33 hm33 o33 => ?_)
        have ho := ho.tr o33
        obtain ⟨m0, m1, m2, m3, m4, m5, m6, m7, m8, m9, m10, m11, m12⟩ := id hm33
        refine ev_aload_n dX7_common_36 rfl rfl ?_
        refine ev_getfield dX7_common_37 lf_7_47 m0 rfl ?_
        refine ev_if_leN 47 dX7_common_40 rfl (by omega) (fun hc40 => ?_) (fun hc40 => ?_)
        · refine ev_aload_n dX7_common_47 rfl rfl ?_
          refine ev_iload_n dX7_common_48 rfl rfl ?_
          refine ev_iload_n dX7_common_49 rfl rfl ?_
          refine ev_iload_n dX7_common_50 rfl rfl ?_
          refine ev_callVP3 dX7_common_51 cal_X7_commonNow lk_7_251 ⟨(Nat.le_of_ble_eq_true rfl), (Nat.le_of_ble_eq_true rfl)⟩ rfl m0 (Nat.le_of_ble_eq_true rfl) (k_commonNow hm33 hr hT t u w ht hu hw) ?_
          refine ev_ireturn dX7_common_54 rfl (Or.inl rfl) (Nat.zero_le _) (Nat.zero_le _) ?_
          exact ⟨_, rfl, rfl, hm33.ms, ho⟩
        · first | omega | exact absurd hc40 (by decide)
    · first | omega | exact absurd hc12 (by decide)
set_option maxHeartbeats 4000000 in
set_option maxRecDepth 100000 in
theorem k_count1 {X : mX} {h : mH} {gz : Nat → Nat} {gc : Nat → Int64} {gs : Nat} {gh : Nat → Nat} {gk : Nat → Int64} {gl : Nat} {gb : Nat → Nat} {gt : Nat} {gr : Nat → Nat} {gm : Nat} {gp : Nat → Int64} {gq : Nat → Nat} {ge : Nat → Nat} {gn : Nat} {go : Nat → Nat} {gu : Nat} {gi : Bool} {ga : Nat → Int64} {gv : Nat → Nat} {gw : Nat} {gx : Int64} (hm : MN h gz gc gs gh gk gl gb gt gr gm gp gq ge gn go gu gi ga gv gw gx) (t : Int32) (ht : inX t 0 10 = false) : CnU X m_X7_count [.ref 270, .int t] h (fun v h1 => v = some (.int (nI 0)) ∧ MS h1 gz gc gs gh gk gl gb 1 gx ∧ Out h h1 270 13) := by
  obtain ⟨m0, m1, m2, m3, m4, m5, m6, m7, m8, m9, m10, m11, m12⟩ := id hm
  have ho : Out h h 270 13 := Out.rf
  refine cn_of_ev (L0 := [_, _]) (by decide +kernel) rfl rfl (Nat.le_of_ble_eq_true rfl) rfl ?_
  refine ev_aload_n dX7_count_0 rfl rfl ?_
  refine ev_iload_n dX7_count_1 rfl rfl ?_
  refine ev_iconst (nI 0) dX7_count_2 rfl ?_
  refine ev_bipush (nI 9) dX7_count_3 rfl ?_
  refine ev_callSP3 dX7_count_5 cal_X7_within lk_7_54 ⟨(Nat.le_of_ble_eq_true rfl), (Nat.le_of_ble_eq_true rfl)⟩ rfl (Nat.le_of_ble_eq_true rfl) (k_wB ht (by decide) (by decide)) ?_
  refine ev_if_eqB 15 dX7_count_8 rfl (fun hc8 => ?_) (fun hc8 => ?_)
  · refine ev_iconst (nI 1) dX7_count_15 rfl ?_
    refine em_pTh dX7_count_16 lf_7_47 hm (fun h16 hm16 o16 => ?_)
    have ho := ho.tr o16
    obtain ⟨m0, m1, m2, m3, m4, m5, m6, m7, m8, m9, m10, m11, m12⟩ := id hm16
    refine ev_aload_n dX7_count_19 rfl rfl ?_
    refine ev_getfield dX7_count_20 lf_7_47 m0 rfl ?_
    refine ev_if_leN 30 dX7_count_23 rfl (by omega) (fun hc23 => ?_) (fun hc23 => ?_)
    · first | omega | exact absurd hc23 (by decide)
    · refine ev_iconst (nI 0) dX7_count_26 rfl ?_
      refine ev_goto 35 dX7_count_27 rfl ?_
      refine ev_ireturn dX7_count_35 rfl (Or.inl rfl) (Nat.zero_le _) (Nat.zero_le _) ?_
      exact ⟨_, rfl, rfl, hm16.ms, ho⟩
  · first | omega | exact absurd hc8 (by decide)
set_option maxHeartbeats 4000000 in
set_option maxRecDepth 100000 in
theorem k_count {X : mX} {h : mH} {gz : Nat → Nat} {gc : Nat → Int64} {gs : Nat} {gh : Nat → Nat} {gk : Nat → Int64} {gl : Nat} {gb : Nat → Nat} {gt : Nat} {gr : Nat → Nat} {gm : Nat} {gp : Nat → Int64} {gq : Nat → Nat} {ge : Nat → Nat} {gn : Nat} {go : Nat → Nat} {gu : Nat} {gi : Bool} {ga : Nat → Int64} {gv : Nat → Nat} {gw : Nat} {gx : Int64} (hm : MN h gz gc gs gh gk gl gb gt gr gm gp gq ge gn go gu gi ga gv gw gx) {A : mAs} (hr : RelT gz gc (aT A)) (hT : InvT (aT A)) (hgs : gs = aN A) (t : Nat) (ht : t < 10) : CnU X m_X7_count [.ref 270, .int (nI t)] h (fun v h1 => v = some (.int (nI (cntV A t))) ∧ MS h1 gz gc gs gh gk gl gb 0 gx ∧ Out h h1 270 13) := by
  obtain ⟨m0, m1, m2, m3, m4, m5, m6, m7, m8, m9, m10, m11, m12⟩ := id hm
  have ho : Out h h 270 13 := Out.rf
  refine cn_of_ev (L0 := [_, _]) (by decide +kernel) rfl rfl (Nat.le_of_ble_eq_true rfl) rfl ?_
  refine ev_aload_n dX7_count_0 rfl rfl ?_
  refine ev_iload_n dX7_count_1 rfl rfl ?_
  refine ev_iconst (nI 0) dX7_count_2 rfl ?_
  refine ev_bipush (nI 9) dX7_count_3 rfl ?_
  refine ev_callSP3 dX7_count_5 cal_X7_within lk_7_54 ⟨(Nat.le_of_ble_eq_true rfl), (Nat.le_of_ble_eq_true rfl)⟩ rfl (Nat.le_of_ble_eq_true rfl) (k_wB (inY (by omega) (Nat.zero_le _) ht) (by decide) (by decide)) ?_
  refine ev_if_eqB 15 dX7_count_8 rfl (fun hc8 => ?_) (fun hc8 => ?_)
  · first | omega | exact absurd hc8 (by decide)
  · refine ev_iconst (nI 0) dX7_count_11 rfl ?_
    refine ev_goto 16 dX7_count_12 rfl ?_
    refine em_pTh dX7_count_16 lf_7_47 hm (fun h16 hm16 o16 => ?_)
    have ho := ho.tr o16
    obtain ⟨m0, m1, m2, m3, m4, m5, m6, m7, m8, m9, m10, m11, m12⟩ := id hm16
    refine ev_aload_n dX7_count_19 rfl rfl ?_
    refine ev_getfield dX7_count_20 lf_7_47 m0 rfl ?_
    refine ev_if_leN 30 dX7_count_23 rfl (by omega) (fun hc23 => ?_) (fun hc23 => ?_)
    · refine ev_aload_n dX7_count_30 rfl rfl ?_
      refine ev_iload_n dX7_count_31 rfl rfl ?_
      refine ev_callVP1 dX7_count_32 cal_X7_counted lk_7_266 ⟨(Nat.le_of_ble_eq_true rfl), (Nat.le_of_ble_eq_true rfl)⟩ rfl m0 (Nat.le_of_ble_eq_true rfl) (k_counted hm16 hr hT hgs t ht) ?_
      refine ev_ireturn dX7_count_35 rfl (Or.inl rfl) (Nat.zero_le _) (Nat.zero_le _) ?_
      exact ⟨_, rfl, rfl, hm16.ms, ho⟩
    · first | omega | exact absurd hc23 (by decide)
set_option maxHeartbeats 4000000 in
set_option maxRecDepth 100000 in
theorem k_setting1 {X : mX} {h : mH} {gz : Nat → Nat} {gc : Nat → Int64} {gs : Nat} {gh : Nat → Nat} {gk : Nat → Int64} {gl : Nat} {gb : Nat → Nat} {gt : Nat} {gr : Nat → Nat} {gm : Nat} {gp : Nat → Int64} {gq : Nat → Nat} {ge : Nat → Nat} {gn : Nat} {go : Nat → Nat} {gu : Nat} {gi : Bool} {ga : Nat → Int64} {gv : Nat → Nat} {gw : Nat} {gx : Int64} (hm : MN h gz gc gs gh gk gl gb gt gr gm gp gq ge gn go gu gi ga gv gw gx) (t : Int32) (ht : inX t 0 5 = false) : CnU X m_X7_setting [.ref 270, .int t] h (fun v h1 => v = some (.int (nI 0)) ∧ MS h1 gz gc gs gh gk gl gb 1 gx ∧ Out h h1 270 13) := by
  obtain ⟨m0, m1, m2, m3, m4, m5, m6, m7, m8, m9, m10, m11, m12⟩ := id hm
  have ho : Out h h 270 13 := Out.rf
  refine cn_of_ev (L0 := [_, _]) (by decide +kernel) rfl rfl (Nat.le_of_ble_eq_true rfl) rfl ?_
  refine ev_aload_n dX7_setting_0 rfl rfl ?_
  refine ev_iload_n dX7_setting_1 rfl rfl ?_
  refine ev_callSP1 dX7_setting_2 cal_X7_isSetting lk_7_188 ⟨(Nat.le_of_ble_eq_true rfl), (Nat.le_of_ble_eq_true rfl)⟩ rfl (Nat.le_of_ble_eq_true rfl) (k_isSetB ht) ?_
  refine ev_if_eqB 12 dX7_setting_5 rfl (fun hc5 => ?_) (fun hc5 => ?_)
  · refine ev_iconst (nI 1) dX7_setting_12 rfl ?_
    refine em_pTh dX7_setting_13 lf_7_47 hm (fun h13 hm13 o13 => ?_)
    have ho := ho.tr o13
    obtain ⟨m0, m1, m2, m3, m4, m5, m6, m7, m8, m9, m10, m11, m12⟩ := id hm13
    refine ev_aload_n dX7_setting_16 rfl rfl ?_
    refine ev_getfield dX7_setting_17 lf_7_47 m0 rfl ?_
    refine ev_if_leN 27 dX7_setting_20 rfl (by omega) (fun hc20 => ?_) (fun hc20 => ?_)
    · first | omega | exact absurd hc20 (by decide)
    · refine ev_iconst (nI 0) dX7_setting_23 rfl ?_
      refine ev_goto 33 dX7_setting_24 rfl ?_
      refine ev_ireturn dX7_setting_33 rfl (Or.inl rfl) (Nat.zero_le _) (Nat.zero_le _) ?_
      exact ⟨_, rfl, rfl, hm13.ms, ho⟩
  · first | omega | exact absurd hc5 (by decide)
set_option maxHeartbeats 4000000 in
set_option maxRecDepth 100000 in
theorem k_setting {X : mX} {h : mH} {gz : Nat → Nat} {gc : Nat → Int64} {gs : Nat} {gh : Nat → Nat} {gk : Nat → Int64} {gl : Nat} {gb : Nat → Nat} {gt : Nat} {gr : Nat → Nat} {gm : Nat} {gp : Nat → Int64} {gq : Nat → Nat} {ge : Nat → Nat} {gn : Nat} {go : Nat → Nat} {gu : Nat} {gi : Bool} {ga : Nat → Int64} {gv : Nat → Nat} {gw : Nat} {gx : Int64} (hm : MN h gz gc gs gh gk gl gb gt gr gm gp gq ge gn go gu gi ga gv gw gx) {T : mSt} (hr : RelT gz gc T) (hT : InvT T) (t : Nat) (ht : t < 5) : CnU X m_X7_setting [.ref 270, .int (nI t)] h (fun v h1 => v = some (.int (nI (tV T t))) ∧ MS h1 gz gc gs gh gk gl gb 0 gx ∧ Out h h1 270 13) := by
  obtain ⟨m0, m1, m2, m3, m4, m5, m6, m7, m8, m9, m10, m11, m12⟩ := id hm
  have ho : Out h h 270 13 := Out.rf
  refine cn_of_ev (L0 := [_, _]) (by decide +kernel) rfl rfl (Nat.le_of_ble_eq_true rfl) rfl ?_
  refine ev_aload_n dX7_setting_0 rfl rfl ?_
  refine ev_iload_n dX7_setting_1 rfl rfl ?_
  refine ev_callSP1 dX7_setting_2 cal_X7_isSetting lk_7_188 ⟨(Nat.le_of_ble_eq_true rfl), (Nat.le_of_ble_eq_true rfl)⟩ rfl (Nat.le_of_ble_eq_true rfl) (k_isSetB (inY (by omega) (Nat.zero_le _) ht)) ?_
  refine ev_if_eqB 12 dX7_setting_5 rfl (fun hc5 => ?_) (fun hc5 => ?_)
  · first | omega | exact absurd hc5 (by decide)
  · refine ev_iconst (nI 0) dX7_setting_8 rfl ?_
    refine ev_goto 13 dX7_setting_9 rfl ?_
    refine em_pTh dX7_setting_13 lf_7_47 hm (fun h13 hm13 o13 => ?_)
    have ho := ho.tr o13
    obtain ⟨m0, m1, m2, m3, m4, m5, m6, m7, m8, m9, m10, m11, m12⟩ := id hm13
    refine ev_aload_n dX7_setting_16 rfl rfl ?_
    refine ev_getfield dX7_setting_17 lf_7_47 m0 rfl ?_
    refine ev_if_leN 27 dX7_setting_20 rfl (by omega) (fun hc20 => ?_) (fun hc20 => ?_)
    · refine ev_aload_n dX7_setting_27 rfl rfl ?_
      refine ev_getfield dX7_setting_28 lf_7_7 m0 rfl ?_
      refine ev_iload_n dX7_setting_31 rfl rfl ?_
      refine ev_ialoadF dX7_setting_32 m1 (by omega) (by decide) ?_
      refine ev_ireturn dX7_setting_33 rfl (Or.inl rfl) (Nat.zero_le _) (Nat.zero_le _) ?_
      first | (rw [← hr.1 t ht]; exact ⟨_, rfl, rfl, hm13.ms, ho⟩) | exact ⟨_, rfl, rfl, hm13.ms, ho⟩
    · first | omega | exact absurd hc20 (by decide)
