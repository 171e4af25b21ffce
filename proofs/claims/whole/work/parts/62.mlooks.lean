/-- the model with its rows to work in -/
def MS (h : mH) (gz : Nat → Nat) (gc : Nat → Int64) (gs : Nat) (gh : Nat → Nat) (gk : Nat → Int64) (gl : Nat) (gb : Nat → Nat) (gt : Nat) (gx : Int64) : Prop := ∃ gr gm gp gq ge gn go gu gi ga gv gw, MN h gz gc gs gh gk gl gb gt gr gm gp gq ge gn go gu gi ga gv gw gx
theorem MN.ms {h : mH} {gz : Nat → Nat} {gc : Nat → Int64} {gs : Nat} {gh : Nat → Nat} {gk : Nat → Int64} {gl : Nat} {gb : Nat → Nat} {gt : Nat} {gr : Nat → Nat} {gm : Nat} {gp : Nat → Int64} {gq : Nat → Nat} {ge : Nat → Nat} {gn : Nat} {go : Nat → Nat} {gu : Nat} {gi : Bool} {ga : Nat → Int64} {gv : Nat → Nat} {gw : Nat} {gx : Int64} (x : MN h gz gc gs gh gk gl gb gt gr gm gp gq ge gn go gu gi ga gv gw gx) : MS h gz gc gs gh gk gl gb gt gx := ⟨_, _, _, _, _, _, _, _, _, _, _, _, x⟩
theorem rel_pcl {gz : Nat → Nat} {t : Nat} {K : mCt} {S : mSo} (h : RelX gz t K S) (hK : Tile K) {p j : Nat} (hp : p < kN K) (hj : j < kP K p) : pcuM gz t j < p := by
  have he := hK.en hp
  obtain ⟨q, i, hq, hi, e⟩ := hK.pl (j := j) (by omega)
  rw [e, rel_pcp h hK hq hi]
  rcases Nat.lt_or_ge q p with z | z
  · exact z
  · have := smN_mono (kQ K) z
    have := (hK.2.2.1 p hp).1
    have := (hK.2.2.1 q hq).1
    omega
set_option maxHeartbeats 4000000 in
set_option maxRecDepth 100000 in
theorem k_firstOf {X : mX} {h : mH} {gz : Nat → Nat} {gc : Nat → Int64} {gs : Nat} {gh : Nat → Nat} {gk : Nat → Int64} {gl : Nat} {gb : Nat → Nat} {gt : Nat} {gr : Nat → Nat} {gm : Nat} {gp : Nat → Int64} {gq : Nat → Nat} {ge : Nat → Nat} {gn : Nat} {go : Nat → Nat} {gu : Nat} {gi : Bool} {ga : Nat → Int64} {gv : Nat → Nat} {gw : Nat} {gx : Int64} (hm : MN h gz gc gs gh gk gl gb gt gr gm gp gq ge gn go gu gi ga gv gw gx) {T : mSt} (hr : RelT gz gc T) (hT : InvT T) (t p : Nat) (ht : t < 4) (hp : p < kN (tC T t)) : CnP X m_X7_firstOf [.ref 270, .int (nI t), .int (nI p)] h (some (.int (nI (kP (tC T t) p)))) := by
  obtain ⟨m0, m1, m2, m3, m4, m5, m6, m7, m8, m9, m10, m11, m12⟩ := id hm
  have hkp := hr.2.1.kp
  have hxs : ∀ t, t < 4 → TxB gz t := fun t ht => hr.tx hT ht
  have hb0 : ∀ k, k < 60 → gz (551 + k) ≤ 1000 := fun k hk => Nat.le_trans (hr.2.1.ow hT.B hk) (by decide)
  have hx := hxs t ht
  have hX := hr.2.2 t ht
  have hK := hT.2.1 t ht
  have h40 := hK.1
  have hn40 := hK.n40
  have h7 := hX.1
  have he := hK.en hp
  have hpp : pcuM gz t (kP (tC T t) p) = p := rel_pcp (i := 0) hX hK hp (by omega)
  refine cn_of_ev (L0 := [_, _, _, _, _]) (by decide +kernel) rfl rfl (Nat.le_of_ble_eq_true rfl) rfl ?_
  refine ev_iconst (nI 0) dX7_firstOf_0 rfl ?_
  refine ev_istore_n (L' := [_, _, _, _, _]) dX7_firstOf_1 rfl (Nat.le_of_ble_eq_true rfl) rfl ?_
  refine ev_iload_n dX7_firstOf_2 rfl rfl ?_
  refine ev_istore (L' := [_, _, _, _, _]) dX7_firstOf_3 (Nat.le_of_ble_eq_true rfl) rfl ?_
  refine ev_pc (pc' := 5) rfl ?_
  have LP5 : ∀ (mz : Nat) (k : Nat), kP (tC T t) p - k = mz → (k ≤ kP (tC T t) p) → Ev X m_X7_firstOf B0 5 [.ref 270, .int (nI t), .int (nI p), .int (nI k), .int (nI (p - pcuM gz t k))] [] h (fun o h1 => o = .inl (some (.int (nI (kP (tC T t) p)))) ∧ h1 = h) := by
    intro mz
    induction mz using Nat.strongRecOn with
    | _ mz ih =>
      intro k hmz hk
      have hlt : k < kP (tC T t) p → pcuM gz t k < p := fun z => rel_pcl hX hK hp z
      have hle : pcuM gz t k ≤ p := by
        rcases Nat.lt_or_ge k (kP (tC T t) p) with z | z
        · exact Nat.le_of_lt (hlt z)
        · rw [show k = kP (tC T t) p by omega, hpp]
          exact Nat.le_refl p
      have hne : 0 < p - pcuM gz t k → k < kP (tC T t) p := fun z => by
        rcases Nat.lt_or_ge k (kP (tC T t) p) with w | w
        · exact w
        · rw [show k = kP (tC T t) p by omega, hpp] at z
          omega
      refine ev_iload dX7_firstOf_5 rfl ?_
      refine ev_if_leN 35 dX7_firstOf_7 rfl (by omega) (fun hc7 => ?_) (fun hc7 => ?_)
      · refine ev_iload_n dX7_firstOf_35 rfl rfl ?_
        refine ev_ireturn dX7_firstOf_36 rfl (Or.inl rfl) (Nat.zero_le _) (Nat.zero_le _) ?_
        rw [show kP (tC T t) p = k from by
          rcases Nat.lt_or_ge k (kP (tC T t) p) with z | z
          · have := hlt z
            omega
          · omega]
        exact ⟨rfl, rfl⟩
      · refine ev_iload dX7_firstOf_10 rfl ?_
        refine ev_aload_n dX7_firstOf_12 rfl rfl ?_
        refine ev_iload_n dX7_firstOf_13 rfl rfl ?_
        refine ev_iload_n dX7_firstOf_14 rfl rfl ?_
        refine ev_callVP2 dX7_firstOf_15 cal_X7_markAt lk_7_92 ⟨(Nat.le_of_ble_eq_true rfl), (Nat.le_of_ble_eq_true rfl)⟩ rfl m0 (Nat.le_of_ble_eq_true rfl) (k_markAt hm t k ht (by have := hne (by omega); omega)) ?_
        have hxk := hx.2 k (by have := hne (by omega); omega)
        refine ev_if_neN 25 dX7_firstOf_18 rfl (by omega) (fun hc18 => ?_) (fun hc18 => ?_)
        · refine ev_iconst (nI 1) dX7_firstOf_25 rfl ?_
          refine ev_isubN dX7_firstOf_26 (by omega) ?_
          refine ev_istore (L' := [_, _, _, _, _]) dX7_firstOf_27 (Nat.le_of_ble_eq_true rfl) rfl ?_
          refine ev_iincN (L' := [_, _, _, _, _]) 1 dX7_firstOf_29 rfl rfl ?_
          refine ev_goto 5 dX7_firstOf_32 rfl ?_
          refine ev_pc (pc' := 5) rfl ?_
          first
            | (have e : pcuM gz t (k + 1) = pcuM gz t k + 1 := ctN_y (p := fun j => decide (¬ gz (171 + 40 * t + j) = 0)) (decT hc18)
               rw [show p - pcuM gz t k - 1 = p - pcuM gz t (k + 1) by omega]
               have := hne (by omega); exact ih _ (by omega) (k + 1) rfl (by omega))
            | (have e : pcuM gz t (k + 1) = pcuM gz t k := ctN_n (p := fun j => decide (¬ gz (171 + 40 * t + j) = 0)) (decF (fun z => z hc18))
               rw [show p - pcuM gz t k - 0 = p - pcuM gz t (k + 1) by omega]
               have := hne (by omega); exact ih _ (by omega) (k + 1) rfl (by omega))
        · refine ev_iconst (nI 0) dX7_firstOf_21 rfl ?_
          refine ev_goto 26 dX7_firstOf_22 rfl ?_
          refine ev_isubN dX7_firstOf_26 (by omega) ?_
          refine ev_istore (L' := [_, _, _, _, _]) dX7_firstOf_27 (Nat.le_of_ble_eq_true rfl) rfl ?_
          refine ev_iincN (L' := [_, _, _, _, _]) 1 dX7_firstOf_29 rfl rfl ?_
          refine ev_goto 5 dX7_firstOf_32 rfl ?_
          refine ev_pc (pc' := 5) rfl ?_
          first
            | (have e : pcuM gz t (k + 1) = pcuM gz t k + 1 := ctN_y (p := fun j => decide (¬ gz (171 + 40 * t + j) = 0)) (decT hc18)
               rw [show p - pcuM gz t k - 1 = p - pcuM gz t (k + 1) by omega]
               have := hne (by omega); exact ih _ (by omega) (k + 1) rfl (by omega))
            | (have e : pcuM gz t (k + 1) = pcuM gz t k := ctN_n (p := fun j => decide (¬ gz (171 + 40 * t + j) = 0)) (decF (fun z => z hc18))
               rw [show p - pcuM gz t k - 0 = p - pcuM gz t (k + 1) by omega]
               have := hne (by omega); exact ih _ (by omega) (k + 1) rfl (by omega))
  exact LP5 _ 0 rfl (Nat.zero_le _)
set_option maxHeartbeats 4000000 in
set_option maxRecDepth 100000 in
theorem k_valueIn {X : mX} {h : mH} {gz : Nat → Nat} {gc : Nat → Int64} {gs : Nat} {gh : Nat → Nat} {gk : Nat → Int64} {gl : Nat} {gb : Nat → Nat} {gt : Nat} {gr : Nat → Nat} {gm : Nat} {gp : Nat → Int64} {gq : Nat → Nat} {ge : Nat → Nat} {gn : Nat} {go : Nat → Nat} {gu : Nat} {gi : Bool} {ga : Nat → Int64} {gv : Nat → Nat} {gw : Nat} {gx : Int64} (hm : MN h gz gc gs gh gk gl gb gt gr gm gp gq ge gn go gu gi ga gv gw gx) (k p : Nat) (hk : k < 60) (hp : p < 40) : CnP X m_X7_valueIn [.ref 270, .int (nI k), .int (nI p)] h (some (.int (vIn (gc k) p))) := by
  obtain ⟨m0, m1, m2, m3, m4, m5, m6, m7, m8, m9, m10, m11, m12⟩ := id hm
  refine cn_of_ev (L0 := [_, _, _]) (by decide +kernel) rfl rfl (Nat.le_of_ble_eq_true rfl) rfl ?_
  refine ev_aload_n dX7_valueIn_0 rfl rfl ?_
  refine ev_getfield dX7_valueIn_1 lf_7_13 m0 rfl ?_
  refine ev_iload_n dX7_valueIn_4 rfl rfl ?_
  refine ev_laloadN dX7_valueIn_5 m2 (by omega) (by decide) ?_
  refine ev_iconst (nI 3) dX7_valueIn_6 rfl ?_
  refine ev_iload_n dX7_valueIn_7 rfl rfl ?_
  refine ev_imulN dX7_valueIn_8 ?_
  refine ev_lshr dX7_valueIn_9 ?_
  refine ev_ldc2 _ dX7_valueIn_10 lc_7_219 ?_
  refine ev_land dX7_valueIn_13 ?_
  refine ev_l2i dX7_valueIn_14 ?_
  refine ev_iconst (nI 1) dX7_valueIn_15 rfl ?_
  refine ev_iadd dX7_valueIn_16 ?_
  refine ev_ireturn dX7_valueIn_17 rfl (Or.inl rfl) (Nat.zero_le _) (Nat.zero_le _) ?_
  exact ⟨rfl, rfl⟩
set_option maxHeartbeats 4000000 in
set_option maxRecDepth 100000 in
theorem k_sameBegin {X : mX} {h : mH} {gz : Nat → Nat} {gc : Nat → Int64} {gs : Nat} {gh : Nat → Nat} {gk : Nat → Int64} {gl : Nat} {gb : Nat → Nat} {gt : Nat} {gr : Nat → Nat} {gm : Nat} {gp : Nat → Int64} {gq : Nat → Nat} {ge : Nat → Nat} {gn : Nat} {go : Nat → Nat} {gu : Nat} {gi : Bool} {ga : Nat → Int64} {gv : Nat → Nat} {gw : Nat} {gx : Int64} (hm : MN h gz gc gs gh gk gl gb gt gr gm gp gq ge gn go gu gi ga gv gw gx) {T : mSt} (hr : RelT gz gc T) (hT : InvT T) (t u : Nat) (ht : t < 4) (hu : u < 4) : CnP X m_X7_sameBegin [.ref 270, .int (nI t), .int (nI u)] h (some (.int (nI (comV (tC T t) (tC T u) 2)))) := by
  obtain ⟨m0, m1, m2, m3, m4, m5, m6, m7, m8, m9, m10, m11, m12⟩ := id hm
  have hkp := hr.2.1.kp
  have hxs : ∀ t, t < 4 → TxB gz t := fun t ht => hr.tx hT ht
  have hb0 : ∀ k, k < 60 → gz (551 + k) ≤ 1000 := fun k hk => Nat.le_trans (hr.2.1.ow hT.B hk) (by decide)
  have hx := hxs t ht
  have hX := hr.2.2 t ht
  have hK := hT.2.1 t ht
  have h40 := hK.1
  have hn40 := hK.n40
  have h7 := hX.1
  have hx2 := hxs u hu
  have hY := hr.2.2 u hu
  have hE := hT.2.1 u hu
  have h41 := hE.1
  have hn41 := hE.n40
  have h72 := hY.1
  refine cn_of_ev (L0 := [_, _, _, _, _]) (by decide +kernel) rfl rfl (Nat.le_of_ble_eq_true rfl) rfl ?_
  refine ev_iconst (nI 0) dX7_sameBegin_0 rfl ?_
  refine ev_istore_n (L' := [_, _, _, _, _]) dX7_sameBegin_1 rfl (Nat.le_of_ble_eq_true rfl) rfl ?_
  refine ev_iconst (nI 0) dX7_sameBegin_2 rfl ?_
  refine ev_istore (L' := [_, _, _, _, _]) dX7_sameBegin_3 (Nat.le_of_ble_eq_true rfl) rfl ?_
  refine ev_pc (pc' := 5) rfl ?_
  have LP5 : ∀ (mz : Nat) (k : Nat) (pl : Nat), kN (tC T t) - k = mz → (k ≤ min (kN (tC T t)) (kN (tC T u))) → (pl = smN (kQ (tC T t)) k) → (pl = smN (kQ (tC T u)) k) → (∀ j, j < k → (kR (tC T t) j == kR (tC T u) j) = true) → Ev X m_X7_sameBegin B0 5 [.ref 270, .int (nI t), .int (nI u), .int (nI k), .int (nI pl)] [] h (fun o h1 => o = .inl (some (.int (nI (comV (tC T t) (tC T u) 2)))) ∧ h1 = h) := by
    intro mz
    induction mz using Nat.strongRecOn with
    | _ mz ih =>
      intro k pl hmz hk hp1 hp2 hq
      have hpl : pl ≤ 40 := by
        have := smN_mono (kQ (tC T t)) (show k ≤ kN (tC T t) by omega)
        rw [hK.2.2.2] at this
        omega
      have a1 : pl < gz (7 + t) ↔ k < kN (tC T t) := by
        rw [h7]
        constructor
        · intro z
          rcases Nat.lt_or_ge k (kN (tC T t)) with w | w
          · exact w
          · have := hK.2.2.2
            rw [show kN (tC T t) = k by omega] at this
            omega
        · intro z
          have := hK.en z
          have := (hK.2.2.1 k z).1
          omega
      have a2 : pl < gz (7 + u) ↔ k < kN (tC T u) := by
        rw [h72]
        constructor
        · intro z
          rcases Nat.lt_or_ge k (kN (tC T u)) with w | w
          · exact w
          · have := hE.2.2.2
            rw [show kN (tC T u) = k by omega] at this
            omega
        · intro z
          have := hE.en z
          have := (hE.2.2.1 k z).1
          omega
      have b1 : k < kN (tC T t) → gz (331 + 40 * t + pl) = slU (tS T) (kR (tC T t) k) ∧ slU (tS T) (kR (tC T t) k) < 60 := fun z => by
        have := hK.en z
        have e := hX.sl (i := 0) z (by omega)
        rw [Nat.add_zero, (hK.2.2.1 k z).1, ← hp1] at e
        exact ⟨e, hT.inS ht z⟩
      have b2 : k < kN (tC T u) → gz (331 + 40 * u + pl) = slU (tS T) (kR (tC T u) k) ∧ slU (tS T) (kR (tC T u) k) < 60 := fun z => by
        have := hE.en z
        have e := hY.sl (i := 0) z (by omega)
        rw [Nat.add_zero, (hE.2.2.1 k z).1, ← hp2] at e
        exact ⟨e, hT.inS hu z⟩
      have b3 : k < kN (tC T t) → gz (491 + gz (331 + 40 * t + pl)) = kQ (tC T t) k := fun z => by
        rw [(b1 z).1]
        exact rel_len hr hT ht z
      have hq20 : k < kN (tC T t) → kQ (tC T t) k ≤ 20 := fun z => (hK.en z).2.2.2
      refine ev_iload dX7_sameBegin_5 rfl ?_
      refine ev_aload_n dX7_sameBegin_7 rfl rfl ?_
      refine ev_iload_n dX7_sameBegin_8 rfl rfl ?_
      refine ev_callVP1 dX7_sameBegin_9 cal_X7_signsOf lk_7_58 ⟨(Nat.le_of_ble_eq_true rfl), (Nat.le_of_ble_eq_true rfl)⟩ rfl m0 (Nat.le_of_ble_eq_true rfl) (k_signsOf hm t ht) ?_
      refine ev_icmp_geN 69 dX7_sameBegin_12 rfl (by omega) (by omega) (fun hc12 => ?_) (fun hc12 => ?_)
      · refine ev_pc (pc' := 69) rfl ?_
        have fin : comV (tC T t) (tC T u) 2 = k := by
          show upTo (fun p => kR (tC T t) p == kR (tC T u) p) (min (kN (tC T t)) (kN (tC T u))) = k
          by_cases z : k < min (kN (tC T t)) (kN (tC T u))
          · refine upTo_stop z hq ?_
            have k1 : k < kN (tC T t) := by omega
            have k2 : k < kN (tC T u) := by omega
            have z1 := a1.mpr k1
            have z2 := a2.mpr k2
            first
            | (exfalso; omega)
            | (rw [ieq]
               refine decide_eq_false (fun e => hc39 ?_)
               rw [(b1 k1).1, (b2 k2).1, e])
          · rw [show min (kN (tC T t)) (kN (tC T u)) = k by omega]
            exact upTo_all hq
        rw [fin]
        refine ev_iload_n dX7_sameBegin_69 rfl rfl ?_
        refine ev_ireturn dX7_sameBegin_70 rfl (Or.inl rfl) (Nat.zero_le _) (Nat.zero_le _) ?_
        exact ⟨rfl, rfl⟩
      · refine ev_iload dX7_sameBegin_15 rfl ?_
        refine ev_aload_n dX7_sameBegin_17 rfl rfl ?_
        refine ev_iload_n dX7_sameBegin_18 rfl rfl ?_
        refine ev_callVP1 dX7_sameBegin_19 cal_X7_signsOf lk_7_58 ⟨(Nat.le_of_ble_eq_true rfl), (Nat.le_of_ble_eq_true rfl)⟩ rfl m0 (Nat.le_of_ble_eq_true rfl) (k_signsOf hm u hu) ?_
        refine ev_icmp_geN 69 dX7_sameBegin_22 rfl (by omega) (by omega) (fun hc22 => ?_) (fun hc22 => ?_)
        · refine ev_pc (pc' := 69) rfl ?_
          have fin : comV (tC T t) (tC T u) 2 = k := by
            show upTo (fun p => kR (tC T t) p == kR (tC T u) p) (min (kN (tC T t)) (kN (tC T u))) = k
            by_cases z : k < min (kN (tC T t)) (kN (tC T u))
            · refine upTo_stop z hq ?_
              have k1 : k < kN (tC T t) := by omega
              have k2 : k < kN (tC T u) := by omega
              have z1 := a1.mpr k1
              have z2 := a2.mpr k2
              first
              | (exfalso; omega)
              | (rw [ieq]
                 refine decide_eq_false (fun e => hc39 ?_)
                 rw [(b1 k1).1, (b2 k2).1, e])
            · rw [show min (kN (tC T t)) (kN (tC T u)) = k by omega]
              exact upTo_all hq
          rw [fin]
          refine ev_iload_n dX7_sameBegin_69 rfl rfl ?_
          refine ev_ireturn dX7_sameBegin_70 rfl (Or.inl rfl) (Nat.zero_le _) (Nat.zero_le _) ?_
          exact ⟨rfl, rfl⟩
        · refine ev_aload_n dX7_sameBegin_25 rfl rfl ?_
          refine ev_iload_n dX7_sameBegin_26 rfl rfl ?_
          refine ev_iload dX7_sameBegin_27 rfl ?_
          refine ev_callVP2 dX7_sameBegin_29 cal_X7_slotAt lk_7_95 ⟨(Nat.le_of_ble_eq_true rfl), (Nat.le_of_ble_eq_true rfl)⟩ rfl m0 (Nat.le_of_ble_eq_true rfl) (k_slotAt hm t pl ht (by omega)) ?_
          have hb1 := b1 (a1.mp (by omega))
          refine ev_aload_n dX7_sameBegin_32 rfl rfl ?_
          refine ev_iload_n dX7_sameBegin_33 rfl rfl ?_
          refine ev_iload dX7_sameBegin_34 rfl ?_
          refine ev_callVP2 dX7_sameBegin_36 cal_X7_slotAt lk_7_95 ⟨(Nat.le_of_ble_eq_true rfl), (Nat.le_of_ble_eq_true rfl)⟩ rfl m0 (Nat.le_of_ble_eq_true rfl) (k_slotAt hm u pl hu (by omega)) ?_
          have hb2 := b2 (a2.mp (by omega))
          refine ev_icmp_neN 69 dX7_sameBegin_39 rfl (by omega) (by omega) (fun hc39 => ?_) (fun hc39 => ?_)
          · refine ev_pc (pc' := 69) rfl ?_
            have fin : comV (tC T t) (tC T u) 2 = k := by
              show upTo (fun p => kR (tC T t) p == kR (tC T u) p) (min (kN (tC T t)) (kN (tC T u))) = k
              by_cases z : k < min (kN (tC T t)) (kN (tC T u))
              · refine upTo_stop z hq ?_
                have k1 : k < kN (tC T t) := by omega
                have k2 : k < kN (tC T u) := by omega
                have z1 := a1.mpr k1
                have z2 := a2.mpr k2
                first
                | (exfalso; omega)
                | (rw [ieq]
                   refine decide_eq_false (fun e => hc39 ?_)
                   rw [(b1 k1).1, (b2 k2).1, e])
              · rw [show min (kN (tC T t)) (kN (tC T u)) = k by omega]
                exact upTo_all hq
            rw [fin]
            refine ev_iload_n dX7_sameBegin_69 rfl rfl ?_
            refine ev_ireturn dX7_sameBegin_70 rfl (Or.inl rfl) (Nat.zero_le _) (Nat.zero_le _) ?_
            exact ⟨rfl, rfl⟩
          · refine ev_iload dX7_sameBegin_42 rfl ?_
            refine ev_aload_n dX7_sameBegin_44 rfl rfl ?_
            refine ev_getfield dX7_sameBegin_45 lf_7_7 m0 rfl ?_
            refine ev_sipush (nI 491) dX7_sameBegin_48 rfl ?_
            refine ev_aload_n dX7_sameBegin_51 rfl rfl ?_
            refine ev_iload_n dX7_sameBegin_52 rfl rfl ?_
            refine ev_iload dX7_sameBegin_53 rfl ?_
            refine ev_callVP2 dX7_sameBegin_55 cal_X7_slotAt lk_7_95 ⟨(Nat.le_of_ble_eq_true rfl), (Nat.le_of_ble_eq_true rfl)⟩ rfl m0 (Nat.le_of_ble_eq_true rfl) (k_slotAt hm t pl ht (by omega)) ?_
            have hb3 := b3 (a1.mp (by omega))
            have hb4 := hq20 (a1.mp (by omega))
            refine ev_iaddN dX7_sameBegin_58 ?_
            refine ev_ialoadF dX7_sameBegin_59 m1 (by omega) (by decide) ?_
            refine ev_iaddN dX7_sameBegin_60 ?_
            refine ev_istore (L' := [_, _, _, _, _]) dX7_sameBegin_61 (Nat.le_of_ble_eq_true rfl) rfl ?_
            refine ev_iincN (L' := [_, _, _, _, _]) 1 dX7_sameBegin_63 rfl rfl ?_
            refine ev_goto 5 dX7_sameBegin_66 rfl ?_
            refine ev_pc (pc' := 5) rfl ?_
            have k1 := a1.mp (by omega)
            have k2 := a2.mp (by omega)
            have e : kR (tC T t) k = kR (tC T u) k := by
              have z1 := slU_at (hT.inS ht k1)
              have z2 := slU_at (hT.inS hu k2)
              rw [← z1, ← z2, ← hb1.1, ← hb2.1, hc39]
            have eq : kQ (tC T t) k = kQ (tC T u) k := by rw [← (hK.cd k1).rl, ← (hE.cd k2).rl, e]
            refine ih _ (by omega) (k + 1) _ rfl (by omega) (by rw [hb3, hp1]; rfl) (by rw [hb3, hp2, eq]; rfl) (fun j hj => ?_)
            by_cases ej : j = k
            · rw [ej, ieq]; exact decide_eq_true e
            · exact hq j (by omega)
  exact LP5 _ 0 0 rfl (Nat.zero_le _) rfl rfl (fun j hj => absurd hj (Nat.not_lt_zero j))
set_option maxHeartbeats 4000000 in
set_option maxRecDepth 100000 in
theorem k_allPieces {X : mX} {h : mH} {gz : Nat → Nat} {gc : Nat → Int64} {gs : Nat} {gh : Nat → Nat} {gk : Nat → Int64} {gl : Nat} {gb : Nat → Nat} {gt : Nat} {gr : Nat → Nat} {gm : Nat} {gp : Nat → Int64} {gq : Nat → Nat} {ge : Nat → Nat} {gn : Nat} {go : Nat → Nat} {gu : Nat} {gi : Bool} {ga : Nat → Int64} {gv : Nat → Nat} {gw : Nat} {gx : Int64} (hm : MN h gz gc gs gh gk gl gb gt gr gm gp gq ge gn go gu gi ga gv gw gx) {T : mSt} (hr : RelT gz gc T) (hT : InvT T) : CnP X m_X7_allPieces [.ref 270] h (some (.int (nI (smN (fun t => kN (tC T t)) 4)))) := by
  obtain ⟨m0, m1, m2, m3, m4, m5, m6, m7, m8, m9, m10, m11, m12⟩ := id hm
  have hkp := hr.2.1.kp
  have hxs : ∀ t, t < 4 → TxB gz t := fun t ht => hr.tx hT ht
  have hb0 : ∀ k, k < 60 → gz (551 + k) ≤ 1000 := fun k hk => Nat.le_trans (hr.2.1.ow hT.B hk) (by decide)
  refine cn_of_ev (L0 := [_]) (by decide +kernel) rfl rfl (Nat.le_of_ble_eq_true rfl) rfl ?_
  refine ev_aload_n dX7_allPieces_0 rfl rfl ?_
  refine ev_iconst (nI 0) dX7_allPieces_1 rfl ?_
  refine ev_callVP1 dX7_allPieces_2 cal_X7_piecesOf lk_7_204 ⟨(Nat.le_of_ble_eq_true rfl), (Nat.le_of_ble_eq_true rfl)⟩ rfl m0 (Nat.le_of_ble_eq_true rfl) (k_piecesOf hm 0 (by decide) (hxs 0 (by decide))) ?_
  refine ev_aload_n dX7_allPieces_5 rfl rfl ?_
  refine ev_iconst (nI 1) dX7_allPieces_6 rfl ?_
  refine ev_callVP1 dX7_allPieces_7 cal_X7_piecesOf lk_7_204 ⟨(Nat.le_of_ble_eq_true rfl), (Nat.le_of_ble_eq_true rfl)⟩ rfl m0 (Nat.le_of_ble_eq_true rfl) (k_piecesOf hm 1 (by decide) (hxs 1 (by decide))) ?_
  refine ev_iaddN dX7_allPieces_10 ?_
  refine ev_aload_n dX7_allPieces_11 rfl rfl ?_
  refine ev_iconst (nI 2) dX7_allPieces_12 rfl ?_
  refine ev_callVP1 dX7_allPieces_13 cal_X7_piecesOf lk_7_204 ⟨(Nat.le_of_ble_eq_true rfl), (Nat.le_of_ble_eq_true rfl)⟩ rfl m0 (Nat.le_of_ble_eq_true rfl) (k_piecesOf hm 2 (by decide) (hxs 2 (by decide))) ?_
  refine ev_iaddN dX7_allPieces_16 ?_
  refine ev_aload_n dX7_allPieces_17 rfl rfl ?_
  refine ev_iconst (nI 3) dX7_allPieces_18 rfl ?_
  refine ev_callVP1 dX7_allPieces_19 cal_X7_piecesOf lk_7_204 ⟨(Nat.le_of_ble_eq_true rfl), (Nat.le_of_ble_eq_true rfl)⟩ rfl m0 (Nat.le_of_ble_eq_true rfl) (k_piecesOf hm 3 (by decide) (hxs 3 (by decide))) ?_
  refine ev_iaddN dX7_allPieces_22 ?_
  refine ev_ireturn dX7_allPieces_23 rfl (Or.inl rfl) (Nat.zero_le _) (Nat.zero_le _) ?_
  rw [rel_pcu (hr.2.2 0 (by decide)) (hT.2.1 0 (by decide)), rel_pcu (hr.2.2 1 (by decide)) (hT.2.1 1 (by decide)), rel_pcu (hr.2.2 2 (by decide)) (hT.2.1 2 (by decide)), rel_pcu (hr.2.2 3 (by decide)) (hT.2.1 3 (by decide))]
  rw [show smN (fun t => kN (tC T t)) 4 = kN (tC T 0) + kN (tC T 1) + kN (tC T 2) + kN (tC T 3) from by simp only [smN, Nat.zero_add]]
  exact ⟨rfl, rfl⟩
set_option maxHeartbeats 4000000 in
set_option maxRecDepth 100000 in
theorem k_commonNow {X : mX} {h : mH} {gz : Nat → Nat} {gc : Nat → Int64} {gs : Nat} {gh : Nat → Nat} {gk : Nat → Int64} {gl : Nat} {gb : Nat → Nat} {gt : Nat} {gr : Nat → Nat} {gm : Nat} {gp : Nat → Int64} {gq : Nat → Nat} {ge : Nat → Nat} {gn : Nat} {go : Nat → Nat} {gu : Nat} {gi : Bool} {ga : Nat → Int64} {gv : Nat → Nat} {gw : Nat} {gx : Int64} (hm : MN h gz gc gs gh gk gl gb gt gr gm gp gq ge gn go gu gi ga gv gw gx) {T : mSt} (hr : RelT gz gc T) (hT : InvT T) (t u w : Nat) (ht : t < 4) (hu : u < 4) (hw : w < 3) : CnP X m_X7_commonNow [.ref 270, .int (nI t), .int (nI u), .int (nI w)] h (some (.int (nI (comV (tC T t) (tC T u) w)))) := by
  obtain ⟨m0, m1, m2, m3, m4, m5, m6, m7, m8, m9, m10, m11, m12⟩ := id hm
  have hkp := hr.2.1.kp
  have hxs : ∀ t, t < 4 → TxB gz t := fun t ht => hr.tx hT ht
  have hb0 : ∀ k, k < 60 → gz (551 + k) ≤ 1000 := fun k hk => Nat.le_trans (hr.2.1.ow hT.B hk) (by decide)
  refine cn_of_ev (L0 := [_, _, _, _]) (by decide +kernel) rfl rfl (Nat.le_of_ble_eq_true rfl) rfl ?_
  refine ev_iload_n dX7_commonNow_0 rfl rfl ?_
  refine ev_if_neN 13 dX7_commonNow_1 rfl (by omega) (fun hc1 => ?_) (fun hc1 => ?_)
  · refine ev_iload_n dX7_commonNow_13 rfl rfl ?_
    refine ev_iconst (nI 1) dX7_commonNow_14 rfl ?_
    refine ev_icmp_neN 27 dX7_commonNow_15 rfl (by omega) (by omega) (fun hc15 => ?_) (fun hc15 => ?_)
    · refine ev_aload_n dX7_commonNow_27 rfl rfl ?_
      refine ev_iload_n dX7_commonNow_28 rfl rfl ?_
      refine ev_iload_n dX7_commonNow_29 rfl rfl ?_
      refine ev_callVP2 dX7_commonNow_30 cal_X7_sameBegin lk_7_248 ⟨(Nat.le_of_ble_eq_true rfl), (Nat.le_of_ble_eq_true rfl)⟩ rfl m0 (Nat.le_of_ble_eq_true rfl) (k_sameBegin hm hr hT t u ht hu) ?_
      refine ev_pc (pc' := 33) rfl ?_
      first
        | (have e : w = 0 := by omega
           rw [e, ← rel_shp hr hT ht hu]
           refine ev_ireturn dX7_commonNow_33 rfl (Or.inl rfl) (Nat.zero_le _) (Nat.zero_le _) ?_
           exact ⟨rfl, rfl⟩)
        | (have e : w = 1 := by omega
           rw [e, ← rel_shs hr hT ht hu]
           refine ev_ireturn dX7_commonNow_33 rfl (Or.inl rfl) (Nat.zero_le _) (Nat.zero_le _) ?_
           exact ⟨rfl, rfl⟩)
        | (have e : w = 2 := by omega
           rw [e]
           refine ev_ireturn dX7_commonNow_33 rfl (Or.inl rfl) (Nat.zero_le _) (Nat.zero_le _) ?_
           exact ⟨rfl, rfl⟩)
    · refine ev_aload_n dX7_commonNow_18 rfl rfl ?_
      refine ev_iload_n dX7_commonNow_19 rfl rfl ?_
      refine ev_iload_n dX7_commonNow_20 rfl rfl ?_
      refine ev_callVP2 dX7_commonNow_21 cal_X7_sharedSigns lk_7_245 ⟨(Nat.le_of_ble_eq_true rfl), (Nat.le_of_ble_eq_true rfl)⟩ rfl m0 (Nat.le_of_ble_eq_true rfl) (k_sharedSigns hm hxs t ht u hu) ?_
      refine ev_goto 33 dX7_commonNow_24 rfl ?_
      refine ev_pc (pc' := 33) rfl ?_
      first
        | (have e : w = 0 := by omega
           rw [e, ← rel_shp hr hT ht hu]
           refine ev_ireturn dX7_commonNow_33 rfl (Or.inl rfl) (Nat.zero_le _) (Nat.zero_le _) ?_
           exact ⟨rfl, rfl⟩)
        | (have e : w = 1 := by omega
           rw [e, ← rel_shs hr hT ht hu]
           refine ev_ireturn dX7_commonNow_33 rfl (Or.inl rfl) (Nat.zero_le _) (Nat.zero_le _) ?_
           exact ⟨rfl, rfl⟩)
        | (have e : w = 2 := by omega
           rw [e]
           refine ev_ireturn dX7_commonNow_33 rfl (Or.inl rfl) (Nat.zero_le _) (Nat.zero_le _) ?_
           exact ⟨rfl, rfl⟩)
  · refine ev_aload_n dX7_commonNow_4 rfl rfl ?_
    refine ev_iload_n dX7_commonNow_5 rfl rfl ?_
    refine ev_iload_n dX7_commonNow_6 rfl rfl ?_
    refine ev_callVP2 dX7_commonNow_7 cal_X7_sharedPieces lk_7_242 ⟨(Nat.le_of_ble_eq_true rfl), (Nat.le_of_ble_eq_true rfl)⟩ rfl m0 (Nat.le_of_ble_eq_true rfl) (k_sharedPieces hm hkp hxs t u ht hu) ?_
    refine ev_goto 33 dX7_commonNow_10 rfl ?_
    refine ev_pc (pc' := 33) rfl ?_
    first
      | (have e : w = 0 := by omega
         rw [e, ← rel_shp hr hT ht hu]
         refine ev_ireturn dX7_commonNow_33 rfl (Or.inl rfl) (Nat.zero_le _) (Nat.zero_le _) ?_
         exact ⟨rfl, rfl⟩)
      | (have e : w = 1 := by omega
         rw [e, ← rel_shs hr hT ht hu]
         refine ev_ireturn dX7_commonNow_33 rfl (Or.inl rfl) (Nat.zero_le _) (Nat.zero_le _) ?_
         exact ⟨rfl, rfl⟩)
      | (have e : w = 2 := by omega
         rw [e]
         refine ev_ireturn dX7_commonNow_33 rfl (Or.inl rfl) (Nat.zero_le _) (Nat.zero_le _) ?_
         exact ⟨rfl, rfl⟩)
set_option maxHeartbeats 4000000 in
set_option maxRecDepth 100000 in
theorem k_textNow {X : mX} {h : mH} {gz : Nat → Nat} {gc : Nat → Int64} {gs : Nat} {gh : Nat → Nat} {gk : Nat → Int64} {gl : Nat} {gb : Nat → Nat} {gt : Nat} {gr : Nat → Nat} {gm : Nat} {gp : Nat → Int64} {gq : Nat → Nat} {ge : Nat → Nat} {gn : Nat} {go : Nat → Nat} {gu : Nat} {gi : Bool} {ga : Nat → Int64} {gv : Nat → Nat} {gw : Nat} {gx : Int64} (hm : MN h gz gc gs gh gk gl gb gt gr gm gp gq ge gn go gu gi ga gv gw gx) {T : mSt} (hr : RelT gz gc T) (hT : InvT T) (t w : Nat) (ht : t < 4) (hw : w < 6) : CnP X m_X7_textNow [.ref 270, .int (nI t), .int (nI w)] h (some (.int (nI (txtV T t w)))) := by
  obtain ⟨m0, m1, m2, m3, m4, m5, m6, m7, m8, m9, m10, m11, m12⟩ := id hm
  have hkp := hr.2.1.kp
  have hxs : ∀ t, t < 4 → TxB gz t := fun t ht => hr.tx hT ht
  have hb0 : ∀ k, k < 60 → gz (551 + k) ≤ 1000 := fun k hk => Nat.le_trans (hr.2.1.ow hT.B hk) (by decide)
  have hx := hxs t ht
  have hX := hr.2.2 t ht
  have hK := hT.2.1 t ht
  have h40 := hK.1
  have hn40 := hK.n40
  have h7 := hX.1
  refine cn_of_ev (L0 := [_, _, _]) (by decide +kernel) rfl rfl (Nat.le_of_ble_eq_true rfl) rfl ?_
  refine ev_iload_n dX7_textNow_0 rfl rfl ?_
  refine ev_pc (pc' := 1) rfl ?_
  obtain rfl | rfl | rfl | rfl | rfl | rfl : w = 0 ∨ w = 1 ∨ w = 2 ∨ w = 3 ∨ w = 4 ∨ w = 5 := by omega
  · refine ev_tableIn 36 dX7_textNow_1 (by decide) (by decide) rfl rfl ?_
    refine ev_aload_n dX7_textNow_36 rfl rfl ?_
    refine ev_iload_n dX7_textNow_37 rfl rfl ?_
    refine ev_callVP1 dX7_textNow_38 cal_X7_signsOf lk_7_58 ⟨(Nat.le_of_ble_eq_true rfl), (Nat.le_of_ble_eq_true rfl)⟩ rfl m0 (Nat.le_of_ble_eq_true rfl) (k_signsOf hm t ht) ?_
    refine ev_ireturn dX7_textNow_41 rfl (Or.inl rfl) (Nat.zero_le _) (Nat.zero_le _) ?_
    rw [hX.1]
    exact ⟨rfl, rfl⟩
  · refine ev_tableIn 42 dX7_textNow_1 (by decide) (by decide) rfl rfl ?_
    refine ev_aload_n dX7_textNow_42 rfl rfl ?_
    refine ev_iload_n dX7_textNow_43 rfl rfl ?_
    refine ev_callVP1 dX7_textNow_44 cal_X7_piecesOf lk_7_204 ⟨(Nat.le_of_ble_eq_true rfl), (Nat.le_of_ble_eq_true rfl)⟩ rfl m0 (Nat.le_of_ble_eq_true rfl) (k_piecesOf hm t ht hx) ?_
    refine ev_ireturn dX7_textNow_47 rfl (Or.inl rfl) (Nat.zero_le _) (Nat.zero_le _) ?_
    rw [rel_pcu hX hK]
    exact ⟨rfl, rfl⟩
  · refine ev_tableIn 48 dX7_textNow_1 (by decide) (by decide) rfl rfl ?_
    refine ev_aload_n dX7_textNow_48 rfl rfl ?_
    refine ev_iload_n dX7_textNow_49 rfl rfl ?_
    refine ev_callVP1 dX7_textNow_50 cal_X7_unlikePieces lk_7_227 ⟨(Nat.le_of_ble_eq_true rfl), (Nat.le_of_ble_eq_true rfl)⟩ rfl m0 (Nat.le_of_ble_eq_true rfl) (k_unlikePieces hm hkp t ht hx) ?_
    refine ev_ireturn dX7_textNow_53 rfl (Or.inl rfl) (Nat.zero_le _) (Nat.zero_le _) ?_
    rw [rel_unl hr hT ht]
    exact ⟨rfl, rfl⟩
  · refine ev_tableIn 54 dX7_textNow_1 (by decide) (by decide) rfl rfl ?_
    refine ev_aload_n dX7_textNow_54 rfl rfl ?_
    refine ev_iload_n dX7_textNow_55 rfl rfl ?_
    refine ev_callVP1 dX7_textNow_56 cal_X7_forcedPieces lk_7_230 ⟨(Nat.le_of_ble_eq_true rfl), (Nat.le_of_ble_eq_true rfl)⟩ rfl m0 (Nat.le_of_ble_eq_true rfl) (k_forcedPieces hm t ht hx) ?_
    refine ev_ireturn dX7_textNow_59 rfl (Or.inl rfl) (Nat.zero_le _) (Nat.zero_le _) ?_
    rw [rel_frc hX hK]
    exact ⟨rfl, rfl⟩
  · refine ev_tableIn 60 dX7_textNow_1 (by decide) (by decide) rfl rfl ?_
    refine ev_aload_n dX7_textNow_60 rfl rfl ?_
    refine ev_iload_n dX7_textNow_61 rfl rfl ?_
    refine ev_callVP1 dX7_textNow_62 cal_X7_longestPiece lk_7_233 ⟨(Nat.le_of_ble_eq_true rfl), (Nat.le_of_ble_eq_true rfl)⟩ rfl m0 (Nat.le_of_ble_eq_true rfl) (k_longestPiece hm hkp hxs t ht) ?_
    refine ev_ireturn dX7_textNow_65 rfl (Or.inl rfl) (Nat.zero_le _) (Nat.zero_le _) ?_
    rw [rel_lng hr hT ht]
    exact ⟨rfl, rfl⟩
  · refine ev_tableOut 66 dX7_textNow_1 (Or.inr (by decide)) rfl ?_
    refine ev_aload_n dX7_textNow_66 rfl rfl ?_
    refine ev_iload_n dX7_textNow_67 rfl rfl ?_
    refine ev_callVP1 dX7_textNow_68 cal_X7_ownSigns lk_7_236 ⟨(Nat.le_of_ble_eq_true rfl), (Nat.le_of_ble_eq_true rfl)⟩ rfl m0 (Nat.le_of_ble_eq_true rfl) (k_ownSigns hm hxs t ht) ?_
    refine ev_ireturn dX7_textNow_71 rfl (Or.inl rfl) (Nat.zero_le _) (Nat.zero_le _) ?_
    rw [rel_ows hr hT ht]
    exact ⟨rfl, rfl⟩
set_option maxHeartbeats 4000000 in
set_option maxRecDepth 100000 in
theorem k_counted {X : mX} {h : mH} {gz : Nat → Nat} {gc : Nat → Int64} {gs : Nat} {gh : Nat → Nat} {gk : Nat → Int64} {gl : Nat} {gb : Nat → Nat} {gt : Nat} {gr : Nat → Nat} {gm : Nat} {gp : Nat → Int64} {gq : Nat → Nat} {ge : Nat → Nat} {gn : Nat} {go : Nat → Nat} {gu : Nat} {gi : Bool} {ga : Nat → Int64} {gv : Nat → Nat} {gw : Nat} {gx : Int64} (hm : MN h gz gc gs gh gk gl gb gt gr gm gp gq ge gn go gu gi ga gv gw gx) {A : mAs} (hr : RelT gz gc (aT A)) (hT : InvT (aT A)) (hgs : gs = aN A) (w : Nat) (hw : w < 10) : CnP X m_X7_counted [.ref 270, .int (nI w)] h (some (.int (nI (cntV A w)))) := by
  obtain ⟨m0, m1, m2, m3, m4, m5, m6, m7, m8, m9, m10, m11, m12⟩ := id hm
  have hkp := hr.2.1.kp
  have hxs : ∀ t, t < 4 → TxB gz t := fun t ht => hr.tx hT ht
  have hb0 : ∀ k, k < 60 → gz (551 + k) ≤ 1000 := fun k hk => Nat.le_trans (hr.2.1.ow hT.B hk) (by decide)
  have hfr := rel_fre hr.2.1
  have hfl : freM gz ≤ 60 := ctN_le _ _
  refine cn_of_ev (L0 := [_, _]) (by decide +kernel) rfl rfl (Nat.le_of_ble_eq_true rfl) rfl ?_
  refine ev_iload_n dX7_counted_0 rfl rfl ?_
  refine ev_pc (pc' := 1) rfl ?_
  obtain rfl | rfl | rfl | rfl | rfl | rfl | rfl | rfl | rfl | rfl : w = 0 ∨ w = 1 ∨ w = 2 ∨ w = 3 ∨ w = 4 ∨ w = 5 ∨ w = 6 ∨ w = 7 ∨ w = 8 ∨ w = 9 := by omega
  · refine ev_tableIn 52 dX7_counted_1 (by decide) (by decide) rfl rfl ?_
    refine ev_aload_n dX7_counted_52 rfl rfl ?_
    refine ev_callVP0 dX7_counted_53 cal_X7_allSigns lk_7_254 ⟨(Nat.le_of_ble_eq_true rfl), (Nat.le_of_ble_eq_true rfl)⟩ rfl m0 (Nat.le_of_ble_eq_true rfl) (k_allSigns hm) ?_
    refine ev_ireturn dX7_counted_56 rfl (Or.inl rfl) (Nat.zero_le _) (Nat.zero_le _) ?_
    rw [(hr.2.2 0 (by decide)).1, (hr.2.2 1 (by decide)).1, (hr.2.2 2 (by decide)).1, (hr.2.2 3 (by decide)).1]
    rw [show cntV A 0 = kL (tC (aT A) 0) + kL (tC (aT A) 1) + kL (tC (aT A) 2) + kL (tC (aT A) 3) from by simp only [cntV, smN, Nat.zero_add]]
    exact ⟨rfl, rfl⟩
  · refine ev_tableIn 57 dX7_counted_1 (by decide) (by decide) rfl rfl ?_
    refine ev_aload_n dX7_counted_57 rfl rfl ?_
    refine ev_callVP0 dX7_counted_58 cal_X7_allPieces lk_7_257 ⟨(Nat.le_of_ble_eq_true rfl), (Nat.le_of_ble_eq_true rfl)⟩ rfl m0 (Nat.le_of_ble_eq_true rfl) (k_allPieces hm hr hT) ?_
    refine ev_ireturn dX7_counted_61 rfl (Or.inl rfl) (Nat.zero_le _) (Nat.zero_le _) ?_
    exact ⟨rfl, rfl⟩
  · refine ev_tableIn 62 dX7_counted_1 (by decide) (by decide) rfl rfl ?_
    refine ev_bipush (nI 60) dX7_counted_62 rfl ?_
    refine ev_aload_n dX7_counted_64 rfl rfl ?_
    refine ev_callVP0 dX7_counted_65 cal_X7_freeSlots lk_7_108 ⟨(Nat.le_of_ble_eq_true rfl), (Nat.le_of_ble_eq_true rfl)⟩ rfl m0 (Nat.le_of_ble_eq_true rfl) (k_freeSlots hm hkp) ?_
    refine ev_isubN dX7_counted_68 (by omega) ?_
    refine ev_ireturn dX7_counted_69 rfl (Or.inl rfl) (Nat.zero_le _) (Nat.zero_le _) ?_
    rw [show cntV A 2 = 60 - freM gz by (show pcS (tS (aT A)) = _; omega)]
    exact ⟨rfl, rfl⟩
  · refine ev_tableIn 70 dX7_counted_1 (by decide) (by decide) rfl rfl ?_
    refine ev_aload_n dX7_counted_70 rfl rfl ?_
    refine ev_callVP0 dX7_counted_71 cal_X7_storeSize lk_7_112 ⟨(Nat.le_of_ble_eq_true rfl), (Nat.le_of_ble_eq_true rfl)⟩ rfl m0 (Nat.le_of_ble_eq_true rfl) (k_storeSize hm hkp) ?_
    refine ev_ireturn dX7_counted_74 rfl (Or.inl rfl) (Nat.zero_le _) (Nat.zero_le _) ?_
    rw [rel_siz hr.2.1]
    exact ⟨rfl, rfl⟩
  · refine ev_tableIn 75 dX7_counted_1 (by decide) (by decide) rfl rfl ?_
    refine ev_aload_n dX7_counted_75 rfl rfl ?_
    refine ev_iload_n dX7_counted_76 rfl rfl ?_
    refine ev_iconst (nI 5) dX7_counted_77 rfl ?_
    refine ev_icmp_neN 85 dX7_counted_78 rfl (by omega) (by omega) (fun hc78 => ?_) (fun hc78 => ?_)
    · refine ev_iconst (nI 0) dX7_counted_85 rfl ?_
      refine ev_pc (pc' := 86) rfl ?_
      first
        | (refine ev_callVP1 dX7_counted_86 cal_X7_ownerless lk_7_260 ⟨(Nat.le_of_ble_eq_true rfl), (Nat.le_of_ble_eq_true rfl)⟩ rfl m0 (Nat.le_of_ble_eq_true rfl) (show CnP X m_X7_ownerless [.ref 270, .int (nI 0)] h _ from k_ownerless hm hkp hb0 false) ?_
           refine ev_ireturn dX7_counted_89 rfl (Or.inl rfl) (Nat.zero_le _) (Nat.zero_le _) ?_
           rw [(rel_owl hr.2.1).1]
           exact ⟨rfl, rfl⟩)
        | (refine ev_callVP1 dX7_counted_86 cal_X7_ownerless lk_7_260 ⟨(Nat.le_of_ble_eq_true rfl), (Nat.le_of_ble_eq_true rfl)⟩ rfl m0 (Nat.le_of_ble_eq_true rfl) (show CnP X m_X7_ownerless [.ref 270, .int (nI 1)] h _ from k_ownerless hm hkp hb0 true) ?_
           refine ev_ireturn dX7_counted_89 rfl (Or.inl rfl) (Nat.zero_le _) (Nat.zero_le _) ?_
           rw [(rel_owl hr.2.1).2]
           exact ⟨rfl, rfl⟩)
        | omega
    · refine ev_iconst (nI 1) dX7_counted_81 rfl ?_
      refine ev_goto 86 dX7_counted_82 rfl ?_
      refine ev_pc (pc' := 86) rfl ?_
      first
        | (refine ev_callVP1 dX7_counted_86 cal_X7_ownerless lk_7_260 ⟨(Nat.le_of_ble_eq_true rfl), (Nat.le_of_ble_eq_true rfl)⟩ rfl m0 (Nat.le_of_ble_eq_true rfl) (show CnP X m_X7_ownerless [.ref 270, .int (nI 0)] h _ from k_ownerless hm hkp hb0 false) ?_
           refine ev_ireturn dX7_counted_89 rfl (Or.inl rfl) (Nat.zero_le _) (Nat.zero_le _) ?_
           rw [(rel_owl hr.2.1).1]
           exact ⟨rfl, rfl⟩)
        | (refine ev_callVP1 dX7_counted_86 cal_X7_ownerless lk_7_260 ⟨(Nat.le_of_ble_eq_true rfl), (Nat.le_of_ble_eq_true rfl)⟩ rfl m0 (Nat.le_of_ble_eq_true rfl) (show CnP X m_X7_ownerless [.ref 270, .int (nI 1)] h _ from k_ownerless hm hkp hb0 true) ?_
           refine ev_ireturn dX7_counted_89 rfl (Or.inl rfl) (Nat.zero_le _) (Nat.zero_le _) ?_
           rw [(rel_owl hr.2.1).2]
           exact ⟨rfl, rfl⟩)
        | omega
  · refine ev_tableIn 75 dX7_counted_1 (by decide) (by decide) rfl rfl ?_
    refine ev_aload_n dX7_counted_75 rfl rfl ?_
    refine ev_iload_n dX7_counted_76 rfl rfl ?_
    refine ev_iconst (nI 5) dX7_counted_77 rfl ?_
    refine ev_icmp_neN 85 dX7_counted_78 rfl (by omega) (by omega) (fun hc78 => ?_) (fun hc78 => ?_)
    · refine ev_iconst (nI 0) dX7_counted_85 rfl ?_
      refine ev_pc (pc' := 86) rfl ?_
      first
        | (refine ev_callVP1 dX7_counted_86 cal_X7_ownerless lk_7_260 ⟨(Nat.le_of_ble_eq_true rfl), (Nat.le_of_ble_eq_true rfl)⟩ rfl m0 (Nat.le_of_ble_eq_true rfl) (show CnP X m_X7_ownerless [.ref 270, .int (nI 0)] h _ from k_ownerless hm hkp hb0 false) ?_
           refine ev_ireturn dX7_counted_89 rfl (Or.inl rfl) (Nat.zero_le _) (Nat.zero_le _) ?_
           rw [(rel_owl hr.2.1).1]
           exact ⟨rfl, rfl⟩)
        | (refine ev_callVP1 dX7_counted_86 cal_X7_ownerless lk_7_260 ⟨(Nat.le_of_ble_eq_true rfl), (Nat.le_of_ble_eq_true rfl)⟩ rfl m0 (Nat.le_of_ble_eq_true rfl) (show CnP X m_X7_ownerless [.ref 270, .int (nI 1)] h _ from k_ownerless hm hkp hb0 true) ?_
           refine ev_ireturn dX7_counted_89 rfl (Or.inl rfl) (Nat.zero_le _) (Nat.zero_le _) ?_
           rw [(rel_owl hr.2.1).2]
           exact ⟨rfl, rfl⟩)
        | omega
    · refine ev_iconst (nI 1) dX7_counted_81 rfl ?_
      refine ev_goto 86 dX7_counted_82 rfl ?_
      refine ev_pc (pc' := 86) rfl ?_
      first
        | (refine ev_callVP1 dX7_counted_86 cal_X7_ownerless lk_7_260 ⟨(Nat.le_of_ble_eq_true rfl), (Nat.le_of_ble_eq_true rfl)⟩ rfl m0 (Nat.le_of_ble_eq_true rfl) (show CnP X m_X7_ownerless [.ref 270, .int (nI 0)] h _ from k_ownerless hm hkp hb0 false) ?_
           refine ev_ireturn dX7_counted_89 rfl (Or.inl rfl) (Nat.zero_le _) (Nat.zero_le _) ?_
           rw [(rel_owl hr.2.1).1]
           exact ⟨rfl, rfl⟩)
        | (refine ev_callVP1 dX7_counted_86 cal_X7_ownerless lk_7_260 ⟨(Nat.le_of_ble_eq_true rfl), (Nat.le_of_ble_eq_true rfl)⟩ rfl m0 (Nat.le_of_ble_eq_true rfl) (show CnP X m_X7_ownerless [.ref 270, .int (nI 1)] h _ from k_ownerless hm hkp hb0 true) ?_
           refine ev_ireturn dX7_counted_89 rfl (Or.inl rfl) (Nat.zero_le _) (Nat.zero_le _) ?_
           rw [(rel_owl hr.2.1).2]
           exact ⟨rfl, rfl⟩)
        | omega
  · refine ev_tableIn 90 dX7_counted_1 (by decide) (by decide) rfl rfl ?_
    refine ev_aload_n dX7_counted_90 rfl rfl ?_
    refine ev_callVP0 dX7_counted_91 cal_X7_mostOwners lk_7_263 ⟨(Nat.le_of_ble_eq_true rfl), (Nat.le_of_ble_eq_true rfl)⟩ rfl m0 (Nat.le_of_ble_eq_true rfl) (k_mostOwners hm hb0) ?_
    refine ev_ireturn dX7_counted_94 rfl (Or.inl rfl) (Nat.zero_le _) (Nat.zero_le _) ?_
    rw [rel_mow hr.2.1]
    exact ⟨rfl, rfl⟩
  · refine ev_tableIn 95 dX7_counted_1 (by decide) (by decide) rfl rfl ?_
    refine ev_aload_n dX7_counted_95 rfl rfl ?_
    refine ev_getfield dX7_counted_96 lf_7_7 m0 rfl ?_
    refine ev_iconst (nI 5) dX7_counted_99 rfl ?_
    refine ev_ialoadF dX7_counted_100 m1 (by omega) (by decide) ?_
    refine ev_ireturn dX7_counted_101 rfl (Or.inl rfl) (Nat.zero_le _) (Nat.zero_le _) ?_
    rw [hr.2.1.1]
    exact ⟨rfl, rfl⟩
  · refine ev_tableIn 102 dX7_counted_1 (by decide) (by decide) rfl rfl ?_
    refine ev_aload_n dX7_counted_102 rfl rfl ?_
    refine ev_getfield dX7_counted_103 lf_7_7 m0 rfl ?_
    refine ev_bipush (nI 6) dX7_counted_106 rfl ?_
    refine ev_ialoadF dX7_counted_108 m1 (by omega) (by decide) ?_
    refine ev_ireturn dX7_counted_109 rfl (Or.inl rfl) (Nat.zero_le _) (Nat.zero_le _) ?_
    rw [hr.2.1.2.1]
    exact ⟨rfl, rfl⟩
  · refine ev_tableOut 110 dX7_counted_1 (Or.inr (by decide)) rfl ?_
    refine ev_aload_n dX7_counted_110 rfl rfl ?_
    refine ev_getfield dX7_counted_111 lf_7_51 m0 rfl ?_
    refine ev_ireturn dX7_counted_114 rfl (Or.inl rfl) (Nat.zero_le _) (Nat.zero_le _) ?_
    rw [hgs]
    exact ⟨rfl, rfl⟩
set_option maxHeartbeats 4000000 in
set_option maxRecDepth 100000 in
theorem k_slotNow {X : mX} {h : mH} {gz : Nat → Nat} {gc : Nat → Int64} {gs : Nat} {gh : Nat → Nat} {gk : Nat → Int64} {gl : Nat} {gb : Nat → Nat} {gt : Nat} {gr : Nat → Nat} {gm : Nat} {gp : Nat → Int64} {gq : Nat → Nat} {ge : Nat → Nat} {gn : Nat} {go : Nat → Nat} {gu : Nat} {gi : Bool} {ga : Nat → Int64} {gv : Nat → Nat} {gw : Nat} {gx : Int64} (hm : MN h gz gc gs gh gk gl gb gt gr gm gp gq ge gn go gu gi ga gv gw gx) {T : mSt} (hr : RelT gz gc T) (hT : InvT T) (k w : Nat) (hk : k < 60) (hw : w < 5) : CnP X m_X7_slotNow [.ref 270, .int (nI k), .int (nI w)] h (some (.int (if isF (tS T) k = true then -1 else sltV T k w))) := by
  obtain ⟨m0, m1, m2, m3, m4, m5, m6, m7, m8, m9, m10, m11, m12⟩ := id hm
  have hkp := hr.2.1.kp
  have hxs : ∀ t, t < 4 → TxB gz t := fun t ht => hr.tx hT ht
  have hb0 : ∀ k, k < 60 → gz (551 + k) ≤ 1000 := fun k hk => Nat.le_trans (hr.2.1.ow hT.B hk) (by decide)
  have hkk := hkp k hk
  have hbk := hb0 k hk
  refine cn_of_ev (L0 := [_, _, _]) (by decide +kernel) rfl rfl (Nat.le_of_ble_eq_true rfl) rfl ?_
  refine ev_aload_n dX7_slotNow_0 rfl rfl ?_
  refine ev_iload_n dX7_slotNow_1 rfl rfl ?_
  refine ev_callVP1 dX7_slotNow_2 cal_X7_isKept lk_7_82 ⟨(Nat.le_of_ble_eq_true rfl), (Nat.le_of_ble_eq_true rfl)⟩ rfl m0 (Nat.le_of_ble_eq_true rfl) (k_isKept hm k hk (by omega)) ?_
  refine ev_if_neB 10 dX7_slotNow_5 rfl (fun hc5 => ?_) (fun hc5 => ?_)
  · refine ev_pc (pc' := 10) rfl ?_
    have e : sR (tS T) k ≠ 0 := (hr.2.1.pos hk).mp (of_decide_eq_true hc5)
    obtain ⟨cd, eo⟩ := (hr.2.1.2.2 k hk).2 e
    have hle := cd.le
    rw [if_neg (fun z => e (isF_iff.mp z))]
    obtain rfl | rfl | rfl | rfl | rfl : w = 0 ∨ w = 1 ∨ w = 2 ∨ w = 3 ∨ w = 4 := by omega
    · refine ev_iload_n dX7_slotNow_10 rfl rfl ?_
      refine ev_tableIn 40 dX7_slotNow_11 (by decide) (by decide) rfl rfl ?_
      refine ev_aload_n dX7_slotNow_40 rfl rfl ?_
      refine ev_getfield dX7_slotNow_41 lf_7_7 m0 rfl ?_
      refine ev_sipush (nI 491) dX7_slotNow_44 rfl ?_
      refine ev_iload_n dX7_slotNow_47 rfl rfl ?_
      refine ev_iaddN dX7_slotNow_48 ?_
      refine ev_ialoadF dX7_slotNow_49 m1 (by omega) (by decide) ?_
      refine ev_ireturn dX7_slotNow_50 rfl (Or.inl rfl) (Nat.zero_le _) (Nat.zero_le _) ?_
      rw [← cd.rl]
      exact ⟨rfl, rfl⟩
    · refine ev_iload_n dX7_slotNow_10 rfl rfl ?_
      refine ev_tableIn 51 dX7_slotNow_11 (by decide) (by decide) rfl rfl ?_
      refine ev_aload_n dX7_slotNow_51 rfl rfl ?_
      refine ev_getfield dX7_slotNow_52 lf_7_7 m0 rfl ?_
      refine ev_sipush (nI 551) dX7_slotNow_55 rfl ?_
      refine ev_iload_n dX7_slotNow_58 rfl rfl ?_
      refine ev_iaddN dX7_slotNow_59 ?_
      refine ev_ialoadF dX7_slotNow_60 m1 (by omega) (by decide) ?_
      refine ev_ireturn dX7_slotNow_61 rfl (Or.inl rfl) (Nat.zero_le _) (Nat.zero_le _) ?_
      rw [eo]
      exact ⟨rfl, rfl⟩
    · refine ev_iload_n dX7_slotNow_10 rfl rfl ?_
      refine ev_tableIn 62 dX7_slotNow_11 (by decide) (by decide) rfl rfl ?_
      refine ev_aload_n dX7_slotNow_62 rfl rfl ?_
      refine ev_iload_n dX7_slotNow_63 rfl rfl ?_
      refine ev_iconst (nI 0) dX7_slotNow_64 rfl ?_
      refine ev_callVP2 dX7_slotNow_65 cal_X7_valueIn lk_7_221 ⟨(Nat.le_of_ble_eq_true rfl), (Nat.le_of_ble_eq_true rfl)⟩ rfl m0 (Nat.le_of_ble_eq_true rfl) (k_valueIn hm k 0 hk (by omega)) ?_
      refine ev_ireturn dX7_slotNow_68 rfl (Or.inl rfl) (Nat.zero_le _) (Nat.zero_le _) ?_
      rw [show sltV T k 2 = vIn (gc k) 0 from cd.fst]
      exact ⟨rfl, rfl⟩
    · refine ev_iload_n dX7_slotNow_10 rfl rfl ?_
      refine ev_tableIn 69 dX7_slotNow_11 (by decide) (by decide) rfl rfl ?_
      refine ev_aload_n dX7_slotNow_69 rfl rfl ?_
      refine ev_iload_n dX7_slotNow_70 rfl rfl ?_
      refine ev_aload_n dX7_slotNow_71 rfl rfl ?_
      refine ev_getfield dX7_slotNow_72 lf_7_7 m0 rfl ?_
      refine ev_sipush (nI 491) dX7_slotNow_75 rfl ?_
      refine ev_iload_n dX7_slotNow_78 rfl rfl ?_
      refine ev_iaddN dX7_slotNow_79 ?_
      refine ev_ialoadF dX7_slotNow_80 m1 (by omega) (by decide) ?_
      refine ev_iconst (nI 1) dX7_slotNow_81 rfl ?_
      refine ev_isubN dX7_slotNow_82 (by omega) ?_
      refine ev_callVP2 dX7_slotNow_83 cal_X7_valueIn lk_7_221 ⟨(Nat.le_of_ble_eq_true rfl), (Nat.le_of_ble_eq_true rfl)⟩ rfl m0 (Nat.le_of_ble_eq_true rfl) (k_valueIn hm k _ hk (by omega)) ?_
      refine ev_ireturn dX7_slotNow_86 rfl (Or.inl rfl) (Nat.zero_le _) (Nat.zero_le _) ?_
      rw [show sltV T k 3 = vIn (gc k) (gz (491 + k) - 1) from cd.lst]
      exact ⟨rfl, rfl⟩
    · refine ev_iload_n dX7_slotNow_10 rfl rfl ?_
      refine ev_tableOut 87 dX7_slotNow_11 (Or.inr (by decide)) rfl ?_
      refine ev_aload_n dX7_slotNow_87 rfl rfl ?_
      refine ev_iload_n dX7_slotNow_88 rfl rfl ?_
      refine ev_callVP1 dX7_slotNow_89 cal_X7_textsWith lk_7_210 ⟨(Nat.le_of_ble_eq_true rfl), (Nat.le_of_ble_eq_true rfl)⟩ rfl m0 (Nat.le_of_ble_eq_true rfl) (k_textsWith hm hxs k hk) ?_
      refine ev_ireturn dX7_slotNow_92 rfl (Or.inl rfl) (Nat.zero_le _) (Nat.zero_le _) ?_
      rw [rel_msk hr hT hk e]
      exact ⟨rfl, rfl⟩
  · refine ev_iconst (-1) dX7_slotNow_8 rfl ?_
    refine ev_ireturn dX7_slotNow_9 rfl (Or.inl rfl) (Nat.zero_le _) (Nat.zero_le _) ?_
    have e : sR (tS T) k = 0 := Classical.byContradiction (fun z => absurd ((hr.2.1.pos hk).mpr z) (of_decide_eq_false hc5))
    rw [if_pos (isF_iff.mpr e)]
    exact ⟨rfl, rfl⟩
theorem pop_and : ∀ t, t < 4 → ∀ a, a < 16 → a / 2 ^ t % 2 = 1 → ∃ b, b < 16 ∧ nI a &&& ((nI 1 <<< (nI t &&& 31)) ^^^ -1) = nI b ∧ nI (popN b) = nI (popN a) - nI 1 := by decide +kernel
theorem mskN_bit {T : mSt} {w : Int64} {t : Nat} (ht : t < 4) (h : hasK (tC T t) w = true) : mskN T w 4 / 2 ^ t % 2 = 1 := by
  have e : mskN T w 4 = 0 + (if hasK (tC T 0) w = true then 1 else 0) + (if hasK (tC T 1) w = true then 2 else 0) + (if hasK (tC T 2) w = true then 4 else 0) + (if hasK (tC T 3) w = true then 8 else 0) := rfl
  rw [e]
  obtain rfl | rfl | rfl | rfl : t = 0 ∨ t = 1 ∨ t = 2 ∨ t = 3 := by omega
  all_goals (rw [if_pos h]; repeat' split) <;> decide
set_option maxHeartbeats 4000000 in
set_option maxRecDepth 100000 in
theorem k_pieceNow {X : mX} {h : mH} {gz : Nat → Nat} {gc : Nat → Int64} {gs : Nat} {gh : Nat → Nat} {gk : Nat → Int64} {gl : Nat} {gb : Nat → Nat} {gt : Nat} {gr : Nat → Nat} {gm : Nat} {gp : Nat → Int64} {gq : Nat → Nat} {ge : Nat → Nat} {gn : Nat} {go : Nat → Nat} {gu : Nat} {gi : Bool} {ga : Nat → Int64} {gv : Nat → Nat} {gw : Nat} {gx : Int64} (hm : MN h gz gc gs gh gk gl gb gt gr gm gp gq ge gn go gu gi ga gv gw gx) {T : mSt} (hr : RelT gz gc T) (hT : InvT T) (t p w : Nat) (ht : t < 4) (hp31 : p < 2 ^ 31) (hw : w < 5) : CnP X m_X7_pieceNow [.ref 270, .int (nI t), .int (nI p), .int (nI w)] h (some (.int (if p < kN (tC T t) then pceV T t p w else -1))) := by
  obtain ⟨m0, m1, m2, m3, m4, m5, m6, m7, m8, m9, m10, m11, m12⟩ := id hm
  have hkp := hr.2.1.kp
  have hxs : ∀ t, t < 4 → TxB gz t := fun t ht => hr.tx hT ht
  have hb0 : ∀ k, k < 60 → gz (551 + k) ≤ 1000 := fun k hk => Nat.le_trans (hr.2.1.ow hT.B hk) (by decide)
  have hx := hxs t ht
  have hX := hr.2.2 t ht
  have hK := hT.2.1 t ht
  have h40 := hK.1
  have hn40 := hK.n40
  have h7 := hX.1
  have hpc := rel_pcu hX hK
  refine cn_of_ev (L0 := [_, _, _, _, _, _]) (by decide +kernel) rfl rfl (Nat.le_of_ble_eq_true rfl) rfl ?_
  refine ev_iload_n dX7_pieceNow_0 rfl rfl ?_
  refine ev_aload_n dX7_pieceNow_1 rfl rfl ?_
  refine ev_iload_n dX7_pieceNow_2 rfl rfl ?_
  refine ev_callVP1 dX7_pieceNow_3 cal_X7_piecesOf lk_7_204 ⟨(Nat.le_of_ble_eq_true rfl), (Nat.le_of_ble_eq_true rfl)⟩ rfl m0 (Nat.le_of_ble_eq_true rfl) (k_piecesOf hm t ht hx) ?_
  refine ev_icmp_ltN 11 dX7_pieceNow_6 rfl (by omega) (by omega) (fun hc6 => ?_) (fun hc6 => ?_)
  · refine ev_pc (pc' := 11) rfl ?_
    have hp : p < kN (tC T t) := by omega
    rw [if_pos hp]
    have he := hK.en hp
    have hsl := hX.sl (i := 0) hp (by omega)
    rw [Nat.add_zero] at hsl
    have hin := hT.inS ht hp
    have hln := rel_len hr hT ht hp
    have h0 := (hK.cd hp).n0
    have hrow : sR (tS T) (slU (tS T) (kR (tC T t) p)) = kR (tC T t) p := slU_at hin
    have hmk := rel_msk hr hT hin (by rw [hrow]; exact h0)
    rw [hrow] at hmk
    obtain ⟨-, hla, hlb, hlc⟩ := hX.2.2 p hp (kQ (tC T t) p - 1) (by omega)
    refine ev_aload_n dX7_pieceNow_11 rfl rfl ?_
    refine ev_iload_n dX7_pieceNow_12 rfl rfl ?_
    refine ev_iload_n dX7_pieceNow_13 rfl rfl ?_
    refine ev_callVP2 dX7_pieceNow_14 cal_X7_firstOf lk_7_207 ⟨(Nat.le_of_ble_eq_true rfl), (Nat.le_of_ble_eq_true rfl)⟩ rfl m0 (Nat.le_of_ble_eq_true rfl) (k_firstOf hm hr hT t p ht hp) ?_
    refine ev_istore (L' := [_, _, _, _, _, _]) dX7_pieceNow_17 (Nat.le_of_ble_eq_true rfl) rfl ?_
    refine ev_aload_n dX7_pieceNow_19 rfl rfl ?_
    refine ev_iload_n dX7_pieceNow_20 rfl rfl ?_
    refine ev_iload dX7_pieceNow_21 rfl ?_
    refine ev_callVP2 dX7_pieceNow_23 cal_X7_slotAt lk_7_95 ⟨(Nat.le_of_ble_eq_true rfl), (Nat.le_of_ble_eq_true rfl)⟩ rfl m0 (Nat.le_of_ble_eq_true rfl) ((show CnP X m_X7_slotAt _ h (some (.int (nI (slU (tS T) (kR (tC T t) p))))) from by have z := k_slotAt (X := X) hm t (kP (tC T t) p) ht (by omega); rwa [hsl] at z)) ?_
    refine ev_istore (L' := [_, _, _, _, _, _]) dX7_pieceNow_26 (Nat.le_of_ble_eq_true rfl) rfl ?_
    refine ev_iload_n dX7_pieceNow_28 rfl rfl ?_
    refine ev_pc (pc' := 29) rfl ?_
    obtain rfl | rfl | rfl | rfl | rfl : w = 0 ∨ w = 1 ∨ w = 2 ∨ w = 3 ∨ w = 4 := by omega
    · refine ev_tableIn 60 dX7_pieceNow_29 (by decide) (by decide) rfl rfl ?_
      refine ev_iload dX7_pieceNow_60 rfl ?_
      refine ev_ireturn dX7_pieceNow_62 rfl (Or.inl rfl) (Nat.zero_le _) (Nat.zero_le _) ?_
      rw [show pceV T t p 0 = nI (slU (tS T) (kR (tC T t) p)) from slI_y hin]
      exact ⟨rfl, rfl⟩
    · refine ev_tableIn 63 dX7_pieceNow_29 (by decide) (by decide) rfl rfl ?_
      refine ev_iload dX7_pieceNow_63 rfl ?_
      refine ev_ireturn dX7_pieceNow_65 rfl (Or.inl rfl) (Nat.zero_le _) (Nat.zero_le _) ?_
      exact ⟨rfl, rfl⟩
    · refine ev_tableIn 66 dX7_pieceNow_29 (by decide) (by decide) rfl rfl ?_
      refine ev_aload_n dX7_pieceNow_66 rfl rfl ?_
      refine ev_getfield dX7_pieceNow_67 lf_7_7 m0 rfl ?_
      refine ev_sipush (nI 491) dX7_pieceNow_70 rfl ?_
      refine ev_iload dX7_pieceNow_73 rfl ?_
      refine ev_iaddN dX7_pieceNow_75 ?_
      refine ev_ialoadF dX7_pieceNow_76 m1 (by omega) (by decide) ?_
      refine ev_ireturn dX7_pieceNow_77 rfl (Or.inl rfl) (Nat.zero_le _) (Nat.zero_le _) ?_
      rw [hln]
      exact ⟨rfl, rfl⟩
    · refine ev_tableIn 78 dX7_pieceNow_29 (by decide) (by decide) rfl rfl ?_
      refine ev_aload_n dX7_pieceNow_78 rfl rfl ?_
      refine ev_iload_n dX7_pieceNow_79 rfl rfl ?_
      refine ev_iload dX7_pieceNow_80 rfl ?_
      refine ev_aload_n dX7_pieceNow_82 rfl rfl ?_
      refine ev_getfield dX7_pieceNow_83 lf_7_7 m0 rfl ?_
      refine ev_sipush (nI 491) dX7_pieceNow_86 rfl ?_
      refine ev_iload dX7_pieceNow_89 rfl ?_
      refine ev_iaddN dX7_pieceNow_91 ?_
      refine ev_ialoadF dX7_pieceNow_92 m1 (by omega) (by decide) ?_
      refine ev_iaddN dX7_pieceNow_93 ?_
      refine ev_iconst (nI 1) dX7_pieceNow_94 rfl ?_
      refine ev_isubN dX7_pieceNow_95 (by omega) ?_
      refine ev_callVP2 dX7_pieceNow_96 cal_X7_markAt lk_7_92 ⟨(Nat.le_of_ble_eq_true rfl), (Nat.le_of_ble_eq_true rfl)⟩ rfl m0 (Nat.le_of_ble_eq_true rfl) ((show CnP X m_X7_markAt _ h (some (.int (nI (gz (171 + 40 * t + (kP (tC T t) p + (kQ (tC T t) p - 1))))))) from by have z := k_markAt (X := X) hm t (kP (tC T t) p + (kQ (tC T t) p - 1)) ht (by omega); have e9 : kP (tC T t) p + (kQ (tC T t) p - 1) = kP (tC T t) p + gz (491 + slU (tS T) (kR (tC T t) p)) - 1 := (by omega); rw [e9] at z ⊢; exact z)) ?_
      refine ev_iconst (nI 2) dX7_pieceNow_99 rfl ?_
      refine ev_icmp_neN 107 dX7_pieceNow_100 rfl (by omega) (by omega) (fun hc100 => ?_) (fun hc100 => ?_)
      · refine ev_iconst (nI 0) dX7_pieceNow_107 rfl ?_
        refine ev_ireturn dX7_pieceNow_108 rfl (Or.inl rfl) (Nat.zero_le _) (Nat.zero_le _) ?_
        first
          | (rw [show pceV T t p 3 = nI 1 from congrArg (fun b => nI (b2n b)) (hlc.mp hc100).2]; exact ⟨rfl, rfl⟩)
          | (rw [show pceV T t p 3 = nI 0 from congrArg (fun b => nI (b2n b)) (Bool.eq_false_iff.mpr (fun z => hc100 (hlc.mpr ⟨by omega, z⟩)))]; exact ⟨rfl, rfl⟩)
      · refine ev_iconst (nI 1) dX7_pieceNow_103 rfl ?_
        refine ev_goto 108 dX7_pieceNow_104 rfl ?_
        refine ev_ireturn dX7_pieceNow_108 rfl (Or.inl rfl) (Nat.zero_le _) (Nat.zero_le _) ?_
        first
          | (rw [show pceV T t p 3 = nI 1 from congrArg (fun b => nI (b2n b)) (hlc.mp hc100).2]; exact ⟨rfl, rfl⟩)
          | (rw [show pceV T t p 3 = nI 0 from congrArg (fun b => nI (b2n b)) (Bool.eq_false_iff.mpr (fun z => hc100 (hlc.mpr ⟨by omega, z⟩)))]; exact ⟨rfl, rfl⟩)
    · refine ev_tableOut 109 dX7_pieceNow_29 (Or.inr (by decide)) rfl ?_
      refine ev_aload_n dX7_pieceNow_109 rfl rfl ?_
      refine ev_iload dX7_pieceNow_110 rfl ?_
      refine ev_callVP1 dX7_pieceNow_112 cal_X7_textsWith lk_7_210 ⟨(Nat.le_of_ble_eq_true rfl), (Nat.le_of_ble_eq_true rfl)⟩ rfl m0 (Nat.le_of_ble_eq_true rfl) ((show CnP X m_X7_textsWith _ h (some (.int (nI (mskN T (kR (tC T t) p) 4)))) from by have z := k_textsWith (X := X) hm hxs _ hin; rwa [hmk] at z)) ?_
      obtain ⟨b, hb16, hb1, hb2⟩ := pop_and t ht (mskN T (kR (tC T t) p) 4) (mskN_lt T _ 4) (mskN_bit ht (exN_yes hp (beq_self_eq_true _)))
      have hones := k_ones (X := X) (h := h) b hb16
      rw [← hb1] at hones
      refine ev_iconst (nI 1) dX7_pieceNow_115 rfl ?_
      refine ev_iload_n dX7_pieceNow_116 rfl rfl ?_
      refine ev_ishl dX7_pieceNow_117 ?_
      refine ev_iconst (-1) dX7_pieceNow_118 rfl ?_
      refine ev_ixor dX7_pieceNow_119 ?_
      refine ev_iand dX7_pieceNow_120 ?_
      refine ev_callSP1 dX7_pieceNow_121 cal_X7_ones lk_7_213 ⟨(Nat.le_of_ble_eq_true rfl), (Nat.le_of_ble_eq_true rfl)⟩ rfl (Nat.le_of_ble_eq_true rfl) (hones) ?_
      refine ev_ireturn dX7_pieceNow_124 rfl (Or.inl rfl) (Nat.zero_le _) (Nat.zero_le _) ?_
      rw [show pceV T t p 4 = nI (popN b) from hb2.symm]
      exact ⟨rfl, rfl⟩
  · refine ev_iconst (-1) dX7_pieceNow_9 rfl ?_
    refine ev_ireturn dX7_pieceNow_10 rfl (Or.inl rfl) (Nat.zero_le _) (Nat.zero_le _) ?_
    rw [if_neg (by omega)]
    exact ⟨rfl, rfl⟩
