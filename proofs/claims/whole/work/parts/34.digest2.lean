abbrev putK (A : mAs) : mCt := cutK (tV (aT A)) (smN (addN (aD A)) (aB A)) (tlN (aD A) (aB A))
def PutOK (A : mAs) : Prop := whol (aD A) (aB A) = true → (smN (addN (aD A)) (aB A)) ≤ 40 ∧ (∀ j, j < (smN (addN (aD A)) (aB A)) → 1 ≤ (tlN (aD A) (aB A)) j) ∧ ∀ t, t < 4 → ChOK (aT A) t (putK A)
def ifpI (A : mAs) (t w : Nat) : Int32 := if whol (aD A) (aB A) = true then nI (ifpV (aT A) t (putK A) w) else -1
/-- what the looks want of the state -/
def LkOK (A : mAs) : Prop := SoB (tS (aT A)) ∧ (∀ t, t < 4 → ∀ j, j < kL (tC (aT A) t) → 1 ≤ kS (tC (aT A) t) j) ∧ (∀ t, t < 4 → ∀ p, p < kN (tC (aT A) t) → 1 ≤ kP (tC (aT A) t) p + kQ (tC (aT A) t) p) ∧ (∀ k, k < 60 → sR (tS (aT A)) k ≠ 0 → 1 ≤ rl (sR (tS (aT A)) k)) ∧ ShOK (aT A) ∧ PutOK A
def slM (T : mSt) (k : Nat) (a : Int64) : Int64 := if isF (tS T) k = true then a else mxF (sltV T k) (31 * a + (nI k).toInt64) 5
def txM (A : mAs) (t : Nat) (a : Int64) : Int64 :=
  let T := aT A
  let a1 := mxF (fun w => nI (txtV T t w)) a 6
  let a2 := mxF (fun q => nI (sgnV T t (q / 4) (q % 4))) a1 (4 * kL (tC T t))
  let a3 := mxF (fun q => pceV T t (q / 5) (q % 5)) a2 (5 * kN (tC T t))
  let a4 := mxF (fun w => nI (comV (tC T t) (tC T 0) w)) a3 3
  let a5 := mxF (ifpI A t) a4 4
  31 * a5 + (nI (kN (cutD T 2 t))).toInt64
set_option maxHeartbeats 4000000 in
set_option maxRecDepth 100000 in
theorem c_mixSlot {X : mX} {h : mH} {A : mAs} (hA : ClsN h A) (hl : LkOK A) (k : Nat) (hk : k < 60) (a : Int64) : CnP X m_X6_mixSlot [.ref 0, .long a, .int (nI k)] h (some (.long (slM (aT A) k a))) := by
  obtain ⟨a0, hT, hH, hBf, hW⟩ := id hA
  obtain ⟨t0, ⟨f, t1, t2⟩, hcs, hsto, hset⟩ := id hT
  obtain ⟨m0, hm6, -⟩ := id hH
  obtain ⟨⟨b0, bf, b1, hbf⟩, hb60, hbd⟩ := id hBf
  obtain ⟨_, _, _, ⟨s0, -, -, -⟩, -⟩ := id hsto
  refine cn_of_ev (L0 := [_, _, _, _, _, _, _]) (by decide +kernel) rfl rfl (Nat.le_of_ble_eq_true rfl) rfl ?_
  refine ev_aload_n dX6_mixSlot_0 rfl rfl ?_
  first | refine ev_getfield dX6_mixSlot_1 lf_6_10 (a0) rfl ?_ | refine ev_getfield dX6_mixSlot_1 lf_6_10 (t0) rfl ?_ | refine ev_getfield dX6_mixSlot_1 lf_6_10 (s0) rfl ?_
  first | refine ev_getfield dX6_mixSlot_4 lf_6_114 (a0) rfl ?_ | refine ev_getfield dX6_mixSlot_4 lf_6_114 (t0) rfl ?_ | refine ev_getfield dX6_mixSlot_4 lf_6_114 (s0) rfl ?_
  refine ev_iload_n dX6_mixSlot_7 rfl rfl ?_
  first | refine ev_callVP1 dX6_mixSlot_8 cal_X5_isFree lk_6_207 ⟨(Nat.le_of_ble_eq_true rfl), (Nat.le_of_ble_eq_true rfl)⟩ rfl (a0) (Nat.le_of_ble_eq_true rfl) (c_isFree hsto k hk) ?_ | refine ev_callVP1 dX6_mixSlot_8 cal_X5_isFree lk_6_207 ⟨(Nat.le_of_ble_eq_true rfl), (Nat.le_of_ble_eq_true rfl)⟩ rfl (t0) (Nat.le_of_ble_eq_true rfl) (c_isFree hsto k hk) ?_ | refine ev_callVP1 dX6_mixSlot_8 cal_X5_isFree lk_6_207 ⟨(Nat.le_of_ble_eq_true rfl), (Nat.le_of_ble_eq_true rfl)⟩ rfl (s0) (Nat.le_of_ble_eq_true rfl) (c_isFree hsto k hk) ?_
  refine ev_if_eqB 16 dX6_mixSlot_11 rfl (fun hc11 => ?_) (fun hc11 => ?_)
  · refine ev_pc (pc' := 16) rfl ?_
    refine ev_lload_n dX6_mixSlot_16 rfl rfl ?_
    refine ev_iload_n dX6_mixSlot_17 rfl rfl ?_
    refine ev_i2l dX6_mixSlot_18 ?_
    refine ev_callSP2 dX6_mixSlot_19 cal_X6_mix lk_6_293 ⟨(Nat.le_of_ble_eq_true rfl), (Nat.le_of_ble_eq_true rfl)⟩ rfl (Nat.le_of_ble_eq_true rfl) (c_mix _ _) ?_
    refine ev_lstore (L' := [_, _, _, _, _, _, _]) dX6_mixSlot_22 (Nat.le_of_ble_eq_true rfl) rfl ?_
    refine ev_iconst (nI 0) dX6_mixSlot_24 rfl ?_
    refine ev_istore (L' := [_, _, _, _, _, _, _]) dX6_mixSlot_25 (Nat.le_of_ble_eq_true rfl) rfl ?_
    refine ev_pc (pc' := 27) rfl ?_
    have LP27 : ∀ (mz : Nat) (w : Nat), 5 - w = mz → (w ≤ 5) → Ev X m_X6_mixSlot B0 27 [.ref 0, .long a, jk, .int (nI k), .long (mxF (sltV (aT A) k) (31 * a + (nI k).toInt64) w), jk, .int (nI w)] [] h (fun o h1 => o = .inl (some (.long (slM (aT A) k a))) ∧ h1 = h) := by
      intro mz
      induction mz using Nat.strongRecOn with
      | _ mz ih =>
        intro w hmz hw
        refine ev_iload dX6_mixSlot_27 rfl ?_
        refine ev_iconst (nI 4) dX6_mixSlot_29 rfl ?_
        refine ev_icmp_gtN 54 dX6_mixSlot_30 rfl (by omega) (by omega) (fun hc30 => ?_) (fun hc30 => ?_)
        · refine ev_lload dX6_mixSlot_54 rfl ?_
          refine ev_lreturn dX6_mixSlot_56 rfl (Or.inl rfl) (Nat.zero_le _) (Nat.zero_le _) ?_
          rw [slM, if_neg (by rw [hc11]; decide), show 5 = w by omega]
          exact ⟨rfl, rfl⟩
        · refine ev_lload dX6_mixSlot_33 rfl ?_
          refine ev_aload_n dX6_mixSlot_35 rfl rfl ?_
          refine ev_iload_n dX6_mixSlot_36 rfl rfl ?_
          refine ev_iload dX6_mixSlot_37 rfl ?_
          refine ev_callVP2 dX6_mixSlot_39 cal_X6_slot lk_6_373 ⟨(Nat.le_of_ble_eq_true rfl), (Nat.le_of_ble_eq_true rfl)⟩ rfl (a0) (Nat.le_of_ble_eq_true rfl) ((show CnP X m_X6_slot _ h (some (.int (sltV (aT A) k w))) from by have z := c_slot (X := X) hA hl.1 k w hk (by omega) (hl.2.2.2.1 k hk); rwa [if_neg (by rw [hc11]; decide)] at z)) ?_
          refine ev_i2l dX6_mixSlot_42 ?_
          refine ev_callSP2 dX6_mixSlot_43 cal_X6_mix lk_6_293 ⟨(Nat.le_of_ble_eq_true rfl), (Nat.le_of_ble_eq_true rfl)⟩ rfl (Nat.le_of_ble_eq_true rfl) (c_mix _ _) ?_
          refine ev_lstore (L' := [_, _, _, _, _, _, _]) dX6_mixSlot_46 (Nat.le_of_ble_eq_true rfl) rfl ?_
          refine ev_iincN (L' := [_, _, _, _, _, _, _]) 1 dX6_mixSlot_48 rfl rfl ?_
          refine ev_goto 27 dX6_mixSlot_51 rfl ?_
          refine ev_pc (pc' := 27) rfl ?_
          exact ih _ (by omega) (w + 1) rfl (by omega)
    exact LP27 _ 0 rfl (Nat.zero_le _)
  · refine ev_pc (pc' := 14) rfl ?_
    refine ev_lload_n dX6_mixSlot_14 rfl rfl ?_
    refine ev_lreturn dX6_mixSlot_15 rfl (Or.inl rfl) (Nat.zero_le _) (Nat.zero_le _) ?_
    rw [slM, if_pos hc11]
    exact ⟨rfl, rfl⟩
set_option maxHeartbeats 4000000 in
set_option maxRecDepth 100000 in
theorem c_mixText {X : mX} {h : mH} {A : mAs} (hA : ClsN h A) (hro : RO X) (hl : LkOK A) (t : Nat) (ht : t < 4) (a : Int64) : CnU X m_X6_mixText [.ref 0, .long a, .int (nI t)] h (fun v h1 => v = some (.long (txM A t a)) ∧ ClsN h1 A ∧ Out h h1 0 270) := by
  obtain ⟨a0, hT, hH, hBf, hW⟩ := id hA
  obtain ⟨t0, ⟨f, t1, t2⟩, hcs, hsto, hset⟩ := id hT
  obtain ⟨m0, hm6, -⟩ := id hH
  obtain ⟨⟨b0, bf, b1, hbf⟩, hb60, hbd⟩ := id hBf
  refine cn_of_ev (L0 := [_, _, _, _, _, _, _]) (by decide +kernel) rfl rfl (Nat.le_of_ble_eq_true rfl) rfl ?_
  refine ev_lload_n dX6_mixText_0 rfl rfl ?_
  refine ev_lstore (L' := [_, _, _, _, _, _, _]) dX6_mixText_1 (Nat.le_of_ble_eq_true rfl) rfl ?_
  refine ev_iconst (nI 0) dX6_mixText_3 rfl ?_
  refine ev_istore (L' := [_, _, _, _, _, _, _]) dX6_mixText_4 (Nat.le_of_ble_eq_true rfl) rfl ?_
  refine ev_pc (pc' := 6) rfl ?_
  have LP6 : ∀ (mz : Nat) (w : Nat), 6 - w = mz → (w ≤ 6) → Ev X m_X6_mixText B0 6 [.ref 0, .long a, jk, .int (nI t), .long (mxF (fun w => nI (txtV (aT A) t w)) a w), jk, .int (nI w)] [] h (fun o h1 => ∃ v, o = .inl v ∧ (v = some (.long (txM A t a)) ∧ ClsN h1 A ∧ Out h h1 0 270)) := by
    intro mz
    induction mz using Nat.strongRecOn with
    | _ mz ih =>
      intro w hmz hw
      refine ev_iload dX6_mixText_6 rfl ?_
      refine ev_iconst (nI 5) dX6_mixText_8 rfl ?_
      refine ev_icmp_gtN 33 dX6_mixText_9 rfl (by omega) (by omega) (fun hc9 => ?_) (fun hc9 => ?_)
      · refine ev_pc (pc' := 33) rfl ?_
        have ew : w = 6 := by omega
        subst ew
        refine ev_aload_n dX6_mixText_33 rfl rfl ?_
        refine ev_lload dX6_mixText_34 rfl ?_
        refine ev_iload_n dX6_mixText_36 rfl rfl ?_
        refine ev_callVP2 dX6_mixText_37 cal_X6_mixSigns lk_6_351 ⟨(Nat.le_of_ble_eq_true rfl), (Nat.le_of_ble_eq_true rfl)⟩ rfl (a0) (Nat.le_of_ble_eq_true rfl) (c_mixSigns hA t ht _ (hl.2.2.1 t ht)) ?_
        refine ev_lstore (L' := [_, _, _, _, _, _, _]) dX6_mixText_40 (Nat.le_of_ble_eq_true rfl) rfl ?_
        refine ev_aload_n dX6_mixText_42 rfl rfl ?_
        refine ev_lload dX6_mixText_43 rfl ?_
        refine ev_iload_n dX6_mixText_45 rfl rfl ?_
        refine ev_callVP2 dX6_mixText_46 cal_X6_mixPieces lk_6_354 ⟨(Nat.le_of_ble_eq_true rfl), (Nat.le_of_ble_eq_true rfl)⟩ rfl (a0) (Nat.le_of_ble_eq_true rfl) (c_mixPieces hA t ht _) ?_
        refine ev_lstore (L' := [_, _, _, _, _, _, _]) dX6_mixText_49 (Nat.le_of_ble_eq_true rfl) rfl ?_
        refine ev_iconst (nI 0) dX6_mixText_51 rfl ?_
        refine ev_istore (L' := [_, _, _, _, _, _, _]) dX6_mixText_52 (Nat.le_of_ble_eq_true rfl) rfl ?_
        refine ev_pc (pc' := 54) rfl ?_
        have LP54 : ∀ (mz : Nat) (w : Nat), 3 - w = mz → (w ≤ 3) → Ev X m_X6_mixText B0 54 [.ref 0, .long a, jk, .int (nI t), .long (mxF (fun w => nI (comV (tC (aT A) t) (tC (aT A) 0) w)) (mxF (fun q => pceV (aT A) t (q / 5) (q % 5)) (mxF (fun q => nI (sgnV (aT A) t (q / 4) (q % 4))) (mxF (fun w => nI (txtV (aT A) t w)) a 6) (4 * kL (tC (aT A) t))) (5 * kN (tC (aT A) t))) w), jk, .int (nI w)] [] h (fun o h1 => ∃ v, o = .inl v ∧ (v = some (.long (txM A t a)) ∧ ClsN h1 A ∧ Out h h1 0 270)) := by
          intro mz
          induction mz using Nat.strongRecOn with
          | _ mz ih =>
            intro w hmz hw
            refine ev_iload dX6_mixText_54 rfl ?_
            refine ev_iconst (nI 2) dX6_mixText_56 rfl ?_
            refine ev_icmp_gtN 82 dX6_mixText_57 rfl (by omega) (by omega) (fun hc57 => ?_) (fun hc57 => ?_)
            · refine ev_pc (pc' := 82) rfl ?_
              have ew : w = 3 := by omega
              subst ew
              refine ev_iconst (nI 0) dX6_mixText_82 rfl ?_
              refine ev_istore (L' := [_, _, _, _, _, _, _]) dX6_mixText_83 (Nat.le_of_ble_eq_true rfl) rfl ?_
              refine ev_pc (pc' := 85) rfl ?_
              have LP85 : ∀ (mz : Nat) (w : Nat) (h2 : mH), 4 - w = mz → (w ≤ 4) → (ClsN h2 A) → (Out h h2 0 270) → Ev X m_X6_mixText B0 85 [.ref 0, .long a, jk, .int (nI t), .long (mxF (ifpI A t) (mxF (fun w => nI (comV (tC (aT A) t) (tC (aT A) 0) w)) (mxF (fun q => pceV (aT A) t (q / 5) (q % 5)) (mxF (fun q => nI (sgnV (aT A) t (q / 4) (q % 4))) (mxF (fun w => nI (txtV (aT A) t w)) a 6) (4 * kL (tC (aT A) t))) (5 * kN (tC (aT A) t))) 3) w), jk, .int (nI w)] [] h2 (fun o h1 => ∃ v, o = .inl v ∧ (v = some (.long (txM A t a)) ∧ ClsN h1 A ∧ Out h h1 0 270)) := by
                intro mz
                induction mz using Nat.strongRecOn with
                | _ mz ih =>
                  intro w h2 hmz hw hA2 ho
                  have a2 := hA2.1
                  refine ev_iload dX6_mixText_85 rfl ?_
                  refine ev_iconst (nI 3) dX6_mixText_87 rfl ?_
                  refine ev_icmp_gtN 112 dX6_mixText_88 rfl (by omega) (by omega) (fun hc88 => ?_) (fun hc88 => ?_)
                  · refine ev_pc (pc' := 112) rfl ?_
                    have ew : w = 4 := by omega
                    subst ew
                    refine ev_lload dX6_mixText_112 rfl ?_
                    refine ev_aload_n dX6_mixText_114 rfl rfl ?_
                    refine ev_iload_n dX6_mixText_115 rfl rfl ?_
                    refine ev_iconst (nI 1) dX6_mixText_116 rfl ?_
                    refine ev_iconst (nI 2) dX6_mixText_117 rfl ?_
                    refine ev_callVU3 dX6_mixText_118 cal_X6_ifSet lk_6_364 ⟨(Nat.le_of_ble_eq_true rfl), (Nat.le_of_ble_eq_true rfl)⟩ rfl (a2) (Nat.le_of_ble_eq_true rfl) (c_ifSet hA2 hro t 1 2 ht (by decide) (by decide) (by decide) (hl.2.1 t ht)) (fun v h118 hq118 => ?_)
                    refine ev_pc (pc' := 121) rfl ?_
                    obtain ⟨rfl, hA3, o3⟩ := hq118
                    refine ev_i2l dX6_mixText_121 ?_
                    refine ev_callSP2 dX6_mixText_122 cal_X6_mix lk_6_293 ⟨(Nat.le_of_ble_eq_true rfl), (Nat.le_of_ble_eq_true rfl)⟩ rfl (Nat.le_of_ble_eq_true rfl) (c_mix _ _) ?_
                    refine ev_lreturn dX6_mixText_125 rfl (Or.inl rfl) (Nat.zero_le _) (Nat.zero_le _) ?_
                    exact ⟨_, rfl, rfl, hA3, ho.tr o3⟩
                  · refine ev_pc (pc' := 91) rfl ?_
                    cases hb : whol (aD A) (aB A) with
                    | true =>
                      obtain ⟨z1, z2, z3⟩ := hl.2.2.2.2.2 hb
                      refine ev_lload dX6_mixText_91 rfl ?_
                      refine ev_aload_n dX6_mixText_93 rfl rfl ?_
                      refine ev_iload_n dX6_mixText_94 rfl rfl ?_
                      refine ev_iload dX6_mixText_95 rfl ?_
                      refine ev_callVU2 dX6_mixText_97 cal_X6_ifPut lk_6_361 ⟨(Nat.le_of_ble_eq_true rfl), (Nat.le_of_ble_eq_true rfl)⟩ rfl (a2) (Nat.le_of_ble_eq_true rfl) (c_ifPut hA2 t w ht (by omega) hb z1 z2 (z3 t ht)) (fun v h97 hq97 => ?_)
                      refine ev_pc (pc' := 100) rfl ?_
                      obtain ⟨rfl, hA3, o3⟩ := hq97
                      refine ev_i2l dX6_mixText_100 ?_
                      refine ev_callSP2 dX6_mixText_101 cal_X6_mix lk_6_293 ⟨(Nat.le_of_ble_eq_true rfl), (Nat.le_of_ble_eq_true rfl)⟩ rfl (Nat.le_of_ble_eq_true rfl) (c_mix _ _) ?_
                      refine ev_lstore (L' := [_, _, _, _, _, _, _]) dX6_mixText_104 (Nat.le_of_ble_eq_true rfl) rfl ?_
                      refine ev_iincN (L' := [_, _, _, _, _, _, _]) 1 dX6_mixText_106 rfl rfl ?_
                      refine ev_goto 85 dX6_mixText_109 rfl ?_
                      refine ev_pc (pc' := 85) rfl ?_
                      rw [← show ifpI A t w = _ from if_pos hb]
                      exact ih _ (by omega) (w + 1) _ rfl (by omega) hA3 (ho.tr o3)
                    | false =>
                      refine ev_lload dX6_mixText_91 rfl ?_
                      refine ev_aload_n dX6_mixText_93 rfl rfl ?_
                      refine ev_iload_n dX6_mixText_94 rfl rfl ?_
                      refine ev_iload dX6_mixText_95 rfl ?_
                      refine ev_callVP2 dX6_mixText_97 cal_X6_ifPut lk_6_361 ⟨(Nat.le_of_ble_eq_true rfl), (Nat.le_of_ble_eq_true rfl)⟩ rfl (a2) (Nat.le_of_ble_eq_true rfl) (c_ifPut0 hA2 t w ht (by omega) hb) ?_
                      refine ev_i2l dX6_mixText_100 ?_
                      refine ev_callSP2 dX6_mixText_101 cal_X6_mix lk_6_293 ⟨(Nat.le_of_ble_eq_true rfl), (Nat.le_of_ble_eq_true rfl)⟩ rfl (Nat.le_of_ble_eq_true rfl) (c_mix _ _) ?_
                      refine ev_lstore (L' := [_, _, _, _, _, _, _]) dX6_mixText_104 (Nat.le_of_ble_eq_true rfl) rfl ?_
                      refine ev_iincN (L' := [_, _, _, _, _, _, _]) 1 dX6_mixText_106 rfl rfl ?_
                      refine ev_goto 85 dX6_mixText_109 rfl ?_
                      refine ev_pc (pc' := 85) rfl ?_
                      rw [← show ifpI A t w = _ from if_neg (by rw [hb]; decide)]
                      exact ih _ (by omega) (w + 1) _ rfl (by omega) hA2 ho
              exact LP85 _ 0 h rfl (Nat.zero_le _) hA Out.rf
            · refine ev_lload dX6_mixText_60 rfl ?_
              refine ev_aload_n dX6_mixText_62 rfl rfl ?_
              refine ev_iload_n dX6_mixText_63 rfl rfl ?_
              refine ev_iconst (nI 0) dX6_mixText_64 rfl ?_
              refine ev_iload dX6_mixText_65 rfl ?_
              refine ev_callVP3 dX6_mixText_67 cal_X6_common lk_6_357 ⟨(Nat.le_of_ble_eq_true rfl), (Nat.le_of_ble_eq_true rfl)⟩ rfl (a0) (Nat.le_of_ble_eq_true rfl) (c_common hA t 0 w ht (by omega) (by omega)) ?_
              refine ev_i2l dX6_mixText_70 ?_
              refine ev_callSP2 dX6_mixText_71 cal_X6_mix lk_6_293 ⟨(Nat.le_of_ble_eq_true rfl), (Nat.le_of_ble_eq_true rfl)⟩ rfl (Nat.le_of_ble_eq_true rfl) (c_mix _ _) ?_
              refine ev_lstore (L' := [_, _, _, _, _, _, _]) dX6_mixText_74 (Nat.le_of_ble_eq_true rfl) rfl ?_
              refine ev_iincN (L' := [_, _, _, _, _, _, _]) 1 dX6_mixText_76 rfl rfl ?_
              refine ev_goto 54 dX6_mixText_79 rfl ?_
              refine ev_pc (pc' := 54) rfl ?_
              exact ih _ (by omega) (w + 1) rfl (by omega)
        exact LP54 _ 0 rfl (Nat.zero_le _)
      · refine ev_lload dX6_mixText_12 rfl ?_
        refine ev_aload_n dX6_mixText_14 rfl rfl ?_
        refine ev_iload_n dX6_mixText_15 rfl rfl ?_
        refine ev_iload dX6_mixText_16 rfl ?_
        refine ev_callVP2 dX6_mixText_18 cal_X6_text lk_6_347 ⟨(Nat.le_of_ble_eq_true rfl), (Nat.le_of_ble_eq_true rfl)⟩ rfl (a0) (Nat.le_of_ble_eq_true rfl) (c_text hA t w ht (by omega)) ?_
        refine ev_i2l dX6_mixText_21 ?_
        refine ev_callSP2 dX6_mixText_22 cal_X6_mix lk_6_293 ⟨(Nat.le_of_ble_eq_true rfl), (Nat.le_of_ble_eq_true rfl)⟩ rfl (Nat.le_of_ble_eq_true rfl) (c_mix _ _) ?_
        refine ev_lstore (L' := [_, _, _, _, _, _, _]) dX6_mixText_25 (Nat.le_of_ble_eq_true rfl) rfl ?_
        refine ev_iincN (L' := [_, _, _, _, _, _, _]) 1 dX6_mixText_27 rfl rfl ?_
        refine ev_goto 6 dX6_mixText_30 rfl ?_
        refine ev_pc (pc' := 6) rfl ?_
        exact ih _ (by omega) (w + 1) rfl (by omega)
  exact LP6 _ 0 rfl (Nat.zero_le _)
