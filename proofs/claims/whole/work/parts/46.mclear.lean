def clA (gz : Nat → Nat) (t n : Nat) : Nat → Nat := fun i => if 551 ≤ i ∧ i < 551 + n then gz i - ownM gz t (i - 551) (gz (7 + t)) else gz i
def clB (gz : Nat → Nat) (t n : Nat) : Nat → Nat := fun i => if (11 + 40 * t ≤ i ∧ i < 11 + 40 * t + n) ∨ (171 + 40 * t ≤ i ∧ i < 171 + 40 * t + n) ∨ (331 + 40 * t ≤ i ∧ i < 331 + 40 * t + n) then 0 else gz i
theorem clA_lo {gz : Nat → Nat} {t n i : Nat} (h : i < 551 ∨ 551 + n ≤ i) : clA gz t n i = gz i := if_neg (by omega)
theorem ownM_congr {y z : Nat → Nat} {t k n : Nat} (ht : t < 4) (hn : n ≤ 40) (h : ∀ i, i < 551 → y i = z i) : ownM y t k n = ownM z t k n := ctN_congr (fun j hj => by rw [ownP, ownP, h _ (by omega), h _ (by omega)])
theorem clA_up {gz : Nat → Nat} {t n : Nat} : upN (clA gz t n) (551 + n) (gz (551 + n) - ownM gz t n (gz (7 + t))) = clA gz t (n + 1) := by
  funext i
  by_cases e : i = 551 + n
  · rw [e, upN_s]
    show _ = if 551 ≤ 551 + n ∧ 551 + n < 551 + (n + 1) then gz (551 + n) - ownM gz t (551 + n - 551) (gz (7 + t)) else gz (551 + n)
    rw [if_pos (by omega), Nat.add_sub_cancel_left]
  · rw [upN_n e]
    show (if 551 ≤ i ∧ i < 551 + n then _ else _) = (if 551 ≤ i ∧ i < 551 + (n + 1) then _ else _)
    by_cases z : 551 ≤ i ∧ i < 551 + n
    · rw [if_pos z, if_pos (by omega)]
    · rw [if_neg z, if_neg (by omega)]
theorem clB_up {gz : Nat → Nat} {t n : Nat} : upN (upN (upN (clB gz t n) (11 + 40 * t + n) 0) (171 + 40 * t + n) 0) (331 + 40 * t + n) 0 = clB gz t (n + 1) := by
  funext i
  unfold upN clB
  by_cases e1 : i = 331 + 40 * t + n
  · rw [if_pos e1, if_pos (by omega)]
  · rw [if_neg e1]
    by_cases e2 : i = 171 + 40 * t + n
    · rw [if_pos e2, if_pos (by omega)]
    · rw [if_neg e2]
      by_cases e3 : i = 11 + 40 * t + n
      · rw [if_pos e3, if_pos (by omega)]
      · rw [if_neg e3]
        by_cases z : (11 + 40 * t ≤ i ∧ i < 11 + 40 * t + n) ∨ (171 + 40 * t ≤ i ∧ i < 171 + 40 * t + n) ∨ (331 + 40 * t ≤ i ∧ i < 331 + 40 * t + n)
        · rw [if_pos z, if_pos (by omega)]
        · rw [if_neg z, if_neg (by omega)]
theorem clB_0 {gz : Nat → Nat} {t : Nat} : clB gz t 0 = gz := by
  funext i
  exact if_neg (by omega)
theorem clA_0 {gz : Nat → Nat} {t : Nat} : clA gz t 0 = gz := by
  funext i
  exact if_neg (by omega)
set_option maxHeartbeats 4000000 in
set_option maxRecDepth 100000 in
theorem k_clearText {X : mX} {h : mH} {gz : Nat → Nat} {gc : Nat → Int64} {gs : Nat} {gh : Nat → Nat} {gk : Nat → Int64} {gl : Nat} {gb : Nat → Nat} {gt : Nat} {gr : Nat → Nat} {gm : Nat} {gp : Nat → Int64} {gq : Nat → Nat} {ge : Nat → Nat} {gn : Nat} {go : Nat → Nat} {gu : Nat} {gi : Bool} {ga : Nat → Int64} {gv : Nat → Nat} {gw : Nat} {gx : Int64} (hm : MN h gz gc gs gh gk gl gb gt gr gm gp gq ge gn go gu gi ga gv gw gx) (t : Nat) (ht : t < 4) (hx : TxB gz t) (hob : OwB gz t) : CnU X m_X7_clearText [.ref 270, .int (nI t)] h (fun v h1 => v = none ∧ MN h1 (clB (upN (clA gz t 60) (7 + t) 0) t 40) gc gs gh gk gl gb gt gr gm gp gq ge gn go gu gi ga gv gw gx ∧ Out h h1 270 13) := by
  obtain ⟨m0, m1, m2, m3, m4, m5, m6, m7, m8, m9, m10, m11, m12⟩ := id hm
  have ho : Out h h 270 13 := Out.rf
  refine cn_of_ev (L0 := [_, _, _]) (by decide +kernel) rfl rfl (Nat.le_of_ble_eq_true rfl) rfl ?_
  refine ev_iconst (nI 0) dX7_clearText_0 rfl ?_
  refine ev_istore_n (L' := [_, _, _]) dX7_clearText_1 rfl (Nat.le_of_ble_eq_true rfl) rfl ?_
  refine ev_pc (pc' := 2) rfl ?_
  have LP2 : ∀ (mz : Nat) (k : Nat) (h2 : mH), 60 - k = mz → (k ≤ 60) → (MN h2 (clA gz t k) gc gs gh gk gl gb gt gr gm gp gq ge gn go gu gi ga gv gw gx) → (Out h h2 270 13) → Ev X m_X7_clearText B0 2 [.ref 270, .int (nI t), .int (nI k)] [] h2 (fun o h1 => ∃ v, o = .inl v ∧ (v = none ∧ MN h1 (clB (upN (clA gz t 60) (7 + t) 0) t 40) gc gs gh gk gl gb gt gr gm gp gq ge gn go gu gi ga gv gw gx ∧ Out h h1 270 13)) := by
    intro mz
    induction mz using Nat.strongRecOn with
    | _ mz ih =>
      intro k h2 hmz hk hm2 ho
      obtain ⟨m0, m1, m2, m3, m4, m5, m6, m7, m8, m9, m10, m11, m12⟩ := id hm2
      obtain ⟨hx1, hx2⟩ := id hx
      have e7 : clA gz t k (7 + t) = gz (7 + t) := clA_lo (by omega)
      have hx' : TxB (clA gz t k) t := ⟨by rw [e7]; exact hx1, fun j hj => by
        rw [e7] at hj
        rw [clA_lo (by omega), clA_lo (by omega), clA_lo (by omega)]
        exact hx2 j hj⟩
      have eo : ∀ q, ownM (clA gz t k) t q (clA gz t k (7 + t)) = ownM gz t q (gz (7 + t)) := fun q => by
        rw [e7]
        exact ownM_congr ht hx1 (fun i hi => clA_lo (Or.inl hi))
      have hcl : k < 60 → CnP X m_X7_ownersBut [.ref 270, .int (nI k), .int (nI t)] h2 (some (.int (nI (gz (551 + k) - ownM gz t k (gz (7 + t)))))) := fun z => by
        have e5 : clA gz t k (551 + k) = gz (551 + k) := clA_lo (by omega)
        have w := k_ownersBut (X := X) hm2 t k ht z hx' (by rw [eo, e5]; exact (hob k z).1)
        rwa [eo, e5] at w
      refine ev_iload_n dX7_clearText_2 rfl rfl ?_
      refine ev_bipush (nI 60) dX7_clearText_3 rfl ?_
      refine ev_icmp_geN 30 dX7_clearText_5 rfl (by omega) (by omega) (fun hc5 => ?_) (fun hc5 => ?_)
      · refine ev_pc (pc' := 30) rfl ?_
        have e60 : k = 60 := by omega
        subst e60
        refine ev_aload_n dX7_clearText_30 rfl rfl ?_
        refine ev_getfield dX7_clearText_31 lf_7_7 m0 rfl ?_
        refine ev_bipush (nI 7) dX7_clearText_34 rfl ?_
        refine ev_iload_n dX7_clearText_36 rfl rfl ?_
        refine ev_iaddN dX7_clearText_37 ?_
        refine ev_iconst (nI 0) dX7_clearText_38 rfl ?_
        refine em_iZ dX7_clearText_39 hm2 (by omega) (fun h39 hm39 o39 => ?_)
        have ho := ho.tr o39
        obtain ⟨m0, m1, m2, m3, m4, m5, m6, m7, m8, m9, m10, m11, m12⟩ := id hm39
        refine ev_iconst (nI 0) dX7_clearText_40 rfl ?_
        refine ev_istore_n (L' := [_, _, _]) dX7_clearText_41 rfl (Nat.le_of_ble_eq_true rfl) rfl ?_
        refine ev_pc (pc' := 42) rfl ?_
        have LP42 : ∀ (mz : Nat) (k : Nat) (h3 : mH), 40 - k = mz → (k ≤ 40) → (MN h3 (clB (upN (clA gz t 60) (7 + t) 0) t k) gc gs gh gk gl gb gt gr gm gp gq ge gn go gu gi ga gv gw gx) → (Out h h3 270 13) → Ev X m_X7_clearText B0 42 [.ref 270, .int (nI t), .int (nI k)] [] h3 (fun o h1 => ∃ v, o = .inl v ∧ (v = none ∧ MN h1 (clB (upN (clA gz t 60) (7 + t) 0) t 40) gc gs gh gk gl gb gt gr gm gp gq ge gn go gu gi ga gv gw gx ∧ Out h h1 270 13)) := by
          intro mz
          induction mz using Nat.strongRecOn with
          | _ mz ih =>
            intro k h3 hmz hk hm3 ho
            obtain ⟨m0, m1, m2, m3, m4, m5, m6, m7, m8, m9, m10, m11, m12⟩ := id hm3
            refine ev_iload_n dX7_clearText_42 rfl rfl ?_
            refine ev_bipush (nI 40) dX7_clearText_43 rfl ?_
            refine ev_icmp_geN 101 dX7_clearText_45 rfl (by omega) (by omega) (fun hc45 => ?_) (fun hc45 => ?_)
            · refine ev_return dX7_clearText_101 rfl (Or.inl rfl) (Nat.zero_le _) (Nat.zero_le _) ?_
              rw [show 40 = k by omega]
              exact ⟨none, rfl, rfl, hm3, ho⟩
            · refine ev_aload_n dX7_clearText_48 rfl rfl ?_
              refine ev_getfield dX7_clearText_49 lf_7_7 m0 rfl ?_
              refine ev_bipush (nI 11) dX7_clearText_52 rfl ?_
              refine ev_bipush (nI 40) dX7_clearText_54 rfl ?_
              refine ev_iload_n dX7_clearText_56 rfl rfl ?_
              refine ev_imulN dX7_clearText_57 ?_
              refine ev_iaddN dX7_clearText_58 ?_
              refine ev_iload_n dX7_clearText_59 rfl rfl ?_
              refine ev_iaddN dX7_clearText_60 ?_
              refine ev_iconst (nI 0) dX7_clearText_61 rfl ?_
              refine em_iZ dX7_clearText_62 hm3 (by omega) (fun h62 hm62 o62 => ?_)
              have ho := ho.tr o62
              obtain ⟨m0, m1, m2, m3, m4, m5, m6, m7, m8, m9, m10, m11, m12⟩ := id hm62
              refine ev_aload_n dX7_clearText_63 rfl rfl ?_
              refine ev_getfield dX7_clearText_64 lf_7_7 m0 rfl ?_
              refine ev_sipush (nI 171) dX7_clearText_67 rfl ?_
              refine ev_bipush (nI 40) dX7_clearText_70 rfl ?_
              refine ev_iload_n dX7_clearText_72 rfl rfl ?_
              refine ev_imulN dX7_clearText_73 ?_
              refine ev_iaddN dX7_clearText_74 ?_
              refine ev_iload_n dX7_clearText_75 rfl rfl ?_
              refine ev_iaddN dX7_clearText_76 ?_
              refine ev_iconst (nI 0) dX7_clearText_77 rfl ?_
              refine em_iZ dX7_clearText_78 hm62 (by omega) (fun h78 hm78 o78 => ?_)
              have ho := ho.tr o78
              obtain ⟨m0, m1, m2, m3, m4, m5, m6, m7, m8, m9, m10, m11, m12⟩ := id hm78
              refine ev_aload_n dX7_clearText_79 rfl rfl ?_
              refine ev_getfield dX7_clearText_80 lf_7_7 m0 rfl ?_
              refine ev_sipush (nI 331) dX7_clearText_83 rfl ?_
              refine ev_bipush (nI 40) dX7_clearText_86 rfl ?_
              refine ev_iload_n dX7_clearText_88 rfl rfl ?_
              refine ev_imulN dX7_clearText_89 ?_
              refine ev_iaddN dX7_clearText_90 ?_
              refine ev_iload_n dX7_clearText_91 rfl rfl ?_
              refine ev_iaddN dX7_clearText_92 ?_
              refine ev_iconst (nI 0) dX7_clearText_93 rfl ?_
              refine em_iZ dX7_clearText_94 hm78 (by omega) (fun h94 hm94 o94 => ?_)
              have ho := ho.tr o94
              obtain ⟨m0, m1, m2, m3, m4, m5, m6, m7, m8, m9, m10, m11, m12⟩ := id hm94
              refine ev_iincN (L' := [_, _, _]) 1 dX7_clearText_95 rfl rfl ?_
              refine ev_goto 42 dX7_clearText_98 rfl ?_
              refine ev_pc (pc' := 42) rfl ?_
              refine ih _ (by omega) (k + 1) _ rfl (by omega) (by rw [← clB_up]; exact hm94) ho
        exact LP42 _ 0 _ rfl (Nat.zero_le _) (by rw [clB_0]; exact hm39) ho
      · refine ev_aload_n dX7_clearText_8 rfl rfl ?_
        refine ev_getfield dX7_clearText_9 lf_7_7 m0 rfl ?_
        refine ev_sipush (nI 551) dX7_clearText_12 rfl ?_
        refine ev_iload_n dX7_clearText_15 rfl rfl ?_
        refine ev_iaddN dX7_clearText_16 ?_
        refine ev_aload_n dX7_clearText_17 rfl rfl ?_
        refine ev_iload_n dX7_clearText_18 rfl rfl ?_
        refine ev_iload_n dX7_clearText_19 rfl rfl ?_
        refine ev_callVP2 dX7_clearText_20 cal_X7_ownersBut lk_7_98 ⟨(Nat.le_of_ble_eq_true rfl), (Nat.le_of_ble_eq_true rfl)⟩ rfl m0 (Nat.le_of_ble_eq_true rfl) (hcl (by omega)) ?_
        refine em_iZ dX7_clearText_23 hm2 (by omega) (fun h23 hm23 o23 => ?_)
        have ho := ho.tr o23
        obtain ⟨m0, m1, m2, m3, m4, m5, m6, m7, m8, m9, m10, m11, m12⟩ := id hm23
        refine ev_iincN (L' := [_, _, _]) 1 dX7_clearText_24 rfl rfl ?_
        refine ev_goto 2 dX7_clearText_27 rfl ?_
        refine ev_pc (pc' := 2) rfl ?_
        exact ih _ (by omega) (k + 1) _ rfl (by omega) (by rw [← clA_up]; exact hm23) ho
  exact LP2 _ 0 h rfl (Nat.zero_le _) (by rw [clA_0]; exact hm) ho
