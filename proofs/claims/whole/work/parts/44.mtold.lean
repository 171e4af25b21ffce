set_option maxHeartbeats 4000000 in
set_option maxRecDepth 100000 in
theorem k_lowestFree {X : mX} {h : mH} {gz : Nat → Nat} {gc : Nat → Int64} {gs : Nat} {gh : Nat → Nat} {gk : Nat → Int64} {gl : Nat} {gb : Nat → Nat} {gt : Nat} {gr : Nat → Nat} {gm : Nat} {gp : Nat → Int64} {gq : Nat → Nat} {ge : Nat → Nat} {gn : Nat} {go : Nat → Nat} {gu : Nat} {gi : Bool} {ga : Nat → Int64} {gv : Nat → Nat} {gw : Nat} {gx : Int64} (hm : MN h gz gc gs gh gk gl gb gt gr gm gp gq ge gn go gu gi ga gv gw gx) (hkp : KpB gz) (f : Nat) (hf : f < 60) (hf0 : gz (491 + f) = 0) (hfl : ∀ j, j < f → 0 < gz (491 + j)) : CnP X m_X7_lowestFree [.ref 270] h (some (.int (nI f))) := by
  obtain ⟨m0, m1, m2, m3, m4, m5, m6, m7, m8, m9, m10, m11, m12⟩ := id hm
  refine cn_of_ev (L0 := [_, _]) (by decide +kernel) rfl rfl (Nat.le_of_ble_eq_true rfl) rfl ?_
  refine ev_iconst (nI 0) dX7_lowestFree_0 rfl ?_
  refine ev_istore_n (L' := [_, _]) dX7_lowestFree_1 rfl (Nat.le_of_ble_eq_true rfl) rfl ?_
  refine ev_pc (pc' := 2) rfl ?_
  have LP2 : ∀ (mz : Nat) (k : Nat), f - k = mz → (k ≤ f) → Ev X m_X7_lowestFree B0 2 [.ref 270, .int (nI k)] [] h (fun o h1 => o = .inl (some (.int (nI f))) ∧ h1 = h) := by
    intro mz
    induction mz using Nat.strongRecOn with
    | _ mz ih =>
      intro k hmz hk
      have hkk := hkp k (by omega)
      refine ev_aload_n dX7_lowestFree_2 rfl rfl ?_
      refine ev_iload_n dX7_lowestFree_3 rfl rfl ?_
      refine ev_callVP1 dX7_lowestFree_4 cal_X7_isKept lk_7_82 ⟨(Nat.le_of_ble_eq_true rfl), (Nat.le_of_ble_eq_true rfl)⟩ rfl m0 (Nat.le_of_ble_eq_true rfl) (k_isKept hm k (by omega) (by omega)) ?_
      refine ev_if_eqB 16 dX7_lowestFree_7 rfl (fun hc7 => ?_) (fun hc7 => ?_)
      · refine ev_iload_n dX7_lowestFree_16 rfl rfl ?_
        refine ev_ireturn dX7_lowestFree_17 rfl (Or.inl rfl) (Nat.zero_le _) (Nat.zero_le _) ?_
        have hp : ¬ 0 < gz (491 + k) := of_decide_eq_false hc7
        have he : k = f := by
          rcases Nat.lt_or_ge k f with z | z
          · exact absurd (hfl k z) hp
          · omega
        rw [he]
        exact ⟨rfl, rfl⟩
      · refine ev_iincN (L' := [_, _]) 1 dX7_lowestFree_10 rfl rfl ?_
        refine ev_goto 2 dX7_lowestFree_13 rfl ?_
        refine ev_pc (pc' := 2) rfl ?_
        have hp : 0 < gz (491 + k) := of_decide_eq_true hc7
        have hne : k ≠ f := fun z => by rw [z] at hp; omega
        exact ih _ (by omega) (k + 1) rfl (by omega)
  exact LP2 _ 0 rfl (Nat.zero_le _)
set_option maxHeartbeats 4000000 in
set_option maxRecDepth 100000 in
theorem k_takeTold {X : mX} {h : mH} {gz : Nat → Nat} {gc : Nat → Int64} {gs : Nat} {gh : Nat → Nat} {gk : Nat → Int64} {gl : Nat} {gb : Nat → Nat} {gt : Nat} {gr : Nat → Nat} {gm : Nat} {gp : Nat → Int64} {gq : Nat → Nat} {ge : Nat → Nat} {gn : Nat} {go : Nat → Nat} {gu : Nat} {gi : Bool} {ga : Nat → Int64} {gv : Nat → Nat} {gw : Nat} {gx : Int64} (hm : MN h gz gc gs gh gk gl gb gt gr gm gp gq ge gn go gu gi ga gv gw gx) (hz : SetV gz) (hu : gu ≤ 40) (hgo : ∀ j, j < gu → 1 ≤ go j ∧ go j ≤ 8) : CnU X m_X7_takeTold [.ref 270] h (fun v h1 => v = none ∧ (∃ f, MN h1 gz gc gs gh gk gl gb gt f gu ((cuM gz f gu gp gq ge gu).2.2.2.1 ) ((cuM gz f gu gp gq ge gu).2.2.2.2.1 ) ((cuM gz f gu gp gq ge gu).2.2.2.2.2 ) ((cuM gz f gu gp gq ge gu).2.2.1 ) go gu gi ga gv gw gx ∧ ∀ j, j < gu → f j = go j) ∧ Out h h1 270 13) := by
  obtain ⟨m0, m1, m2, m3, m4, m5, m6, m7, m8, m9, m10, m11, m12⟩ := id hm
  have ho : Out h h 270 13 := Out.rf
  refine cn_of_ev (L0 := [_, _]) (by decide +kernel) rfl rfl (Nat.le_of_ble_eq_true rfl) rfl ?_
  refine ev_aload_n dX7_takeTold_0 rfl rfl ?_
  refine ev_aload_n dX7_takeTold_1 rfl rfl ?_
  refine ev_getfield dX7_takeTold_2 lf_7_142 m0 rfl ?_
  refine em_pRM dX7_takeTold_5 lf_7_62 hm (fun h5 hm5 o5 => ?_)
  have ho := ho.tr o5
  obtain ⟨m0, m1, m2, m3, m4, m5, m6, m7, m8, m9, m10, m11, m12⟩ := id hm5
  refine ev_iconst (nI 0) dX7_takeTold_8 rfl ?_
  refine ev_istore_n (L' := [_, _]) dX7_takeTold_9 rfl (Nat.le_of_ble_eq_true rfl) rfl ?_
  refine ev_pc (pc' := 10) rfl ?_
  have LP10 : ∀ (mz : Nat) (k : Nat) (h2 : mH) (f : Nat → Nat), gu - k = mz → (k ≤ gu) → (MN h2 gz gc gs gh gk gl gb gt f gu gp gq ge gn go gu gi ga gv gw gx) → (Out h h2 270 13) → (∀ j, j < k → f j = go j) → Ev X m_X7_takeTold B0 10 [.ref 270, .int (nI k)] [] h2 (fun o h1 => ∃ v, o = .inl v ∧ (v = none ∧ (∃ f, MN h1 gz gc gs gh gk gl gb gt f gu ((cuM gz f gu gp gq ge gu).2.2.2.1 ) ((cuM gz f gu gp gq ge gu).2.2.2.2.1 ) ((cuM gz f gu gp gq ge gu).2.2.2.2.2 ) ((cuM gz f gu gp gq ge gu).2.2.1 ) go gu gi ga gv gw gx ∧ ∀ j, j < gu → f j = go j) ∧ Out h h1 270 13)) := by
    intro mz
    induction mz using Nat.strongRecOn with
    | _ mz ih =>
      intro k h2 f hmz hk hm2 ho hf
      obtain ⟨m0, m1, m2, m3, m4, m5, m6, m7, m8, m9, m10, m11, m12⟩ := id hm2
      refine ev_iload_n dX7_takeTold_10 rfl rfl ?_
      refine ev_aload_n dX7_takeTold_11 rfl rfl ?_
      refine ev_getfield dX7_takeTold_12 lf_7_62 m0 rfl ?_
      refine ev_icmp_geN 36 dX7_takeTold_15 rfl (by omega) (by omega) (fun hc15 => ?_) (fun hc15 => ?_)
      · refine ev_aload_n dX7_takeTold_36 rfl rfl ?_
        refine ev_callVU0 dX7_takeTold_37 cal_X7_cut lk_7_154 ⟨(Nat.le_of_ble_eq_true rfl), (Nat.le_of_ble_eq_true rfl)⟩ rfl m0 (Nat.le_of_ble_eq_true rfl) (k_cut hm2 hz (fun i hi => by rw [hf i (by omega)]; exact hgo i hi) hu) (fun v h37 hq37 => ?_)
        obtain ⟨rfl, hm37, o37⟩ := hq37
        have ho := ho.tr o37
        obtain ⟨m0, m1, m2, m3, m4, m5, m6, m7, m8, m9, m10, m11, m12⟩ := id hm37
        refine ev_return dX7_takeTold_40 rfl (Or.inl rfl) (Nat.zero_le _) (Nat.zero_le _) ?_
        exact ⟨none, rfl, rfl, ⟨f, hm37, fun j hj => hf j (by omega)⟩, ho⟩
      · refine ev_aload_n dX7_takeTold_18 rfl rfl ?_
        refine ev_getfield dX7_takeTold_19 lf_7_26 m0 rfl ?_
        refine ev_iload_n dX7_takeTold_22 rfl rfl ?_
        refine ev_aload_n dX7_takeTold_23 rfl rfl ?_
        refine ev_getfield dX7_takeTold_24 lf_7_38 m0 rfl ?_
        refine ev_iload_n dX7_takeTold_27 rfl rfl ?_
        refine ev_ialoadF dX7_takeTold_28 m10 (by omega) (by decide) ?_
        refine em_iRw dX7_takeTold_29 hm2 (by omega) (fun h29 hm29 o29 => ?_)
        have ho := ho.tr o29
        obtain ⟨m0, m1, m2, m3, m4, m5, m6, m7, m8, m9, m10, m11, m12⟩ := id hm29
        refine ev_iincN (L' := [_, _]) 1 dX7_takeTold_30 rfl rfl ?_
        refine ev_goto 10 dX7_takeTold_33 rfl ?_
        refine ev_pc (pc' := 10) rfl ?_
        refine ih _ (by omega) (k + 1) _ (upN f k (go k)) rfl (by omega) hm29 ho (fun j hj => ?_)
        by_cases e : j = k
        · rw [e, upN_s]
        · rw [upN_n e]; exact hf j (by omega)
  exact LP10 _ 0 _ gr rfl (Nat.zero_le _) hm5 ho (fun j hj => absurd hj (Nat.not_lt_zero j))
