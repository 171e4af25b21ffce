set_option maxHeartbeats 4000000 in
set_option maxRecDepth 100000 in
theorem k_isWhole {X : mX} {h : mH} {gz : Nat → Nat} {gc : Nat → Int64} {gs : Nat} {gh : Nat → Nat} {gk : Nat → Int64} {gl : Nat} {gb : Nat → Nat} {gt : Nat} {gr : Nat → Nat} {gm : Nat} {gp : Nat → Int64} {gq : Nat → Nat} {ge : Nat → Nat} {gn : Nat} {go : Nat → Nat} {gu : Nat} {gi : Bool} {ga : Nat → Int64} {gv : Nat → Nat} {gw : Nat} {gx : Int64} (hm : MN h gz gc gs gh gk gl gb gt gr gm gp gq ge gn go gu gi ga gv gw gx) (hl60 : gl ≤ 60) (hb : ∀ j, j < gl → gb j ≤ 200) : CnU X m_X7_isWhole [.ref 270] h (fun v h1 => v = some (.int (bI (whol gb gl))) ∧ (∃ f op, MN h1 gz gc gs gh gk gl gb gt gr gm gp gq ge gn f (smN (addN gb) (errI gb gl)) op ga gv gw gx ∧ ∀ j, j < smN (addN gb) (errI gb gl) → f j = tlN gb (errI gb gl) j) ∧ Out h h1 270 13) := by
  obtain ⟨m0, m1, m2, m3, m4, m5, m6, m7, m8, m9, m10, m11, m12⟩ := id hm
  have ho : Out h h 270 13 := Out.rf
  refine cn_of_ev (L0 := [_]) (by decide +kernel) rfl rfl (Nat.le_of_ble_eq_true rfl) rfl ?_
  refine ev_aload_n dX7_isWhole_0 rfl rfl ?_
  refine ev_callVU0 dX7_isWhole_1 cal_X7_rightUpTo lk_7_151 ⟨(Nat.le_of_ble_eq_true rfl), (Nat.le_of_ble_eq_true rfl)⟩ rfl m0 (Nat.le_of_ble_eq_true rfl) (k_rightUpTo hm hl60 hb) (fun v h1 hq1 => ?_)
  refine ev_pc (pc' := 4) rfl ?_
  obtain ⟨rfl, ⟨f, op, hm1, hf⟩, o1⟩ := hq1
  have ho := ho.tr o1
  have he : errI gb gl ≤ gl := upTo_le _ _
  clear m0 m1 m2 m3 m4 m5 m6 m7 m8 m9 m10 m11 m12
  obtain ⟨m0, m1, m2, m3, m4, m5, m6, m7, m8, m9, m10, m11, m12⟩ := id hm1
  refine ev_aload_n dX7_isWhole_4 rfl rfl ?_
  refine ev_getfield dX7_isWhole_5 lf_7_145 m0 rfl ?_
  refine ev_icmp_neN 22 dX7_isWhole_8 rfl (by omega) (by omega) (fun hc8 => ?_) (fun hc8 => ?_)
  · refine ev_iconst (nI 0) dX7_isWhole_22 rfl ?_
    refine ev_zreturn dX7_isWhole_23 rfl (by first | rfl | exact bI_nar _) (Or.inl rfl) (Nat.zero_le _) (Nat.zero_le _) ?_
    first
      | (rw [show whol gb gl = true from decide_eq_true (by omega)]; exact ⟨_, rfl, rfl, ⟨f, op, hm1, hf⟩, ho⟩)
      | (rw [show whol gb gl = false from decide_eq_false (by omega)]; exact ⟨_, rfl, rfl, ⟨f, op, hm1, hf⟩, ho⟩)
  · refine ev_aload_n dX7_isWhole_11 rfl rfl ?_
    refine ev_getfield dX7_isWhole_12 lf_7_145 m0 rfl ?_
    refine ev_if_leN 22 dX7_isWhole_15 rfl (by omega) (fun hc15 => ?_) (fun hc15 => ?_)
    · refine ev_iconst (nI 0) dX7_isWhole_22 rfl ?_
      refine ev_zreturn dX7_isWhole_23 rfl (by first | rfl | exact bI_nar _) (Or.inl rfl) (Nat.zero_le _) (Nat.zero_le _) ?_
      first
        | (rw [show whol gb gl = true from decide_eq_true (by omega)]; exact ⟨_, rfl, rfl, ⟨f, op, hm1, hf⟩, ho⟩)
        | (rw [show whol gb gl = false from decide_eq_false (by omega)]; exact ⟨_, rfl, rfl, ⟨f, op, hm1, hf⟩, ho⟩)
    · refine ev_iconst (nI 1) dX7_isWhole_18 rfl ?_
      refine ev_goto 23 dX7_isWhole_19 rfl ?_
      refine ev_zreturn dX7_isWhole_23 rfl (by first | rfl | exact bI_nar _) (Or.inl rfl) (Nat.zero_le _) (Nat.zero_le _) ?_
      first
        | (rw [show whol gb gl = true from decide_eq_true (by omega)]; exact ⟨_, rfl, rfl, ⟨f, op, hm1, hf⟩, ho⟩)
        | (rw [show whol gb gl = false from decide_eq_false (by omega)]; exact ⟨_, rfl, rfl, ⟨f, op, hm1, hf⟩, ho⟩)
