/-- whether a letter stands behind which place k is -/
def opnN (cd : Nat → Nat) (k : Nat) : Bool := decide (0 < k) && lett (cd (k - 1))
theorem addN_tk (cd : Nat → Nat) (k : Nat) : tkN (cd k) (opnN cd k) = addN cd k := by
  unfold tkN addN opnN
  by_cases h : lett (cd k) = true
  · rw [if_pos h, if_pos h]
  · rw [if_neg h, if_neg h]
    by_cases z : 50 ≤ cd k ∧ cd k ≤ 57 ∧ 0 < k ∧ lett (cd (k - 1)) = true
    · rw [if_pos z, if_pos ⟨by rw [decide_eq_true z.2.2.1, z.2.2.2]; rfl, z.1, z.2.1⟩]
    · rw [if_neg z, if_neg (fun y => z ⟨y.2.1, y.2.2, by
        have := y.1
        rw [Bool.and_eq_true] at this
        exact ⟨of_decide_eq_true this.1, this.2⟩⟩)]
theorem opn_1 {cd : Nat → Nat} {k : Nat} (h : opnN cd k = true) : 0 < k ∧ lett (cd (k - 1)) = true := by
  unfold opnN at h
  rw [Bool.and_eq_true] at h
  exact ⟨of_decide_eq_true h.1, h.2⟩
theorem tlN_last {cd : Nat → Nat} {k : Nat} (h : opnN cd k = true) : 1 ≤ smN (addN cd) k ∧ tlN cd k (smN (addN cd) k - 1) = sgnL cd k := by
  obtain ⟨h1, h2⟩ := opn_1 h
  cases k with
  | zero => exact absurd h1 (Nat.lt_irrefl 0)
  | succ n =>
    rw [Nat.add_sub_cancel] at h2
    have e : addN cd n = 1 := if_pos h2
    have e2 : smN (addN cd) (n + 1) = smN (addN cd) n + 1 := by rw [smN, e]
    rw [e2]
    exact ⟨by omega, if_neg (by omega)⟩
theorem tl_step {cd f f2 : Nat → Nat} {k : Nat} (hf : ∀ j, j < smN (addN cd) k → f j = tlN cd k j) (h1 : ∀ j, j < smN (addN cd) k → f2 j = f j) (h2 : ∀ j, smN (addN cd) k ≤ j → j < smN (addN cd) k + tkN (cd k) (opnN cd k) → f2 j = tkS (cd k) f (smN (addN cd) k)) (j : Nat) (hj : j < smN (addN cd) (k + 1)) : f2 j = tlN cd (k + 1) j := by
  have hs : smN (addN cd) (k + 1) = smN (addN cd) k + addN cd k := rfl
  by_cases z : j < smN (addN cd) k
  · rw [h1 j z, hf j z]
    exact (if_pos z).symm
  · have ht : 0 < tkN (cd k) (opnN cd k) := by rw [addN_tk]; omega
    rw [h2 j (by omega) (by rw [addN_tk]; omega)]
    refine Eq.trans ?_ (if_neg z).symm
    cases hl : lett (cd k) with
    | true => rw [tkS, if_pos hl, sgnL_y hl]
    | false =>
      obtain ⟨l1, l2⟩ := tlN_last (tkN_op hl ht)
      rw [tkS, if_neg (by rw [hl]; decide), sgnL_n hl, hf _ (by omega), l2]
theorem opn_up (cd : Nat → Nat) (k : Nat) : lett (cd k) = opnN cd (k + 1) := by
  unfold opnN
  rw [decide_eq_true (by omega), Nat.add_sub_cancel]
  rfl
set_option maxHeartbeats 4000000 in
set_option maxRecDepth 100000 in
theorem k_rightUpTo {X : mX} {h : mH} {gz : Nat → Nat} {gc : Nat → Int64} {gs : Nat} {gh : Nat → Nat} {gk : Nat → Int64} {gl : Nat} {gb : Nat → Nat} {gt : Nat} {gr : Nat → Nat} {gm : Nat} {gp : Nat → Int64} {gq : Nat → Nat} {ge : Nat → Nat} {gn : Nat} {go : Nat → Nat} {gu : Nat} {gi : Bool} {ga : Nat → Int64} {gv : Nat → Nat} {gw : Nat} {gx : Int64} (hm : MN h gz gc gs gh gk gl gb gt gr gm gp gq ge gn go gu gi ga gv gw gx) (hl60 : gl ≤ 60) (hb : ∀ j, j < gl → gb j ≤ 200) : CnU X m_X7_rightUpTo [.ref 270] h (fun v h1 => v = some (.int (nI (errI gb gl))) ∧ (∃ f op, MN h1 gz gc gs gh gk gl gb gt gr gm gp gq ge gn f (smN (addN gb) (errI gb gl)) op ga gv gw gx ∧ ∀ j, j < smN (addN gb) (errI gb gl) → f j = tlN gb (errI gb gl) j) ∧ Out h h1 270 13) := by
  obtain ⟨m0, m1, m2, m3, m4, m5, m6, m7, m8, m9, m10, m11, m12⟩ := id hm
  have ho : Out h h 270 13 := Out.rf
  refine cn_of_ev (L0 := [_, _]) (by decide +kernel) rfl rfl (Nat.le_of_ble_eq_true rfl) rfl ?_
  refine ev_aload_n dX7_rightUpTo_0 rfl rfl ?_
  refine ev_iconst (nI 0) dX7_rightUpTo_1 rfl ?_
  refine em_pTM dX7_rightUpTo_2 lf_7_142 hm (fun h2 hm2 o2 => ?_)
  have ho := ho.tr o2
  obtain ⟨m0, m1, m2, m3, m4, m5, m6, m7, m8, m9, m10, m11, m12⟩ := id hm2
  refine ev_aload_n dX7_rightUpTo_5 rfl rfl ?_
  refine ev_iconst (nI 0) dX7_rightUpTo_6 rfl ?_
  refine ev_L (st' := [.int (bI false), .ref 270]) rfl rfl ?_
  refine em_pOp dX7_rightUpTo_7 lf_7_138 hm2 (fun h7 hm7 o7 => ?_)
  have ho := ho.tr o7
  obtain ⟨m0, m1, m2, m3, m4, m5, m6, m7, m8, m9, m10, m11, m12⟩ := id hm7
  refine ev_iconst (nI 0) dX7_rightUpTo_10 rfl ?_
  refine ev_istore_n (L' := [_, _]) dX7_rightUpTo_11 rfl (Nat.le_of_ble_eq_true rfl) rfl ?_
  refine ev_pc (pc' := 12) rfl ?_
  have LP12 : ∀ (mz : Nat) (k : Nat) (h2 : mH) (f : Nat → Nat), gl - k = mz → (k ≤ gl) → (MN h2 gz gc gs gh gk gl gb gt gr gm gp gq ge gn f (smN (addN gb) k) (opnN gb k) ga gv gw gx) → (Out h h2 270 13) → (∀ q, q < k → addN gb q ≠ 0 ∧ smN (addN gb) (q + 1) ≤ 40) → (smN (addN gb) k ≤ 40) → (∀ j, j < smN (addN gb) k → f j = tlN gb k j) → Ev X m_X7_rightUpTo B0 12 [.ref 270, .int (nI k)] [] h2 (fun o h1 => ∃ v, o = .inl v ∧ (v = some (.int (nI (errI gb gl))) ∧ (∃ f op, MN h1 gz gc gs gh gk gl gb gt gr gm gp gq ge gn f (smN (addN gb) (errI gb gl)) op ga gv gw gx ∧ ∀ j, j < smN (addN gb) (errI gb gl) → f j = tlN gb (errI gb gl) j) ∧ Out h h1 270 13)) := by
    intro mz
    induction mz using Nat.strongRecOn with
    | _ mz ih =>
      intro k h2 f hmz hk hm2 ho hal h40 hf
      obtain ⟨m0, m1, m2, m3, m4, m5, m6, m7, m8, m9, m10, m11, m12⟩ := id hm2
      refine ev_iload_n dX7_rightUpTo_12 rfl rfl ?_
      refine ev_aload_n dX7_rightUpTo_13 rfl rfl ?_
      refine ev_getfield dX7_rightUpTo_14 lf_7_145 m0 rfl ?_
      refine ev_icmp_geN 39 dX7_rightUpTo_17 rfl (by omega) (by omega) (fun hc17 => ?_) (fun hc17 => ?_)
      · refine ev_iload_n dX7_rightUpTo_39 rfl rfl ?_
        refine ev_ireturn dX7_rightUpTo_40 rfl (Or.inl rfl) (Nat.zero_le _) (Nat.zero_le _) ?_
        have eE : errI gb gl = k := by
          rw [show gl = k by omega]
          exact upTo_all (fun q hq => by simpa using hal q hq)
        rw [eE]
        exact ⟨_, rfl, rfl, ⟨f, _, hm2, hf⟩, ho⟩
      · refine ev_aload_n dX7_rightUpTo_20 rfl rfl ?_
        refine ev_aload_n dX7_rightUpTo_21 rfl rfl ?_
        refine ev_getfield dX7_rightUpTo_22 lf_7_23 m0 rfl ?_
        refine ev_iload_n dX7_rightUpTo_25 rfl rfl ?_
        refine ev_ialoadF dX7_rightUpTo_26 m5 (by omega) (by decide) ?_
        refine ev_callVU1 dX7_rightUpTo_27 cal_X7_takes lk_7_148 ⟨(Nat.le_of_ble_eq_true rfl), (Nat.le_of_ble_eq_true rfl)⟩ rfl m0 (Nat.le_of_ble_eq_true rfl) (k_takes hm2 (gb k) (hb k (by omega)) h40 (fun z => (tlN_last z).1)) (fun v h27 hq27 => ?_)
        refine ev_pc (pc' := 30) rfl ?_
        obtain ⟨rfl, ⟨f2, hm27, g1, g2⟩, o27⟩ := hq27
        have ho := ho.tr o27
        clear m0 m1 m2 m3 m4 m5 m6 m7 m8 m9 m10 m11 m12
        obtain ⟨m0, m1, m2, m3, m4, m5, m6, m7, m8, m9, m10, m11, m12⟩ := id hm27
        refine ev_if_eqB 39 dX7_rightUpTo_30 rfl (fun hc30 => ?_) (fun hc30 => ?_)
        · refine ev_pc (pc' := 39) rfl ?_
          refine ev_iload_n dX7_rightUpTo_39 rfl rfl ?_
          refine ev_ireturn dX7_rightUpTo_40 rfl (Or.inl rfl) (Nat.zero_le _) (Nat.zero_le _) ?_
          have hn : ¬ (0 < tkN (gb k) (opnN gb k) ∧ smN (addN gb) k + tkN (gb k) (opnN gb k) ≤ 40) := of_decide_eq_false hc30
          rw [addN_tk] at hn
          have hss : smN (addN gb) (k + 1) = smN (addN gb) k + addN gb k := rfl
          have eE : errI gb gl = k := upTo_stop (k := k) (by omega) (fun q hq => by simpa using hal q hq) (decide_eq_false (by omega))
          rw [if_neg (by rw [hc30]; decide)] at hm27
          rw [eE]
          exact ⟨_, rfl, rfl, ⟨f2, _, hm27, fun j hj => by rw [g1 j hj]; exact hf j hj⟩, ho⟩
        · refine ev_iincN (L' := [_, _]) 1 dX7_rightUpTo_33 rfl rfl ?_
          refine ev_goto 12 dX7_rightUpTo_36 rfl ?_
          refine ev_pc (pc' := 12) rfl ?_
          have hn : 0 < tkN (gb k) (opnN gb k) ∧ smN (addN gb) k + tkN (gb k) (opnN gb k) ≤ 40 := of_decide_eq_true hc30
          rw [addN_tk] at hn
          have hss : smN (addN gb) (k + 1) = smN (addN gb) k + addN gb k := rfl
          rw [if_pos hc30, addN_tk, ← hss, opn_up] at hm27
          exact ih _ (by omega) (k + 1) _ f2 rfl (by omega) hm27 ho (fun q hq => by rcases Nat.lt_succ_iff_lt_or_eq.mp hq with z | z; exact hal q z; rw [z]; exact ⟨by omega, by omega⟩) (by omega) (tl_step hf g1 (g2 hc30))
  exact LP12 _ 0 _ go rfl (Nat.zero_le _) hm7 ho (fun q hq => absurd hq (Nat.not_lt_zero q)) (Nat.zero_le _) (fun j hj => absurd hj (Nat.not_lt_zero j))
