/-- 1 less a of b -/
def shrD (a b : Nat) : UInt64 := FP.dsub FP.dconst1 (FP.ddiv (FP.i2d (nI a)) (FP.i2d (nI b)))
def no64 (x : UInt64) : Bool := decide (x &&& 0x7fffffffffffffff ≤ 0x7ff0000000000000)
theorem no64_is {x : UInt64} (h : no64 x = true) : vf_n64 x := by
  have z : x &&& 0x7fffffffffffffff ≤ 0x7ff0000000000000 := of_decide_eq_true h
  exact z
def bosE (x : UInt64) (e : Int64) : Option Int64 := if no64 (FP.dsub x FP.dconst1) = true ∧ no64 (FP.dmul (FP.dsub x FP.dconst1) 4841369599423283200) = true then some ((e <<< ((nI 52).toInt64 &&& 63)) ||| FP.d2l (FP.dmul (FP.dsub x FP.dconst1) 4841369599423283200)) else none
def bosL : Nat → UInt64 → Int64 → Option Int64
  | 0, _, _ => none
  | n + 1, x, e => if 0 ≤ Op.cmpValue (FP.dcmp x FP.dconst1) .g then bosE x e else if lg_cmp e (lN 1) ≤ 0 then bosE x e else if no64 (FP.dmul x 4611686018427387904) = true then bosL n (FP.dmul x 4611686018427387904) (e - lN 1) else none
def bosD (x : UInt64) : Option Int64 := if 0 < Op.cmpValue (FP.dcmp x FP.dconst0) .l then bosL 12 x 1023 else some (lN 0)
def shrT (a b : Nat) : Bool := no64 (FP.ddiv (FP.i2d (nI a)) (FP.i2d (nI b))) && no64 (shrD a b) && decide (bosD (shrD a b) = some (shrD a b).toInt64)
set_option maxHeartbeats 4000000 in
set_option maxRecDepth 100000 in
theorem c_bitsOfShare {X : mX} {h : mH} (x : UInt64) (v : Int64) (hv : bosD x = some v) : CnP X m_X6_bitsOfShare [.double x] h (some (.long (v))) := by
  have J43 : ∀ (x1 : UInt64) (e1 : Int64), bosE x1 e1 = some v → Ev X m_X6_bitsOfShare B0 43 [.double x, jk, .double x1, jk, .long e1, jk] [] h (fun o h1 => o = .inl (some (.long v)) ∧ h1 = h) := by
    intro x1 e1 hE
    have e2 : bosE x1 e1 = some v := hE
    unfold bosE at e2
    split at e2
    · next qq =>
      refine ev_lload dX6_bitsOfShare_43 rfl ?_
      refine ev_bipush (nI 52) dX6_bitsOfShare_45 rfl ?_
      refine ev_lshl dX6_bitsOfShare_47 ?_
      refine ev_dload_n dX6_bitsOfShare_48 rfl rfl ?_
      refine ev_dconst1 dX6_bitsOfShare_49 ?_
      refine ev_dsub dX6_bitsOfShare_50 (no64_is (by first | exact qq.1 | exact qq.2)) ?_
      refine ev_ldc2d _ dX6_bitsOfShare_51 lc_6_380 ?_
      refine ev_dmul dX6_bitsOfShare_54 (no64_is (by first | exact qq.1 | exact qq.2)) ?_
      refine ev_d2l dX6_bitsOfShare_55 ?_
      refine ev_lor dX6_bitsOfShare_56 ?_
      refine ev_lreturn dX6_bitsOfShare_57 rfl (Or.inl rfl) (Nat.zero_le _) (Nat.zero_le _) ?_
      cases e2
      exact ⟨rfl, rfl⟩
    · cases e2
  unfold bosD at hv
  refine cn_of_ev (L0 := [_, _, _, _, _, _]) (by decide +kernel) rfl rfl (Nat.le_of_ble_eq_true rfl) rfl ?_
  refine ev_dload_n dX6_bitsOfShare_0 rfl rfl ?_
  refine ev_dconst0 dX6_bitsOfShare_1 ?_
  refine ev_dcmp dX6_bitsOfShare_2 ?_
  refine ev_if_gt 8 dX6_bitsOfShare_3 rfl (fun hc3 => ?_) (fun hc3 => ?_)
  · refine ev_pc (pc' := 8) rfl ?_
    rw [if_pos hc3] at hv
    refine ev_dload_n dX6_bitsOfShare_8 rfl rfl ?_
    refine ev_dstore_n (L' := [_, _, _, _, _, _]) dX6_bitsOfShare_9 rfl (Nat.le_of_ble_eq_true rfl) rfl ?_
    refine ev_ldc2 _ dX6_bitsOfShare_10 lc_6_376 ?_
    refine ev_lstore (L' := [_, _, _, _, _, _]) dX6_bitsOfShare_13 (Nat.le_of_ble_eq_true rfl) rfl ?_
    refine ev_pc (pc' := 15) rfl ?_
    have LP15 : ∀ (mz : Nat) (n : Nat) (x1 : UInt64) (e1 : Int64), n = mz → (bosL n x1 e1 = some v) → Ev X m_X6_bitsOfShare B0 15 [.double x, jk, .double x1, jk, .long e1, jk] [] h (fun o h1 => o = .inl (some (.long v)) ∧ h1 = h) := by
      intro mz
      induction mz using Nat.strongRecOn with
      | _ mz ih =>
        intro n x1 e1 hmz hE
        cases n with
        | zero => cases hE
        | succ n =>
        unfold bosL at hE
        refine ev_dload_n dX6_bitsOfShare_15 rfl rfl ?_
        refine ev_dconst1 dX6_bitsOfShare_16 ?_
        refine ev_dcmp dX6_bitsOfShare_17 ?_
        refine ev_if_ge 43 dX6_bitsOfShare_18 rfl (fun hc18 => ?_) (fun hc18 => ?_)
        · refine ev_pc (pc' := 43) rfl ?_
          first
            | (rw [if_pos hc18] at hE; exact J43 _ _ hE)
            | (rw [if_neg hc18, if_pos hc25] at hE; exact J43 _ _ hE)
        · refine ev_lload dX6_bitsOfShare_21 rfl ?_
          refine ev_lconst (lN 1) dX6_bitsOfShare_23 rfl ?_
          refine ev_lcmp dX6_bitsOfShare_24 ?_
          refine ev_if_le 43 dX6_bitsOfShare_25 rfl (fun hc25 => ?_) (fun hc25 => ?_)
          · refine ev_pc (pc' := 43) rfl ?_
            first
              | (rw [if_pos hc18] at hE; exact J43 _ _ hE)
              | (rw [if_neg hc18, if_pos hc25] at hE; exact J43 _ _ hE)
          · refine ev_pc (pc' := 28) rfl ?_
            rw [if_neg hc18, if_neg hc25] at hE
            split at hE
            · next qq =>
              refine ev_dload_n dX6_bitsOfShare_28 rfl rfl ?_
              refine ev_ldc2d _ dX6_bitsOfShare_29 lc_6_378 ?_
              refine ev_dmul dX6_bitsOfShare_32 (no64_is qq) ?_
              refine ev_dstore_n (L' := [_, _, _, _, _, _]) dX6_bitsOfShare_33 rfl (Nat.le_of_ble_eq_true rfl) rfl ?_
              refine ev_lload dX6_bitsOfShare_34 rfl ?_
              refine ev_lconst (lN 1) dX6_bitsOfShare_36 rfl ?_
              refine ev_lsub dX6_bitsOfShare_37 ?_
              refine ev_lstore (L' := [_, _, _, _, _, _]) dX6_bitsOfShare_38 (Nat.le_of_ble_eq_true rfl) rfl ?_
              refine ev_goto 15 dX6_bitsOfShare_40 rfl ?_
              refine ev_pc (pc' := 15) rfl ?_
              exact ih n (by omega) n _ _ rfl hE
            · cases hE
    exact LP15 _ 12 x 1023 rfl hv
  · refine ev_pc (pc' := 6) rfl ?_
    rw [if_neg hc3] at hv
    cases hv
    refine ev_lconst (lN 0) dX6_bitsOfShare_6 rfl ?_
    refine ev_lreturn dX6_bitsOfShare_7 rfl (Or.inl rfl) (Nat.zero_le _) (Nat.zero_le _) ?_
    exact ⟨rfl, rfl⟩
/-- the signs that slots with owners hold; the share saved -/
def owdN (T : mSt) : Nat := szS (tS T) - smN (fun k => if isU (tS T) k = true then rl (sR (tS T) k) else 0) 60
def sgsN (T : mSt) : Nat := smN (fun t => kL (tC T t)) 4
def savD (T : mSt) : UInt64 := if sgsN T = 0 then FP.dconst0 else shrD (owdN T) (sgsN T)
theorem unow_le (S : mSo) : smN (fun k => if isU S k = true then rl (sR S k) else 0) 60 ≤ szS S := smN_le2 (fun k hk => by
  by_cases z : sR S k = 0
  · simp [isU, isF, z]
  · simp [isU, isF, z]
    split <;> omega)
theorem szS_le {S : mSo} (h : SoB S) : szS S ≤ 1200 := Nat.le_trans (smN_le (c := 20) (fun k hk => by
  by_cases z : sR S k = 0
  · simp [isF, z]
  · simp [isF, z]; exact (h k hk z).1)) (by omega)
/-- sharing is exact -/
def ShOK (T : mSt) : Prop := sgsN T ≠ 0 → shrT (owdN T) (sgsN T) = true
theorem shrT_3 {a b : Nat} (h : shrT a b = true) : bosD (shrD a b) = some (shrD a b).toInt64 := by
  unfold shrT at h
  rw [Bool.and_eq_true, Bool.and_eq_true] at h
  exact of_decide_eq_true h.2
theorem shrT_1 {a b : Nat} (h : shrT a b = true) : vf_n64 (FP.ddiv (FP.i2d (nI a)) (FP.i2d (nI b))) := by
  unfold shrT at h
  rw [Bool.and_eq_true, Bool.and_eq_true] at h
  exact no64_is h.1.1
theorem shrT_2 {a b : Nat} (h : shrT a b = true) : vf_n64 (FP.dsub FP.dconst1 (FP.ddiv (FP.i2d (nI a)) (FP.i2d (nI b)))) := by
  unfold shrT at h
  rw [Bool.and_eq_true, Bool.and_eq_true] at h
  exact no64_is h.1.2
theorem bos0 : bosD FP.dconst0 = some FP.dconst0.toInt64 := by decide +kernel
set_option maxHeartbeats 4000000 in
set_option maxRecDepth 100000 in
theorem c_savedShare {X : mX} {h : mH} {A : mAs} (hA : ClsN h A) (hB : SoB (tS (aT A))) (hsh : ShOK (aT A)) : CnP X m_X6_savedShare [.ref 0] h (some (.double (savD (aT A)))) := by
  obtain ⟨a0, hT, hH, hBf, hW⟩ := id hA
  obtain ⟨t0, ⟨f, t1, t2⟩, hcs, hsto, hset⟩ := id hT
  obtain ⟨m0, hm6, -⟩ := id hH
  obtain ⟨⟨b0, bf, b1, hbf⟩, hb60, hbd⟩ := id hBf
  obtain ⟨_, _, _, ⟨s0, -, -, -⟩, -⟩ := id hsto
  have h1 := unow_le (tS (aT A))
  have h2 := szS_le hB
  have h4 : sgsN (aT A) ≤ 4 * 40 := smN_le (fun t ht => ClsN.hL hA t ht)
  refine cn_of_ev (L0 := [_, _, _]) (by decide +kernel) rfl rfl (Nat.le_of_ble_eq_true rfl) rfl ?_
  refine ev_aload_n dX6_savedShare_0 rfl rfl ?_
  first | refine ev_getfield dX6_savedShare_1 lf_6_10 (a0) rfl ?_ | refine ev_getfield dX6_savedShare_1 lf_6_10 (t0) rfl ?_ | refine ev_getfield dX6_savedShare_1 lf_6_10 (s0) rfl ?_
  first | refine ev_callVP0 dX6_savedShare_4 cal_X4_signs lk_6_242 ⟨(Nat.le_of_ble_eq_true rfl), (Nat.le_of_ble_eq_true rfl)⟩ rfl (a0) (Nat.le_of_ble_eq_true rfl) ((show CnP X m_X4_signs _ h (some (.int (nI (sgsN (aT A))))) from c_St_signs hT)) ?_ | refine ev_callVP0 dX6_savedShare_4 cal_X4_signs lk_6_242 ⟨(Nat.le_of_ble_eq_true rfl), (Nat.le_of_ble_eq_true rfl)⟩ rfl (t0) (Nat.le_of_ble_eq_true rfl) ((show CnP X m_X4_signs _ h (some (.int (nI (sgsN (aT A))))) from c_St_signs hT)) ?_ | refine ev_callVP0 dX6_savedShare_4 cal_X4_signs lk_6_242 ⟨(Nat.le_of_ble_eq_true rfl), (Nat.le_of_ble_eq_true rfl)⟩ rfl (s0) (Nat.le_of_ble_eq_true rfl) ((show CnP X m_X4_signs _ h (some (.int (nI (sgsN (aT A))))) from c_St_signs hT)) ?_
  refine ev_istore_n (L' := [_, _, _]) dX6_savedShare_7 rfl (Nat.le_of_ble_eq_true rfl) rfl ?_
  refine ev_iload_n dX6_savedShare_8 rfl rfl ?_
  refine ev_if_gtN 14 dX6_savedShare_9 rfl (by omega) (fun hc9 => ?_) (fun hc9 => ?_)
  · refine ev_aload_n dX6_savedShare_14 rfl rfl ?_
    first | refine ev_getfield dX6_savedShare_15 lf_6_10 (a0) rfl ?_ | refine ev_getfield dX6_savedShare_15 lf_6_10 (t0) rfl ?_ | refine ev_getfield dX6_savedShare_15 lf_6_10 (s0) rfl ?_
    first | refine ev_getfield dX6_savedShare_18 lf_6_114 (a0) rfl ?_ | refine ev_getfield dX6_savedShare_18 lf_6_114 (t0) rfl ?_ | refine ev_getfield dX6_savedShare_18 lf_6_114 (s0) rfl ?_
    first | refine ev_callVP0 dX6_savedShare_21 cal_X5_size lk_6_246 ⟨(Nat.le_of_ble_eq_true rfl), (Nat.le_of_ble_eq_true rfl)⟩ rfl (a0) (Nat.le_of_ble_eq_true rfl) ((show CnP X m_X5_size _ h (some (.int (nI (szS (tS (aT A)))))) from c_size hsto hB)) ?_ | refine ev_callVP0 dX6_savedShare_21 cal_X5_size lk_6_246 ⟨(Nat.le_of_ble_eq_true rfl), (Nat.le_of_ble_eq_true rfl)⟩ rfl (t0) (Nat.le_of_ble_eq_true rfl) ((show CnP X m_X5_size _ h (some (.int (nI (szS (tS (aT A)))))) from c_size hsto hB)) ?_ | refine ev_callVP0 dX6_savedShare_21 cal_X5_size lk_6_246 ⟨(Nat.le_of_ble_eq_true rfl), (Nat.le_of_ble_eq_true rfl)⟩ rfl (s0) (Nat.le_of_ble_eq_true rfl) ((show CnP X m_X5_size _ h (some (.int (nI (szS (tS (aT A)))))) from c_size hsto hB)) ?_
    refine ev_aload_n dX6_savedShare_24 rfl rfl ?_
    first | refine ev_getfield dX6_savedShare_25 lf_6_10 (a0) rfl ?_ | refine ev_getfield dX6_savedShare_25 lf_6_10 (t0) rfl ?_ | refine ev_getfield dX6_savedShare_25 lf_6_10 (s0) rfl ?_
    first | refine ev_getfield dX6_savedShare_28 lf_6_114 (a0) rfl ?_ | refine ev_getfield dX6_savedShare_28 lf_6_114 (t0) rfl ?_ | refine ev_getfield dX6_savedShare_28 lf_6_114 (s0) rfl ?_
    first | refine ev_callVP0 dX6_savedShare_31 cal_X5_unownedSize lk_6_252 ⟨(Nat.le_of_ble_eq_true rfl), (Nat.le_of_ble_eq_true rfl)⟩ rfl (a0) (Nat.le_of_ble_eq_true rfl) (c_unownedSize hsto hB) ?_ | refine ev_callVP0 dX6_savedShare_31 cal_X5_unownedSize lk_6_252 ⟨(Nat.le_of_ble_eq_true rfl), (Nat.le_of_ble_eq_true rfl)⟩ rfl (t0) (Nat.le_of_ble_eq_true rfl) (c_unownedSize hsto hB) ?_ | refine ev_callVP0 dX6_savedShare_31 cal_X5_unownedSize lk_6_252 ⟨(Nat.le_of_ble_eq_true rfl), (Nat.le_of_ble_eq_true rfl)⟩ rfl (s0) (Nat.le_of_ble_eq_true rfl) (c_unownedSize hsto hB) ?_
    refine ev_isubN dX6_savedShare_34 (by omega) ?_
    refine ev_istore_n (L' := [_, _, _]) dX6_savedShare_35 rfl (Nat.le_of_ble_eq_true rfl) rfl ?_
    refine ev_dconst1 dX6_savedShare_36 ?_
    refine ev_iload_n dX6_savedShare_37 rfl rfl ?_
    refine ev_i2d dX6_savedShare_38 ?_
    refine ev_iload_n dX6_savedShare_39 rfl rfl ?_
    refine ev_i2d dX6_savedShare_40 ?_
    refine ev_ddiv dX6_savedShare_41 (shrT_1 (hsh (by omega))) ?_
    refine ev_dsub dX6_savedShare_42 (shrT_2 (hsh (by omega))) ?_
    refine ev_dreturn dX6_savedShare_43 rfl (Or.inl rfl) (Nat.zero_le _) (Nat.zero_le _) ?_
    rw [savD, if_neg (by omega)]
    exact ⟨rfl, rfl⟩
  · refine ev_dconst0 dX6_savedShare_12 ?_
    refine ev_dreturn dX6_savedShare_13 rfl (Or.inl rfl) (Nat.zero_le _) (Nat.zero_le _) ?_
    rw [savD, if_pos (by omega)]
    exact ⟨rfl, rfl⟩
