def SetV (v : Nat → Nat) : Prop := (1 ≤ v 0 ∧ v 0 ≤ 6) ∧ (1 ≤ v 1 ∧ v 1 ≤ 9) ∧ v 2 ≤ 8 ∧ (1 ≤ v 3 ∧ v 3 ≤ 6) ∧ (6 ≤ v 4 ∧ v 4 ≤ 20)
/-- how a piece of m signs ends at place j of the row: 0 not, 1 by its sum, 2 forced, 3 with the row -/
def endN (z r : Nat → Nat) (n j m : Nat) : Nat := if z 3 ≤ m ∧ sumN r (z 0) j % z 1 = z 2 then 1 else if m = z 4 then 2 else if j + 1 = n then 3 else 0
/-- the cutting under way: the piece's code, its signs; the pieces: how many, codes, lengths, ends -/
abbrev mCu : Type := Int64 × Nat × Nat × (Nat → Int64) × (Nat → Nat) × (Nat → Nat)
def cuC (r : Nat → Nat) (σ : mCu) (i : Nat) : Int64 := σ.1 ||| (lN (r i - 1) <<< ((nI (3 * σ.2.1)).toInt64 &&& 63))
def cuM (z r : Nat → Nat) (n : Nat) (gp : Nat → Int64) (gq ge : Nat → Nat) : Nat → mCu
  | 0 => (lN 0, 0, 0, gp, gq, ge)
  | i + 1 =>
    let σ := cuM z r n gp gq ge i
    if endN z r n i (σ.2.1 + 1) = 0 then (cuC r σ i, σ.2.1 + 1, σ.2.2)
    else (lN 0, 0, σ.2.2.1 + 1, vp_updL σ.2.2.2.1 σ.2.2.1 (cuC r σ i), upN σ.2.2.2.2.1 σ.2.2.1 (σ.2.1 + 1), upN σ.2.2.2.2.2 σ.2.2.1 (endN z r n i (σ.2.1 + 1)))
theorem cuM_0 {z r : Nat → Nat} {n : Nat} {gp : Nat → Int64} {gq ge : Nat → Nat} {i : Nat} (h : endN z r n i ((cuM z r n gp gq ge i).2.1 + 1) = 0) : cuM z r n gp gq ge (i + 1) = (cuC r (cuM z r n gp gq ge i) i, (cuM z r n gp gq ge i).2.1 + 1, (cuM z r n gp gq ge i).2.2) := if_pos h
theorem cuM_1 {z r : Nat → Nat} {n : Nat} {gp : Nat → Int64} {gq ge : Nat → Nat} {i : Nat} (h : ¬ endN z r n i ((cuM z r n gp gq ge i).2.1 + 1) = 0) : cuM z r n gp gq ge (i + 1) = (lN 0, 0, (cuM z r n gp gq ge i).2.2.1 + 1, vp_updL (cuM z r n gp gq ge i).2.2.2.1 (cuM z r n gp gq ge i).2.2.1 (cuC r (cuM z r n gp gq ge i) i), upN (cuM z r n gp gq ge i).2.2.2.2.1 (cuM z r n gp gq ge i).2.2.1 ((cuM z r n gp gq ge i).2.1 + 1), upN (cuM z r n gp gq ge i).2.2.2.2.2 (cuM z r n gp gq ge i).2.2.1 (endN z r n i ((cuM z r n gp gq ge i).2.1 + 1))) := if_neg h
theorem cuM_le (z r : Nat → Nat) (n : Nat) (gp : Nat → Int64) (gq ge : Nat → Nat) : ∀ i, (cuM z r n gp gq ge i).2.1 + (cuM z r n gp gq ge i).2.2.1 ≤ i
  | 0 => Nat.le_refl _
  | i + 1 => by
    have := cuM_le z r n gp gq ge i
    by_cases h : endN z r n i ((cuM z r n gp gq ge i).2.1 + 1) = 0
    · rw [cuM_0 h]
      show (cuM z r n gp gq ge i).2.1 + 1 + (cuM z r n gp gq ge i).2.2.1 ≤ i + 1
      omega
    · rw [cuM_1 h]
      show 0 + ((cuM z r n gp gq ge i).2.2.1 + 1) ≤ i + 1
      omega
theorem endN_le (z r : Nat → Nat) (n j m : Nat) : endN z r n j m ≤ 3 := by
  unfold endN
  split
  · omega
  · split
    · omega
    · split <;> omega
set_option maxHeartbeats 4000000 in
set_option maxRecDepth 100000 in
theorem k_endAt {X : mX} {h : mH} {gz : Nat → Nat} {gc : Nat → Int64} {gs : Nat} {gh : Nat → Nat} {gk : Nat → Int64} {gl : Nat} {gb : Nat → Nat} {gt : Nat} {gr : Nat → Nat} {gm : Nat} {gp : Nat → Int64} {gq : Nat → Nat} {ge : Nat → Nat} {gn : Nat} {go : Nat → Nat} {gu : Nat} {gi : Bool} {ga : Nat → Int64} {gv : Nat → Nat} {gw : Nat} {gx : Int64} (hm : MN h gz gc gs gh gk gl gb gt gr gm gp gq ge gn go gu gi ga gv gw gx) (hz : SetV gz) (hr : ∀ i, i < gm → 1 ≤ gr i ∧ gr i ≤ 8) (hm40 : gm ≤ 40) (j m : Nat) (hj : j < gm) (hmm : m ≤ 60) : CnP X m_X7_endAt [.ref 270, .int (nI j), .int (nI m)] h (some (.int (nI (endN gz gr gm j m)))) := by
  obtain ⟨m0, m1, m2, m3, m4, m5, m6, m7, m8, m9, m10, m11, m12⟩ := id hm
  obtain ⟨hv0, hv1, hv2, hv3, hv4⟩ := id hz
  have hsm := sumN_le (s := gr) (w := gz 0) (j := j) hv0.2 (fun i hi => (hr i (by omega)).2)
  have hmod := Nat.mod_lt (sumN gr (gz 0) j) (show 0 < gz 1 by omega)
  refine cn_of_ev (L0 := [_, _, _]) (by decide +kernel) rfl rfl (Nat.le_of_ble_eq_true rfl) rfl ?_
  refine ev_iload_n dX7_endAt_0 rfl rfl ?_
  refine ev_aload_n dX7_endAt_1 rfl rfl ?_
  refine ev_getfield dX7_endAt_2 lf_7_7 m0 rfl ?_
  refine ev_iconst (nI 3) dX7_endAt_5 rfl ?_
  refine ev_ialoadF dX7_endAt_6 m1 (by omega) (by decide) ?_
  refine ev_icmp_ltN 33 dX7_endAt_7 rfl (by omega) (by omega) (fun hc7 => ?_) (fun hc7 => ?_)
  · refine ev_iload_n dX7_endAt_33 rfl rfl ?_
    refine ev_aload_n dX7_endAt_34 rfl rfl ?_
    refine ev_getfield dX7_endAt_35 lf_7_7 m0 rfl ?_
    refine ev_iconst (nI 4) dX7_endAt_38 rfl ?_
    refine ev_ialoadF dX7_endAt_39 m1 (by omega) (by decide) ?_
    refine ev_icmp_neN 47 dX7_endAt_40 rfl (by omega) (by omega) (fun hc40 => ?_) (fun hc40 => ?_)
    · refine ev_iload_n dX7_endAt_47 rfl rfl ?_
      refine ev_aload_n dX7_endAt_48 rfl rfl ?_
      refine ev_getfield dX7_endAt_49 lf_7_62 m0 rfl ?_
      refine ev_iconst (nI 1) dX7_endAt_52 rfl ?_
      refine ev_isubN dX7_endAt_53 (by omega) ?_
      refine ev_icmp_neN 61 dX7_endAt_54 rfl (by omega) (by omega) (fun hc54 => ?_) (fun hc54 => ?_)
      · refine ev_iconst (nI 0) dX7_endAt_61 rfl ?_
        refine ev_ireturn dX7_endAt_62 rfl (Or.inl rfl) (Nat.zero_le _) (Nat.zero_le _) ?_
        first
          | (rw [endN, if_pos (by omega)]; exact ⟨rfl, rfl⟩)
          | (rw [endN, if_neg (by omega), if_pos (by omega)]; exact ⟨rfl, rfl⟩)
          | (rw [endN, if_neg (by omega), if_neg (by omega), if_pos (by omega)]; exact ⟨rfl, rfl⟩)
          | (rw [endN, if_neg (by omega), if_neg (by omega), if_neg (by omega)]; exact ⟨rfl, rfl⟩)
      · refine ev_iconst (nI 3) dX7_endAt_57 rfl ?_
        refine ev_goto 62 dX7_endAt_58 rfl ?_
        refine ev_ireturn dX7_endAt_62 rfl (Or.inl rfl) (Nat.zero_le _) (Nat.zero_le _) ?_
        first
          | (rw [endN, if_pos (by omega)]; exact ⟨rfl, rfl⟩)
          | (rw [endN, if_neg (by omega), if_pos (by omega)]; exact ⟨rfl, rfl⟩)
          | (rw [endN, if_neg (by omega), if_neg (by omega), if_pos (by omega)]; exact ⟨rfl, rfl⟩)
          | (rw [endN, if_neg (by omega), if_neg (by omega), if_neg (by omega)]; exact ⟨rfl, rfl⟩)
    · refine ev_iconst (nI 2) dX7_endAt_43 rfl ?_
      refine ev_goto 62 dX7_endAt_44 rfl ?_
      refine ev_ireturn dX7_endAt_62 rfl (Or.inl rfl) (Nat.zero_le _) (Nat.zero_le _) ?_
      first
        | (rw [endN, if_pos (by omega)]; exact ⟨rfl, rfl⟩)
        | (rw [endN, if_neg (by omega), if_pos (by omega)]; exact ⟨rfl, rfl⟩)
        | (rw [endN, if_neg (by omega), if_neg (by omega), if_pos (by omega)]; exact ⟨rfl, rfl⟩)
        | (rw [endN, if_neg (by omega), if_neg (by omega), if_neg (by omega)]; exact ⟨rfl, rfl⟩)
  · refine ev_aload_n dX7_endAt_10 rfl rfl ?_
    refine ev_iload_n dX7_endAt_11 rfl rfl ?_
    refine ev_callVP1 dX7_endAt_12 cal_X7_sumAt lk_7_69 ⟨(Nat.le_of_ble_eq_true rfl), (Nat.le_of_ble_eq_true rfl)⟩ rfl m0 (Nat.le_of_ble_eq_true rfl) (k_sumAt hm j (by omega) hv0.2 (fun i hi => (hr i (by omega)).2)) ?_
    refine ev_aload_n dX7_endAt_15 rfl rfl ?_
    refine ev_getfield dX7_endAt_16 lf_7_7 m0 rfl ?_
    refine ev_iconst (nI 1) dX7_endAt_19 rfl ?_
    refine ev_ialoadF dX7_endAt_20 m1 (by omega) (by decide) ?_
    refine ev_iremN dX7_endAt_21 (by omega) (by omega) (by omega) ?_
    refine ev_aload_n dX7_endAt_22 rfl rfl ?_
    refine ev_getfield dX7_endAt_23 lf_7_7 m0 rfl ?_
    refine ev_iconst (nI 2) dX7_endAt_26 rfl ?_
    refine ev_ialoadF dX7_endAt_27 m1 (by omega) (by decide) ?_
    refine ev_icmp_neN 33 dX7_endAt_28 rfl (by omega) (by omega) (fun hc28 => ?_) (fun hc28 => ?_)
    · refine ev_iload_n dX7_endAt_33 rfl rfl ?_
      refine ev_aload_n dX7_endAt_34 rfl rfl ?_
      refine ev_getfield dX7_endAt_35 lf_7_7 m0 rfl ?_
      refine ev_iconst (nI 4) dX7_endAt_38 rfl ?_
      refine ev_ialoadF dX7_endAt_39 m1 (by omega) (by decide) ?_
      refine ev_icmp_neN 47 dX7_endAt_40 rfl (by omega) (by omega) (fun hc40 => ?_) (fun hc40 => ?_)
      · refine ev_iload_n dX7_endAt_47 rfl rfl ?_
        refine ev_aload_n dX7_endAt_48 rfl rfl ?_
        refine ev_getfield dX7_endAt_49 lf_7_62 m0 rfl ?_
        refine ev_iconst (nI 1) dX7_endAt_52 rfl ?_
        refine ev_isubN dX7_endAt_53 (by omega) ?_
        refine ev_icmp_neN 61 dX7_endAt_54 rfl (by omega) (by omega) (fun hc54 => ?_) (fun hc54 => ?_)
        · refine ev_iconst (nI 0) dX7_endAt_61 rfl ?_
          refine ev_ireturn dX7_endAt_62 rfl (Or.inl rfl) (Nat.zero_le _) (Nat.zero_le _) ?_
          first
            | (rw [endN, if_pos (by omega)]; exact ⟨rfl, rfl⟩)
            | (rw [endN, if_neg (by omega), if_pos (by omega)]; exact ⟨rfl, rfl⟩)
            | (rw [endN, if_neg (by omega), if_neg (by omega), if_pos (by omega)]; exact ⟨rfl, rfl⟩)
            | (rw [endN, if_neg (by omega), if_neg (by omega), if_neg (by omega)]; exact ⟨rfl, rfl⟩)
        · refine ev_iconst (nI 3) dX7_endAt_57 rfl ?_
          refine ev_goto 62 dX7_endAt_58 rfl ?_
          refine ev_ireturn dX7_endAt_62 rfl (Or.inl rfl) (Nat.zero_le _) (Nat.zero_le _) ?_
          first
            | (rw [endN, if_pos (by omega)]; exact ⟨rfl, rfl⟩)
            | (rw [endN, if_neg (by omega), if_pos (by omega)]; exact ⟨rfl, rfl⟩)
            | (rw [endN, if_neg (by omega), if_neg (by omega), if_pos (by omega)]; exact ⟨rfl, rfl⟩)
            | (rw [endN, if_neg (by omega), if_neg (by omega), if_neg (by omega)]; exact ⟨rfl, rfl⟩)
      · refine ev_iconst (nI 2) dX7_endAt_43 rfl ?_
        refine ev_goto 62 dX7_endAt_44 rfl ?_
        refine ev_ireturn dX7_endAt_62 rfl (Or.inl rfl) (Nat.zero_le _) (Nat.zero_le _) ?_
        first
          | (rw [endN, if_pos (by omega)]; exact ⟨rfl, rfl⟩)
          | (rw [endN, if_neg (by omega), if_pos (by omega)]; exact ⟨rfl, rfl⟩)
          | (rw [endN, if_neg (by omega), if_neg (by omega), if_pos (by omega)]; exact ⟨rfl, rfl⟩)
          | (rw [endN, if_neg (by omega), if_neg (by omega), if_neg (by omega)]; exact ⟨rfl, rfl⟩)
    · refine ev_iconst (nI 1) dX7_endAt_31 rfl ?_
      refine ev_ireturn dX7_endAt_32 rfl (Or.inl rfl) (Nat.zero_le _) (Nat.zero_le _) ?_
      first
        | (rw [endN, if_pos (by omega)]; exact ⟨rfl, rfl⟩)
        | (rw [endN, if_neg (by omega), if_pos (by omega)]; exact ⟨rfl, rfl⟩)
        | (rw [endN, if_neg (by omega), if_neg (by omega), if_pos (by omega)]; exact ⟨rfl, rfl⟩)
        | (rw [endN, if_neg (by omega), if_neg (by omega), if_neg (by omega)]; exact ⟨rfl, rfl⟩)
set_option maxHeartbeats 4000000 in
set_option maxRecDepth 100000 in
theorem k_cut {X : mX} {h : mH} {gz : Nat → Nat} {gc : Nat → Int64} {gs : Nat} {gh : Nat → Nat} {gk : Nat → Int64} {gl : Nat} {gb : Nat → Nat} {gt : Nat} {gr : Nat → Nat} {gm : Nat} {gp : Nat → Int64} {gq : Nat → Nat} {ge : Nat → Nat} {gn : Nat} {go : Nat → Nat} {gu : Nat} {gi : Bool} {ga : Nat → Int64} {gv : Nat → Nat} {gw : Nat} {gx : Int64} (hm : MN h gz gc gs gh gk gl gb gt gr gm gp gq ge gn go gu gi ga gv gw gx) (hz : SetV gz) (hr : ∀ i, i < gm → 1 ≤ gr i ∧ gr i ≤ 8) (hm40 : gm ≤ 40) : CnU X m_X7_cut [.ref 270] h (fun v h1 => v = none ∧ MN h1 gz gc gs gh gk gl gb gt gr gm ((cuM gz gr gm gp gq ge gm).2.2.2.1 ) ((cuM gz gr gm gp gq ge gm).2.2.2.2.1 ) ((cuM gz gr gm gp gq ge gm).2.2.2.2.2 ) ((cuM gz gr gm gp gq ge gm).2.2.1 ) go gu gi ga gv gw gx ∧ Out h h1 270 13) := by
  obtain ⟨m0, m1, m2, m3, m4, m5, m6, m7, m8, m9, m10, m11, m12⟩ := id hm
  have ho : Out h h 270 13 := Out.rf
  refine cn_of_ev (L0 := [_, _, _, _, _, _]) (by decide +kernel) rfl rfl (Nat.le_of_ble_eq_true rfl) rfl ?_
  refine ev_aload_n dX7_cut_0 rfl rfl ?_
  refine ev_iconst (nI 0) dX7_cut_1 rfl ?_
  refine em_pPc dX7_cut_2 lf_7_72 hm (fun h2 hm2 o2 => ?_)
  have ho := ho.tr o2
  obtain ⟨m0, m1, m2, m3, m4, m5, m6, m7, m8, m9, m10, m11, m12⟩ := id hm2
  refine ev_lconst (lN 0) dX7_cut_5 rfl ?_
  refine ev_lstore_n (L' := [_, _, _, _, _, _]) dX7_cut_6 rfl (Nat.le_of_ble_eq_true rfl) rfl ?_
  refine ev_iconst (nI 0) dX7_cut_7 rfl ?_
  refine ev_istore_n (L' := [_, _, _, _, _, _]) dX7_cut_8 rfl (Nat.le_of_ble_eq_true rfl) rfl ?_
  refine ev_iconst (nI 0) dX7_cut_9 rfl ?_
  refine ev_istore (L' := [_, _, _, _, _, _]) dX7_cut_10 (Nat.le_of_ble_eq_true rfl) rfl ?_
  refine ev_pc (pc' := 12) rfl ?_
  have hm2 := hm2
  have LP12 : ∀ (mz : Nat) (k : Nat) (h2 : mH), gm - k = mz → (k ≤ gm) → (MN h2 gz gc gs gh gk gl gb gt gr gm ((cuM gz gr gm gp gq ge k).2.2.2.1 ) ((cuM gz gr gm gp gq ge k).2.2.2.2.1 ) ((cuM gz gr gm gp gq ge k).2.2.2.2.2 ) ((cuM gz gr gm gp gq ge k).2.2.1 ) go gu gi ga gv gw gx) → (Out h h2 270 13) → Ev X m_X7_cut B0 12 [.ref 270, .long (cuM gz gr gm gp gq ge k).1, jk, .int (nI (cuM gz gr gm gp gq ge k).2.1), .int (nI k), jk] [] h2 (fun o h1 => ∃ v, o = .inl v ∧ (v = none ∧ MN h1 gz gc gs gh gk gl gb gt gr gm ((cuM gz gr gm gp gq ge gm).2.2.2.1 ) ((cuM gz gr gm gp gq ge gm).2.2.2.2.1 ) ((cuM gz gr gm gp gq ge gm).2.2.2.2.2 ) ((cuM gz gr gm gp gq ge gm).2.2.1 ) go gu gi ga gv gw gx ∧ Out h h1 270 13)) := by
    intro mz
    induction mz using Nat.strongRecOn with
    | _ mz ih =>
      intro k h2 hmz hk hm2 ho
      obtain ⟨m0, m1, m2, m3, m4, m5, m6, m7, m8, m9, m10, m11, m12⟩ := id hm2
      have hle := cuM_le gz gr gm gp gq ge k
      have he3 := endN_le gz gr gm k ((cuM gz gr gm gp gq ge k).2.1 + 1)
      refine ev_iload dX7_cut_12 rfl ?_
      refine ev_aload_n dX7_cut_14 rfl rfl ?_
      refine ev_getfield dX7_cut_15 lf_7_62 m0 rfl ?_
      refine ev_icmp_geN 106 dX7_cut_18 rfl (by omega) (by omega) (fun hc18 => ?_) (fun hc18 => ?_)
      · refine ev_return dX7_cut_106 rfl (Or.inl rfl) (Nat.zero_le _) (Nat.zero_le _) ?_
        have ek : k = gm := by omega
        rw [ek] at hm2
        exact ⟨none, rfl, rfl, hm2, ho⟩
      · refine ev_lload_n dX7_cut_21 rfl rfl ?_
        refine ev_aload_n dX7_cut_22 rfl rfl ?_
        refine ev_getfield dX7_cut_23 lf_7_26 m0 rfl ?_
        refine ev_iload dX7_cut_26 rfl ?_
        refine ev_ialoadF dX7_cut_28 m6 (by omega) (by decide) ?_
        have hrk := hr k (by omega)
        refine ev_iconst (nI 1) dX7_cut_29 rfl ?_
        refine ev_isubN dX7_cut_30 (by omega) ?_
        refine ev_i2lN dX7_cut_31 (by omega) ?_
        refine ev_iconst (nI 3) dX7_cut_32 rfl ?_
        refine ev_iload_n dX7_cut_33 rfl rfl ?_
        refine ev_imulN dX7_cut_34 ?_
        refine ev_lshl dX7_cut_35 ?_
        refine ev_lor dX7_cut_36 ?_
        refine ev_lstore_n (L' := [_, _, _, _, _, _]) dX7_cut_37 rfl (Nat.le_of_ble_eq_true rfl) rfl ?_
        refine ev_iincN (L' := [_, _, _, _, _, _]) 1 dX7_cut_38 rfl rfl ?_
        refine ev_aload_n dX7_cut_41 rfl rfl ?_
        refine ev_iload dX7_cut_42 rfl ?_
        refine ev_iload_n dX7_cut_44 rfl rfl ?_
        refine ev_callVP2 dX7_cut_45 cal_X7_endAt lk_7_75 ⟨(Nat.le_of_ble_eq_true rfl), (Nat.le_of_ble_eq_true rfl)⟩ rfl m0 (Nat.le_of_ble_eq_true rfl) (k_endAt hm2 hz hr hm40 k ((cuM gz gr gm gp gq ge k).2.1 + 1) (by omega) (by omega)) ?_
        refine ev_istore (L' := [_, _, _, _, _, _]) dX7_cut_48 (Nat.le_of_ble_eq_true rfl) rfl ?_
        refine ev_iload dX7_cut_50 rfl ?_
        refine ev_if_eqN 100 dX7_cut_52 rfl (by omega) (fun hc52 => ?_) (fun hc52 => ?_)
        · refine ev_pc (pc' := 100) rfl ?_
          have e := cuM_0 (z := gz) (r := gr) (n := gm) (gp := gp) (gq := gq) (ge := ge) hc52
          refine ev_fgt 5 (L' := [_, _, _, _, _, _]) rfl ?_
          refine ev_iincN (L' := [_, _, _, _, _, _]) 1 dX7_cut_100 rfl rfl ?_
          refine ev_goto 12 dX7_cut_103 rfl ?_
          refine ev_L (L' := [.ref 270, .long (cuM gz gr gm gp gq ge (k + 1)).1, jk, .int (nI (cuM gz gr gm gp gq ge (k + 1)).2.1), .int (nI (k + 1)), jk]) (by first | (rw [e]; done) | (rw [e]; rfl)) rfl ?_
          exact ih _ (by omega) (k + 1) _ rfl (by omega) (by rw [e]; exact hm2) ho
        · refine ev_pc (pc' := 55) rfl ?_
          refine ev_aload_n dX7_cut_55 rfl rfl ?_
          refine ev_getfield dX7_cut_56 lf_7_29 m0 rfl ?_
          refine ev_aload_n dX7_cut_59 rfl rfl ?_
          refine ev_getfield dX7_cut_60 lf_7_72 m0 rfl ?_
          refine ev_lload_n dX7_cut_63 rfl rfl ?_
          refine em_lPC dX7_cut_64 hm2 (by omega) (fun h64 hm64 o64 => ?_)
          have ho := ho.tr o64
          obtain ⟨m0, m1, m2, m3, m4, m5, m6, m7, m8, m9, m10, m11, m12⟩ := id hm64
          refine ev_aload_n dX7_cut_65 rfl rfl ?_
          refine ev_getfield dX7_cut_66 lf_7_32 m0 rfl ?_
          refine ev_aload_n dX7_cut_69 rfl rfl ?_
          refine ev_getfield dX7_cut_70 lf_7_72 m0 rfl ?_
          refine ev_iload_n dX7_cut_73 rfl rfl ?_
          refine em_iPL dX7_cut_74 hm64 (by omega) (fun h74 hm74 o74 => ?_)
          have ho := ho.tr o74
          obtain ⟨m0, m1, m2, m3, m4, m5, m6, m7, m8, m9, m10, m11, m12⟩ := id hm74
          refine ev_aload_n dX7_cut_75 rfl rfl ?_
          refine ev_getfield dX7_cut_76 lf_7_35 m0 rfl ?_
          refine ev_aload_n dX7_cut_79 rfl rfl ?_
          refine ev_getfield dX7_cut_80 lf_7_72 m0 rfl ?_
          refine ev_iload dX7_cut_83 rfl ?_
          refine em_iPE dX7_cut_85 hm74 (by omega) (fun h85 hm85 o85 => ?_)
          have ho := ho.tr o85
          obtain ⟨m0, m1, m2, m3, m4, m5, m6, m7, m8, m9, m10, m11, m12⟩ := id hm85
          refine ev_aload_n dX7_cut_86 rfl rfl ?_
          refine ev_dup dX7_cut_87 rfl ?_
          refine ev_getfield dX7_cut_88 lf_7_72 m0 rfl ?_
          refine ev_iconst (nI 1) dX7_cut_91 rfl ?_
          refine ev_iaddN dX7_cut_92 ?_
          refine em_pPc dX7_cut_93 lf_7_72 hm85 (fun h93 hm93 o93 => ?_)
          have ho := ho.tr o93
          obtain ⟨m0, m1, m2, m3, m4, m5, m6, m7, m8, m9, m10, m11, m12⟩ := id hm93
          refine ev_lconst (lN 0) dX7_cut_96 rfl ?_
          refine ev_lstore_n (L' := [_, _, _, _, _, _]) dX7_cut_97 rfl (Nat.le_of_ble_eq_true rfl) rfl ?_
          refine ev_iconst (nI 0) dX7_cut_98 rfl ?_
          refine ev_istore_n (L' := [_, _, _, _, _, _]) dX7_cut_99 rfl (Nat.le_of_ble_eq_true rfl) rfl ?_
          refine ev_pc (pc' := 100) rfl ?_
          have e := cuM_1 (z := gz) (r := gr) (n := gm) (gp := gp) (gq := gq) (ge := ge) hc52
          refine ev_fgt 5 (L' := [_, _, _, _, _, _]) rfl ?_
          refine ev_iincN (L' := [_, _, _, _, _, _]) 1 dX7_cut_100 rfl rfl ?_
          refine ev_goto 12 dX7_cut_103 rfl ?_
          refine ev_L (L' := [.ref 270, .long (cuM gz gr gm gp gq ge (k + 1)).1, jk, .int (nI (cuM gz gr gm gp gq ge (k + 1)).2.1), .int (nI (k + 1)), jk]) (by first | (rw [e]; done) | (rw [e]; rfl)) rfl ?_
          exact ih _ (by omega) (k + 1) _ rfl (by omega) (by rw [e]; exact hm93) ho
  exact LP12 _ 0 _ rfl (Nat.zero_le _) hm2 ho
