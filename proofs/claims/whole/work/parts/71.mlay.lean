set_option maxHeartbeats 4000000 in
set_option maxRecDepth 100000 in
theorem k_comes {X : mX} {h : mH} {gz : Nat → Nat} {gc : Nat → Int64} {gs : Nat} {gh : Nat → Nat} {gk : Nat → Int64} {gl : Nat} {gb : Nat → Nat} {gt : Nat} {gr : Nat → Nat} {gm : Nat} {gp : Nat → Int64} {gq : Nat → Nat} {ge : Nat → Nat} {gn : Nat} {go : Nat → Nat} {gu : Nat} {gi : Bool} {ga : Nat → Int64} {gv : Nat → Nat} {gw : Nat} {gx : Int64} (hm : MN h gz gc gs gh gk gl gb gt gr gm gp gq ge gn go gu gi ga gv gw gx) {S : mSo} (hS : RelS gz gc S) (hD : SoD S) {w : Int64} (hn40 : gn ≤ 40) (hq : ∀ p, p < gn → gq p ≤ 40) (p : Nat) (hp : p < gn) (x : Cd w (gp p) (gq p)) (hr : slU S w < 60 ∨ slU S 0 < 60) : CnU X m_X7_comes [.ref 270, .int (nI p)] h (fun v h1 => v = some (.int (nI (slU (gt1 S w) w))) ∧ (∃ z c, MN h1 z c gs gh gk gl gb gt gr gm gp gq ge gn go gu gi ga gv gw gx ∧ RelS z c (gt1 S w) ∧ ∀ i, i ≠ 5 → (i < 491 ∨ 611 ≤ i) → z i = gz i) ∧ Out h h1 270 13) := by
  obtain ⟨m0, m1, m2, m3, m4, m5, m6, m7, m8, m9, m10, m11, m12⟩ := id hm
  have ho : Out h h 270 13 := Out.rf
  have hkp := hS.kp
  by_cases hl : slU S w < 60
  · refine cn_of_ev (L0 := [_, _, _]) (by decide +kernel) rfl rfl (Nat.le_of_ble_eq_true rfl) rfl ?_
    refine ev_aload_n dX7_comes_0 rfl rfl ?_
    refine ev_iload_n dX7_comes_1 rfl rfl ?_
    refine ev_callVP1 dX7_comes_2 cal_X7_slotFor lk_7_89 ⟨(Nat.le_of_ble_eq_true rfl), (Nat.le_of_ble_eq_true rfl)⟩ rfl m0 (Nat.le_of_ble_eq_true rfl) ((show CnP X m_X7_slotFor _ h (some (.int (nI (slU S w)))) from by have z := k_slotFor (X := X) hm hn40 hq hkp p hp; rwa [rel_lst hS hD x, slI_y hl] at z)) ?_
    refine ev_istore_n (L' := [_, _, _]) dX7_comes_5 rfl (Nat.le_of_ble_eq_true rfl) rfl ?_
    refine ev_iload_n dX7_comes_6 rfl rfl ?_
    refine ev_iconst (-1) dX7_comes_7 rfl ?_
    refine ev_icmp_ne 54 dX7_comes_8 rfl (fun hc8 => ?_) (fun hc8 => ?_)
    · refine ev_pc (pc' := 54) rfl ?_
      refine ev_aload_n dX7_comes_54 rfl rfl ?_
      refine ev_getfield dX7_comes_55 lf_7_7 m0 rfl ?_
      refine ev_sipush (nI 551) dX7_comes_58 rfl ?_
      refine ev_iload_n dX7_comes_61 rfl rfl ?_
      refine ev_iaddN dX7_comes_62 ?_
      refine ev_dup2 dX7_comes_63 rfl rfl ?_
      refine ev_ialoadF dX7_comes_64 m1 (by omega) (by decide) ?_
      refine ev_iconst (nI 1) dX7_comes_65 rfl ?_
      refine ev_iaddN dX7_comes_66 ?_
      refine em_iZ dX7_comes_67 hm (by omega) (fun h67 hm67 o67 => ?_)
      have ho := ho.tr o67
      obtain ⟨m0, m1, m2, m3, m4, m5, m6, m7, m8, m9, m10, m11, m12⟩ := id hm67
      refine ev_iload_n dX7_comes_68 rfl rfl ?_
      refine ev_ireturn dX7_comes_69 rfl (Or.inl rfl) (Nat.zero_le _) (Nat.zero_le _) ?_
      have e : slU (gt1 S w) w = slU S w := by rw [gt1_in hl]; exact slU_congr (fun k _ => rfl)
      rw [e]
      refine ⟨_, rfl, rfl, ⟨_, _, hm67, ?_, fun i hi hi2 => upN_n (by omega)⟩, ho⟩
      rw [gt1_in hl]
      exact rel_comesY hS hl (by rw [slU_at hl]; exact x.n0)
    · refine ev_pc (pc' := 11) rfl ?_
      exact absurd hc8 (nI_m1 hl)
  · have hf := hr.resolve_left hl
    have a0 := slU_at hf
    have hf0 : gz (491 + slU S 0) = 0 := ((hS.2.2 _ hf).1 a0).1
    have hfl : ∀ j, j < slU S 0 → 0 < gz (491 + j) := fun j hj => by
      have h2 := slU_def S 0
      refine (hS.pos (by omega)).mpr (fun z => ?_)
      have h3 := (upTo_lt (p := fun k => !(sR S k == 0)) (n := 60) (by rw [← h2]; exact hf)).2 j (by rw [← h2]; exact hj)
      rw [z] at h3
      exact absurd h3 (by decide)
    have hD' : SoD (ownS (putS S w) (slU S 0)) := fun j k hj hk e n0 => by
      have eU : sR (ownS (putS S w) (slU S 0)) (slU S 0) = w := upL_s _ _ _
      by_cases ej : j = slU S 0
      · by_cases ek : k = slU S 0
        · rw [ej, ek]
        · have e1 : sR (ownS (putS S w) (slU S 0)) k = sR S k := upL_n ek
          rw [ej, eU, e1] at e
          exact absurd e.symm (slU_no hl hk)
      · have e0 : sR (ownS (putS S w) (slU S 0)) j = sR S j := upL_n ej
        by_cases ek : k = slU S 0
        · rw [ek, eU, e0] at e
          exact absurd e (slU_no hl hj)
        · have e1 : sR (ownS (putS S w) (slU S 0)) k = sR S k := upL_n ek
          rw [e0, e1] at e
          rw [e0] at n0
          exact hD j k hj hk e n0
    have hin : slU (ownS (putS S w) (slU S 0)) w = slU S 0 := slU_eq hD' x.n0 hf (upL_s _ _ _)
    refine cn_of_ev (L0 := [_, _, _]) (by decide +kernel) rfl rfl (Nat.le_of_ble_eq_true rfl) rfl ?_
    refine ev_aload_n dX7_comes_0 rfl rfl ?_
    refine ev_iload_n dX7_comes_1 rfl rfl ?_
    refine ev_callVP1 dX7_comes_2 cal_X7_slotFor lk_7_89 ⟨(Nat.le_of_ble_eq_true rfl), (Nat.le_of_ble_eq_true rfl)⟩ rfl m0 (Nat.le_of_ble_eq_true rfl) ((show CnP X m_X7_slotFor _ h (some (.int (-1))) from by have z := k_slotFor (X := X) hm hn40 hq hkp p hp; rwa [rel_lst hS hD x, slI_n hl] at z)) ?_
    refine ev_istore_n (L' := [_, _, _]) dX7_comes_5 rfl (Nat.le_of_ble_eq_true rfl) rfl ?_
    refine ev_iload_n dX7_comes_6 rfl rfl ?_
    refine ev_iconst (-1) dX7_comes_7 rfl ?_
    refine ev_icmp_ne 54 dX7_comes_8 rfl (fun hc8 => ?_) (fun hc8 => ?_)
    · refine ev_pc (pc' := 54) rfl ?_
      exact absurd rfl hc8
    · refine ev_pc (pc' := 11) rfl ?_
      refine ev_aload_n dX7_comes_11 rfl rfl ?_
      refine ev_callVP0 dX7_comes_12 cal_X7_lowestFree lk_7_125 ⟨(Nat.le_of_ble_eq_true rfl), (Nat.le_of_ble_eq_true rfl)⟩ rfl m0 (Nat.le_of_ble_eq_true rfl) (k_lowestFree hm hkp (slU S 0) hf hf0 hfl) ?_
      refine ev_istore_n (L' := [_, _, _]) dX7_comes_15 rfl (Nat.le_of_ble_eq_true rfl) rfl ?_
      refine ev_aload_n dX7_comes_16 rfl rfl ?_
      refine ev_getfield dX7_comes_17 lf_7_7 m0 rfl ?_
      refine ev_sipush (nI 491) dX7_comes_20 rfl ?_
      refine ev_iload_n dX7_comes_23 rfl rfl ?_
      refine ev_iaddN dX7_comes_24 ?_
      refine ev_aload_n dX7_comes_25 rfl rfl ?_
      refine ev_getfield dX7_comes_26 lf_7_32 m0 rfl ?_
      refine ev_iload_n dX7_comes_29 rfl rfl ?_
      refine ev_ialoadF dX7_comes_30 m8 (by omega) (by decide) ?_
      refine em_iZ dX7_comes_31 hm (by omega) (fun h31 hm31 o31 => ?_)
      have ho := ho.tr o31
      obtain ⟨m0, m1, m2, m3, m4, m5, m6, m7, m8, m9, m10, m11, m12⟩ := id hm31
      refine ev_aload_n dX7_comes_32 rfl rfl ?_
      refine ev_getfield dX7_comes_33 lf_7_13 m0 rfl ?_
      refine ev_iload_n dX7_comes_36 rfl rfl ?_
      refine ev_aload_n dX7_comes_37 rfl rfl ?_
      refine ev_getfield dX7_comes_38 lf_7_29 m0 rfl ?_
      refine ev_iload_n dX7_comes_41 rfl rfl ?_
      refine ev_laloadN dX7_comes_42 m7 (by omega) (by decide) ?_
      refine em_lC dX7_comes_43 hm31 (by omega) (fun h43 hm43 o43 => ?_)
      have ho := ho.tr o43
      obtain ⟨m0, m1, m2, m3, m4, m5, m6, m7, m8, m9, m10, m11, m12⟩ := id hm43
      refine ev_aload_n dX7_comes_44 rfl rfl ?_
      refine ev_getfield dX7_comes_45 lf_7_7 m0 rfl ?_
      refine ev_iconst (nI 5) dX7_comes_48 rfl ?_
      refine ev_dup2 dX7_comes_49 rfl rfl ?_
      refine ev_ialoadF dX7_comes_50 m1 (by omega) (by decide) ?_
      refine ev_iconst (nI 1) dX7_comes_51 rfl ?_
      refine ev_iaddN dX7_comes_52 ?_
      refine em_iZ dX7_comes_53 hm43 (by omega) (fun h53 hm53 o53 => ?_)
      have ho := ho.tr o53
      obtain ⟨m0, m1, m2, m3, m4, m5, m6, m7, m8, m9, m10, m11, m12⟩ := id hm53
      refine ev_aload_n dX7_comes_54 rfl rfl ?_
      refine ev_getfield dX7_comes_55 lf_7_7 m0 rfl ?_
      refine ev_sipush (nI 551) dX7_comes_58 rfl ?_
      refine ev_iload_n dX7_comes_61 rfl rfl ?_
      refine ev_iaddN dX7_comes_62 ?_
      refine ev_dup2 dX7_comes_63 rfl rfl ?_
      refine ev_ialoadF dX7_comes_64 m1 (by omega) (by decide) ?_
      refine ev_iconst (nI 1) dX7_comes_65 rfl ?_
      refine ev_iaddN dX7_comes_66 ?_
      refine em_iZ dX7_comes_67 hm53 (by omega) (fun h67 hm67 o67 => ?_)
      have ho := ho.tr o67
      obtain ⟨m0, m1, m2, m3, m4, m5, m6, m7, m8, m9, m10, m11, m12⟩ := id hm67
      refine ev_iload_n dX7_comes_68 rfl rfl ?_
      refine ev_ireturn dX7_comes_69 rfl (Or.inl rfl) (Nat.zero_le _) (Nat.zero_le _) ?_
      have e : slU (gt1 S w) w = slU S 0 := by rw [gt1_out hl]; exact hin
      rw [e]
      refine ⟨_, rfl, rfl, ⟨_, _, hm67, ?_, fun i hi hi2 => ?_⟩, ho⟩
      · rw [gt1_out hl]
        exact rel_comesN hS hf a0 x rfl
      · rw [upN_n (by omega), upN_n hi, upN_n (by omega)]
set_option maxHeartbeats 4000000 in
set_option maxRecDepth 100000 in
theorem k_lay {X : mX} {h : mH} {gz : Nat → Nat} {gc : Nat → Int64} {gs : Nat} {gh : Nat → Nat} {gk : Nat → Int64} {gl : Nat} {gb : Nat → Nat} {gt : Nat} {gr : Nat → Nat} {gm : Nat} {gp : Nat → Int64} {gq : Nat → Nat} {ge : Nat → Nat} {gn : Nat} {go : Nat → Nat} {gu : Nat} {gi : Bool} {ga : Nat → Int64} {gv : Nat → Nat} {gw : Nat} {gx : Int64} (hm : MN h gz gc gs gh gk gl gb gt gr gm gp gq ge gn go gu gi ga gv gw gx) {T : mSt} (hr : RelT gz gc T) (hT : InvT T) {K : mCt} (hK : Tile K) (hcm : CutM gp gq ge gn K) (hgm : gm = kL K) (hgr : ∀ j, j < kL K → gr j = kS K j) (t : Nat) (ht : t < 4) (hok : okS T t K = true) : CnU X m_X7_lay [.ref 270, .int (nI t)] h (fun v h1 => v = some (.int (nI (kN K))) ∧ (∃ z c, MN h1 z c gs gh gk gl gb gt gr gm gp gq ge gn go gu gi ga gv gw gx ∧ RelT z c (chgT T t K)) ∧ Out h h1 270 13) := by
  obtain ⟨m0, m1, m2, m3, m4, m5, m6, m7, m8, m9, m10, m11, m12⟩ := id hm
  have ho : Out h h 270 13 := Out.rf
  have hkp := hr.2.1.kp
  have hxs : ∀ t, t < 4 → TxB gz t := fun t ht => hr.tx hT ht
  have hb0 : ∀ k, k < 60 → gz (551 + k) ≤ 1000 := fun k hk => Nat.le_trans (hr.2.1.ow hT.B hk) (by decide)
  have hz150 := hT.2.2.2.2.2.2
  have hfit : fitM gz gc gp gq gn = fitS (los1 T t) K := (rel_fit hr.2.1 hT.2.2.1 hcm hK hz150).trans rfl
  have hq40 := hcm.q hK
  have hcl := rel_clr hr hT ht
  obtain ⟨a1, a2, a3, a4, a5, a6⟩ := chgS_all (t := t) (K := K) hT
  obtain ⟨o1, o2⟩ := okS_1 hok
  have gall : ∀ p, p ≤ kN K → SoD (gtN (chgS T t K) K p) ∧ Own (gtN (chgS T t K) K p) (fun x => c1T T t x + ctN (fun q => kR K q == x) p) ∧ InS (gtN (chgS T t K) K p) (fun x => c1T T t x + ctN (fun q => kR K q == x) p) ∧ (∀ x, x ≠ 0 → (slU (gtN (chgS T t K) K p) x < 60 ↔ (slU (chgS T t K) x < 60 ∨ exN (fun q => kR K q == x) p = true))) := fun p hp => by
    obtain ⟨b1, b2, b3, b4, b5, b6, -⟩ := gtN_all hK a1 a3 a4 a2 o1 p hp
    exact ⟨b2, b3, b4, b6⟩
  refine cn_of_ev (L0 := [_, _, _, _, _, _, _]) (by decide +kernel) rfl rfl (Nat.le_of_ble_eq_true rfl) rfl ?_
  have TAIL : ∀ (h2 : mH) (z50 : Nat → Nat) (c50 : Nat → Int64), MN h2 z50 c50 gs gh gk gl gb gt gr gm gp gq ge gn go gu gi ga gv gw gx → RelS z50 c50 (chgS T t K) → (∀ i, i ≠ 6 → (i < 491 ∨ 611 ≤ i) → z50 i = (clB (upN (clA gz t 60) (7 + t) 0) t 40) i) → Out h h2 270 13 → Ev X m_X7_lay B0 50 [.ref 270, .int (nI t), jk, jk, jk, jk, jk] [] h2 (fun o h1 => ∃ v, o = .inl v ∧ (v = some (.int (nI (kN K))) ∧ (∃ z c, MN h1 z c gs gh gk gl gb gt gr gm gp gq ge gn go gu gi ga gv gw gx ∧ RelT z c (chgT T t K)) ∧ Out h h1 270 13)) := by
    intro h2 z50 c50 hm2 hS50 ho50 ho
    obtain ⟨m0, m1, m2, m3, m4, m5, m6, m7, m8, m9, m10, m11, m12⟩ := id hm2
    refine ev_aload_n dX7_lay_50 rfl rfl ?_
    refine ev_getfield dX7_lay_51 lf_7_7 m0 rfl ?_
    refine ev_bipush (nI 7) dX7_lay_54 rfl ?_
    refine ev_iload_n dX7_lay_56 rfl rfl ?_
    refine ev_iaddN dX7_lay_57 ?_
    refine ev_aload_n dX7_lay_58 rfl rfl ?_
    refine ev_getfield dX7_lay_59 lf_7_62 m0 rfl ?_
    refine em_iZ dX7_lay_62 hm2 (by omega) (fun h62 hm62 o62 => ?_)
    have ho := ho.tr o62
    obtain ⟨m0, m1, m2, m3, m4, m5, m6, m7, m8, m9, m10, m11, m12⟩ := id hm62
    refine ev_iconst (nI 0) dX7_lay_63 rfl ?_
    refine ev_istore_n (L' := [_, _, _, _, _, _, _]) dX7_lay_64 rfl (Nat.le_of_ble_eq_true rfl) rfl ?_
    refine ev_iconst (nI 0) dX7_lay_65 rfl ?_
    refine ev_istore (L' := [_, _, _, _, _, _, _]) dX7_lay_66 (Nat.le_of_ble_eq_true rfl) rfl ?_
    refine ev_pc (pc' := 68) rfl ?_
    have LP68 : ∀ (mz : Nat) (p : Nat) (h4 : mH) (z : Nat → Nat) (c : Nat → Int64), kN K - p = mz → (p ≤ kN K) → (MN h4 z c gs gh gk gl gb gt gr gm gp gq ge gn go gu gi ga gv gw gx) → (Out h h4 270 13) → (RelS z c (gtN (chgS T t K) K p)) → (z (7 + t) = kL K) → (∀ i, i < 491 → i ≠ 5 → i ≠ 6 → i ≠ 7 + t → ¬ ((11 + 40 * t ≤ i ∧ i < 51 + 40 * t) ∨ (171 + 40 * t ≤ i ∧ i < 211 + 40 * t) ∨ (331 + 40 * t ≤ i ∧ i < 371 + 40 * t)) → z i = (clB (upN (clA gz t 60) (7 + t) 0) t 40) i) → (PreX z t K (gtN (chgS T t K) K p) p) → Ev X m_X7_lay B0 68 [.ref 270, .int (nI t), jk, .int (nI (smN (kQ K) p)), .int (nI p), jk, jk] [] h4 (fun o h1 => ∃ v, o = .inl v ∧ (v = some (.int (nI (kN K))) ∧ (∃ z c, MN h1 z c gs gh gk gl gb gt gr gm gp gq ge gn go gu gi ga gv gw gx ∧ RelT z c (chgT T t K)) ∧ Out h h1 270 13)) := by
      intro mz
      induction mz using Nat.strongRecOn with
      | _ mz ih =>
        intro p h4 z c hmz hpn hm4 ho hzS hz7 hzo hzp
        have ihp := ih
        obtain ⟨m0, m1, m2, m3, m4, m5, m6, m7, m8, m9, m10, m11, m12⟩ := id hm4
        have hgn40 := hcm.1
        refine ev_iload dX7_lay_68 rfl ?_
        refine ev_aload_n dX7_lay_70 rfl rfl ?_
        refine ev_getfield dX7_lay_71 lf_7_72 m0 rfl ?_
        refine ev_icmp_geN 190 dX7_lay_74 rfl (by omega) (by omega) (fun hc74 => ?_) (fun hc74 => ?_)
        · refine ev_pc (pc' := 190) rfl ?_
          have ep : p = kN K := by omega
          subst ep
          refine ev_aload_n dX7_lay_190 rfl rfl ?_
          refine ev_getfield dX7_lay_191 lf_7_72 m0 rfl ?_
          refine ev_ireturn dX7_lay_194 rfl (Or.inl rfl) (Nat.zero_le _) (Nat.zero_le _) ?_
          rw [show nI gn = nI (kN K) from by rw [hcm.1]]
          refine ⟨_, rfl, rfl, ⟨z, c, hm4, fun k hk => ?_, hzS, fun u hu => ?_⟩, ho⟩
          · rw [hzo k (by omega) (by omega) (by omega) (by omega) (by omega)]
            exact hcl.1 k hk
          · show RelX z u (if u = t then K else tC T u) (gtN (chgS T t K) K (kN K))
            by_cases eu : u = t
            · rw [if_pos eu, eu]
              exact hzp.rel hK hz7
            · rw [if_neg eu]
              have hX := hcl.2.2 u hu
              rw [show tC (clrT T t) u = tC T u from if_neg eu] at hX
              refine hX.congr (hT.2.1 u hu) (fun i hi => hzo i (by omega) (by omega) (by omega) (by omega) (by omega)) (fun q hq => ?_)
              have e1 : slU (gtN (chgS T t K) K (kN K)) (kR (tC T u) q) = slU (tS T) (kR (tC T u) q) := (chgT_all hT ht hK hok).2.1 u q hu eu hq
              have e2 : slU (tS (clrT T t)) (kR (tC T u) q) = slU (tS T) (kR (tC T u) q) := slU_congr (fun k _ => rfl)
              rw [e1, e2]
        · refine ev_aload_n dX7_lay_77 rfl rfl ?_
          refine ev_iload dX7_lay_78 rfl ?_
          refine ev_callVU1 dX7_lay_80 cal_X7_comes lk_7_135 ⟨(Nat.le_of_ble_eq_true rfl), (Nat.le_of_ble_eq_true rfl)⟩ rfl m0 (Nat.le_of_ble_eq_true rfl) (k_comes hm4 hzS (gall p (by omega)).1 hq40.1 hq40.2 p (by omega) (hcm.cd hK (by omega)) ((gtN_all hK a1 a3 a4 a2 o1 (kN K) (Nat.le_refl _)).1 p (by omega))) (fun v h80 hq80 => ?_)
          refine ev_pc (pc' := 83) rfl ?_
          obtain ⟨rfl, ⟨z2, c2, hm80, hz2S, hz2q⟩, o80⟩ := hq80
          have ho := ho.tr o80
          obtain ⟨m0, m1, m2, m3, m4, m5, m6, m7, m8, m9, m10, m11, m12⟩ := id hm80
          have hp : p < kN K := by omega
          have hen := hK.en hp
          have h40 := hK.1
          have hkp1 := (hK.2.2.1 p hp).1
          have hgqp := (hcm.2 p hp).2.1
          have hge := (hcm.2 p hp).2.2
          have hz27 : z2 (7 + t) = kL K := by rw [hz2q _ (by omega) (by omega)]; exact hz7
          have hz2o : ∀ i, i < 491 → i ≠ 5 → i ≠ 6 → i ≠ 7 + t → ¬ ((11 + 40 * t ≤ i ∧ i < 51 + 40 * t) ∨ (171 + 40 * t ≤ i ∧ i < 211 + 40 * t) ∨ (331 + 40 * t ≤ i ∧ i < 371 + 40 * t)) → z2 i = (clB (upN (clA gz t 60) (7 + t) 0) t 40) i := fun i h1 h2 h3 h4 h5 => by
            rw [hz2q i h2 (by omega)]; exact hzo i h1 h2 h3 h4 h5
          obtain ⟨g1, g2, g3, g4⟩ := gall p (by omega)
          have hz2p : PreX z2 t K (gtN (chgS T t K) K (p + 1)) p := hzp.congr hK (by omega) (fun i hi => hz2q i (by omega) (by omega)) (fun q hq => by
            have hcq := hK.cd (p := q) (by omega)
            have hl : slU (gtN (chgS T t K) K p) (kR K q) < 60 := (g4 _ hcq.n0).mpr (Or.inr (exN_yes hq (beq_self_eq_true _)))
            rw [gtN_s]
            exact (gt1_all (hK.cd hp).n0 g1 g2 g3 ((gtN_all hK a1 a3 a4 a2 o1 (kN K) (Nat.le_refl _)).1 p hp)).2.2.2.1 _ hcq.n0 hl)
          have hus : slU (gt1 (gtN (chgS T t K) K p) (kR K p)) (kR K p) = slU (gtN (chgS T t K) K (p + 1)) (kR K p) := by rw [gtN_s]
          rw [← gtN_s] at hz2S
          rw [hus, ← hkp1]
          refine ev_istore (L' := [_, _, _, _, _, _, _]) dX7_lay_83 (Nat.le_of_ble_eq_true rfl) rfl ?_
          refine ev_iconst (nI 1) dX7_lay_85 rfl ?_
          refine ev_istore (L' := [_, _, _, _, _, _, _]) dX7_lay_86 (Nat.le_of_ble_eq_true rfl) rfl ?_
          refine ev_pc (pc' := 88) rfl ?_
          have LP88 : ∀ (mz : Nat) (k : Nat) (h5 : mH) (y : Nat → Nat), kQ K p - k = mz → (k ≤ kQ K p) → (MN h5 y c2 gs gh gk gl gb gt gr gm gp gq ge gn go gu gi ga gv gw gx) → (Out h h5 270 13) → (RelS y c2 (gtN (chgS T t K) K (p + 1))) → (y (7 + t) = kL K) → (∀ i, i < 491 → i ≠ 5 → i ≠ 6 → i ≠ 7 + t → ¬ ((11 + 40 * t ≤ i ∧ i < 51 + 40 * t) ∨ (171 + 40 * t ≤ i ∧ i < 211 + 40 * t) ∨ (331 + 40 * t ≤ i ∧ i < 371 + 40 * t)) → y i = (clB (upN (clA gz t 60) (7 + t) 0) t 40) i) → (PreX y t K (gtN (chgS T t K) K (p + 1)) p) → (PrA y t K (slU (gtN (chgS T t K) K (p + 1)) (kR K p)) p k) → Ev X m_X7_lay B0 88 [.ref 270, .int (nI t), jk, .int (nI (kP K p + k)), .int (nI p), .int (nI (slU (gtN (chgS T t K) K (p + 1)) (kR K p))), .int (nI (k + 1))] [] h5 (fun o h1 => ∃ v, o = .inl v ∧ (v = some (.int (nI (kN K))) ∧ (∃ z c, MN h1 z c gs gh gk gl gb gt gr gm gp gq ge gn go gu gi ga gv gw gx ∧ RelT z c (chgT T t K)) ∧ Out h h1 270 13)) := by
            intro mz
            induction mz using Nat.strongRecOn with
            | _ mz ih =>
              intro k h5 y hmz hk hm5 ho hyS hy7 hyo hyp hya
              have ihk := ih
              obtain ⟨m0, m1, m2, m3, m4, m5, m6, m7, m8, m9, m10, m11, m12⟩ := id hm5
              have hrow : k < kQ K p → gr (kP K p + k) = kS K (kP K p + k) := fun z => hgr _ (by omega)
              refine ev_iload dX7_lay_88 rfl ?_
              refine ev_aload_n dX7_lay_90 rfl rfl ?_
              refine ev_getfield dX7_lay_91 lf_7_32 m0 rfl ?_
              refine ev_iload dX7_lay_94 rfl ?_
              refine ev_ialoadF dX7_lay_96 m8 (by omega) (by decide) ?_
              rw [hgqp]
              refine ev_icmp_gtN 184 dX7_lay_97 rfl (by omega) (by omega) (fun hc97 => ?_) (fun hc97 => ?_)
              · refine ev_pc (pc' := 184) rfl ?_
                have ek : k = kQ K p := by omega
                subst ek
                refine ev_iincN (L' := [_, _, _, _, _, _, _]) 1 dX7_lay_184 rfl rfl ?_
                refine ev_goto 68 dX7_lay_187 rfl ?_
                refine ev_pc (pc' := 68) rfl ?_
                refine ev_fgt 5 (L' := [_, _, _, _, _, _, _]) rfl ?_
                refine ev_fgt 6 (L' := [_, _, _, _, _, _, _]) rfl ?_
                rw [hen.2.1]
                exact ihp _ (by omega) (p + 1) _ y c2 rfl (by omega) hm5 ho hyS hy7 hyo (hyp.step hya)
              · refine ev_aload_n dX7_lay_100 rfl rfl ?_
                refine ev_getfield dX7_lay_101 lf_7_7 m0 rfl ?_
                refine ev_bipush (nI 11) dX7_lay_104 rfl ?_
                refine ev_bipush (nI 40) dX7_lay_106 rfl ?_
                refine ev_iload_n dX7_lay_108 rfl rfl ?_
                refine ev_imulN dX7_lay_109 ?_
                refine ev_iaddN dX7_lay_110 ?_
                refine ev_iload_n dX7_lay_111 rfl rfl ?_
                refine ev_iaddN dX7_lay_112 ?_
                refine ev_aload_n dX7_lay_113 rfl rfl ?_
                refine ev_getfield dX7_lay_114 lf_7_26 m0 rfl ?_
                refine ev_iload_n dX7_lay_117 rfl rfl ?_
                refine ev_ialoadF dX7_lay_118 m6 (by omega) (by decide) ?_
                rw [hrow (by omega)]
                refine em_iZ dX7_lay_119 hm5 (by omega) (fun h119 hm119 o119 => ?_)
                have ho := ho.tr o119
                obtain ⟨m0, m1, m2, m3, m4, m5, m6, m7, m8, m9, m10, m11, m12⟩ := id hm119
                refine ev_aload_n dX7_lay_120 rfl rfl ?_
                refine ev_getfield dX7_lay_121 lf_7_7 m0 rfl ?_
                refine ev_sipush (nI 171) dX7_lay_124 rfl ?_
                refine ev_bipush (nI 40) dX7_lay_127 rfl ?_
                refine ev_iload_n dX7_lay_129 rfl rfl ?_
                refine ev_imulN dX7_lay_130 ?_
                refine ev_iaddN dX7_lay_131 ?_
                refine ev_iload_n dX7_lay_132 rfl rfl ?_
                refine ev_iaddN dX7_lay_133 ?_
                refine ev_iload dX7_lay_134 rfl ?_
                refine ev_aload_n dX7_lay_136 rfl rfl ?_
                refine ev_getfield dX7_lay_137 lf_7_32 m0 rfl ?_
                refine ev_iload dX7_lay_140 rfl ?_
                refine ev_ialoadF dX7_lay_142 m8 (by omega) (by decide) ?_
                rw [hgqp]
                refine ev_icmp_neN 156 dX7_lay_143 rfl (by omega) (by omega) (fun hc143 => ?_) (fun hc143 => ?_)
                · refine ev_iconst (nI 0) dX7_lay_156 rfl ?_
                  refine ev_pc (pc' := 157) rfl ?_
                  first
                    | (have hM : k + 1 = kQ K p := by omega
                       refine em_iZ dX7_lay_157 hm119 (by omega) (fun h157 hm157 o157 => ?_)
                       have ho := ho.tr o157
                       obtain ⟨m0, m1, m2, m3, m4, m5, m6, m7, m8, m9, m10, m11, m12⟩ := id hm157
                       refine ev_aload_n dX7_lay_158 rfl rfl ?_
                       refine ev_getfield dX7_lay_159 lf_7_7 m0 rfl ?_
                       refine ev_sipush (nI 331) dX7_lay_162 rfl ?_
                       refine ev_bipush (nI 40) dX7_lay_165 rfl ?_
                       refine ev_iload_n dX7_lay_167 rfl rfl ?_
                       refine ev_imulN dX7_lay_168 ?_
                       refine ev_iaddN dX7_lay_169 ?_
                       refine ev_iload_n dX7_lay_170 rfl rfl ?_
                       refine ev_iaddN dX7_lay_171 ?_
                       refine ev_iload dX7_lay_172 rfl ?_
                       refine em_iZ dX7_lay_174 hm157 (by omega) (fun h174 hm174 o174 => ?_)
                       have ho := ho.tr o174
                       obtain ⟨m0, m1, m2, m3, m4, m5, m6, m7, m8, m9, m10, m11, m12⟩ := id hm174
                       refine ev_iincN (L' := [_, _, _, _, _, _, _]) 1 dX7_lay_175 rfl rfl ?_
                       refine ev_iincN (L' := [_, _, _, _, _, _, _]) 1 dX7_lay_178 rfl rfl ?_
                       refine ev_goto 88 dX7_lay_181 rfl ?_
                       refine ev_pc (pc' := 88) rfl ?_
                       refine ihk _ (by omega) (k + 1) _ (layZ y t (kP K p + k) (kS K (kP K p + k)) (ge p) (slU (gtN (chgS T t K) K (p + 1)) (kR K p))) rfl (by omega) hm174 ho (hyS.congr (fun i hi => layZ_o (by omega) (by omega) (by omega)) (fun _ _ => rfl)) ?_ (fun i h1 h2 h3 h4 h5 => ?_) (hyp.lay ht hK hp (by omega)) (hya.lay ht (by omega) (by omega) (by omega) ⟨fun z => ⟨hM, hge.2.mp z⟩, fun z => hge.2.mpr z.2⟩)
                       · rw [layZ_o (by omega) (by omega) (by omega)]; exact hy7
                       · rw [layZ_o (by omega) (by omega) (by omega)]; exact hyo i h1 h2 h3 h4 h5)
                    | (have hM : ¬ k + 1 = kQ K p := by omega
                       refine em_iZ dX7_lay_157 hm119 (by omega) (fun h157 hm157 o157 => ?_)
                       have ho := ho.tr o157
                       obtain ⟨m0, m1, m2, m3, m4, m5, m6, m7, m8, m9, m10, m11, m12⟩ := id hm157
                       refine ev_aload_n dX7_lay_158 rfl rfl ?_
                       refine ev_getfield dX7_lay_159 lf_7_7 m0 rfl ?_
                       refine ev_sipush (nI 331) dX7_lay_162 rfl ?_
                       refine ev_bipush (nI 40) dX7_lay_165 rfl ?_
                       refine ev_iload_n dX7_lay_167 rfl rfl ?_
                       refine ev_imulN dX7_lay_168 ?_
                       refine ev_iaddN dX7_lay_169 ?_
                       refine ev_iload_n dX7_lay_170 rfl rfl ?_
                       refine ev_iaddN dX7_lay_171 ?_
                       refine ev_iload dX7_lay_172 rfl ?_
                       refine em_iZ dX7_lay_174 hm157 (by omega) (fun h174 hm174 o174 => ?_)
                       have ho := ho.tr o174
                       obtain ⟨m0, m1, m2, m3, m4, m5, m6, m7, m8, m9, m10, m11, m12⟩ := id hm174
                       refine ev_iincN (L' := [_, _, _, _, _, _, _]) 1 dX7_lay_175 rfl rfl ?_
                       refine ev_iincN (L' := [_, _, _, _, _, _, _]) 1 dX7_lay_178 rfl rfl ?_
                       refine ev_goto 88 dX7_lay_181 rfl ?_
                       refine ev_pc (pc' := 88) rfl ?_
                       refine ihk _ (by omega) (k + 1) _ (layZ y t (kP K p + k) (kS K (kP K p + k)) (0) (slU (gtN (chgS T t K) K (p + 1)) (kR K p))) rfl (by omega) hm174 ho (hyS.congr (fun i hi => layZ_o (by omega) (by omega) (by omega)) (fun _ _ => rfl)) ?_ (fun i h1 h2 h3 h4 h5 => ?_) (hyp.lay ht hK hp (by omega)) (hya.lay ht (by omega) (by omega) (by omega) ⟨fun z => by omega, fun z => by omega⟩)
                       · rw [layZ_o (by omega) (by omega) (by omega)]; exact hy7
                       · rw [layZ_o (by omega) (by omega) (by omega)]; exact hyo i h1 h2 h3 h4 h5)
                · refine ev_aload_n dX7_lay_146 rfl rfl ?_
                  refine ev_getfield dX7_lay_147 lf_7_35 m0 rfl ?_
                  refine ev_iload dX7_lay_150 rfl ?_
                  refine ev_ialoadF dX7_lay_152 m9 (by omega) (by decide) ?_
                  refine ev_goto 157 dX7_lay_153 rfl ?_
                  refine ev_pc (pc' := 157) rfl ?_
                  first
                    | (have hM : k + 1 = kQ K p := by omega
                       refine em_iZ dX7_lay_157 hm119 (by omega) (fun h157 hm157 o157 => ?_)
                       have ho := ho.tr o157
                       obtain ⟨m0, m1, m2, m3, m4, m5, m6, m7, m8, m9, m10, m11, m12⟩ := id hm157
                       refine ev_aload_n dX7_lay_158 rfl rfl ?_
                       refine ev_getfield dX7_lay_159 lf_7_7 m0 rfl ?_
                       refine ev_sipush (nI 331) dX7_lay_162 rfl ?_
                       refine ev_bipush (nI 40) dX7_lay_165 rfl ?_
                       refine ev_iload_n dX7_lay_167 rfl rfl ?_
                       refine ev_imulN dX7_lay_168 ?_
                       refine ev_iaddN dX7_lay_169 ?_
                       refine ev_iload_n dX7_lay_170 rfl rfl ?_
                       refine ev_iaddN dX7_lay_171 ?_
                       refine ev_iload dX7_lay_172 rfl ?_
                       refine em_iZ dX7_lay_174 hm157 (by omega) (fun h174 hm174 o174 => ?_)
                       have ho := ho.tr o174
                       obtain ⟨m0, m1, m2, m3, m4, m5, m6, m7, m8, m9, m10, m11, m12⟩ := id hm174
                       refine ev_iincN (L' := [_, _, _, _, _, _, _]) 1 dX7_lay_175 rfl rfl ?_
                       refine ev_iincN (L' := [_, _, _, _, _, _, _]) 1 dX7_lay_178 rfl rfl ?_
                       refine ev_goto 88 dX7_lay_181 rfl ?_
                       refine ev_pc (pc' := 88) rfl ?_
                       refine ihk _ (by omega) (k + 1) _ (layZ y t (kP K p + k) (kS K (kP K p + k)) (ge p) (slU (gtN (chgS T t K) K (p + 1)) (kR K p))) rfl (by omega) hm174 ho (hyS.congr (fun i hi => layZ_o (by omega) (by omega) (by omega)) (fun _ _ => rfl)) ?_ (fun i h1 h2 h3 h4 h5 => ?_) (hyp.lay ht hK hp (by omega)) (hya.lay ht (by omega) (by omega) (by omega) ⟨fun z => ⟨hM, hge.2.mp z⟩, fun z => hge.2.mpr z.2⟩)
                       · rw [layZ_o (by omega) (by omega) (by omega)]; exact hy7
                       · rw [layZ_o (by omega) (by omega) (by omega)]; exact hyo i h1 h2 h3 h4 h5)
                    | (have hM : ¬ k + 1 = kQ K p := by omega
                       refine em_iZ dX7_lay_157 hm119 (by omega) (fun h157 hm157 o157 => ?_)
                       have ho := ho.tr o157
                       obtain ⟨m0, m1, m2, m3, m4, m5, m6, m7, m8, m9, m10, m11, m12⟩ := id hm157
                       refine ev_aload_n dX7_lay_158 rfl rfl ?_
                       refine ev_getfield dX7_lay_159 lf_7_7 m0 rfl ?_
                       refine ev_sipush (nI 331) dX7_lay_162 rfl ?_
                       refine ev_bipush (nI 40) dX7_lay_165 rfl ?_
                       refine ev_iload_n dX7_lay_167 rfl rfl ?_
                       refine ev_imulN dX7_lay_168 ?_
                       refine ev_iaddN dX7_lay_169 ?_
                       refine ev_iload_n dX7_lay_170 rfl rfl ?_
                       refine ev_iaddN dX7_lay_171 ?_
                       refine ev_iload dX7_lay_172 rfl ?_
                       refine em_iZ dX7_lay_174 hm157 (by omega) (fun h174 hm174 o174 => ?_)
                       have ho := ho.tr o174
                       obtain ⟨m0, m1, m2, m3, m4, m5, m6, m7, m8, m9, m10, m11, m12⟩ := id hm174
                       refine ev_iincN (L' := [_, _, _, _, _, _, _]) 1 dX7_lay_175 rfl rfl ?_
                       refine ev_iincN (L' := [_, _, _, _, _, _, _]) 1 dX7_lay_178 rfl rfl ?_
                       refine ev_goto 88 dX7_lay_181 rfl ?_
                       refine ev_pc (pc' := 88) rfl ?_
                       refine ihk _ (by omega) (k + 1) _ (layZ y t (kP K p + k) (kS K (kP K p + k)) (0) (slU (gtN (chgS T t K) K (p + 1)) (kR K p))) rfl (by omega) hm174 ho (hyS.congr (fun i hi => layZ_o (by omega) (by omega) (by omega)) (fun _ _ => rfl)) ?_ (fun i h1 h2 h3 h4 h5 => ?_) (hyp.lay ht hK hp (by omega)) (hya.lay ht (by omega) (by omega) (by omega) ⟨fun z => by omega, fun z => by omega⟩)
                       · rw [layZ_o (by omega) (by omega) (by omega)]; exact hy7
                       · rw [layZ_o (by omega) (by omega) (by omega)]; exact hyo i h1 h2 h3 h4 h5)
          exact LP88 _ 0 h80 z2 rfl (Nat.zero_le _) hm80 ho hz2S hz27 hz2o hz2p (fun i hi => absurd hi (Nat.not_lt_zero i))
    exact LP68 _ 0 _ _ c50 rfl (Nat.zero_le _) hm62 ho (hS50.congr (fun i hi => upN_n (by omega)) (fun _ _ => rfl)) (by rw [upN_s, hgm]) (fun i h1 h2 h3 h4 h5 => by rw [upN_n h4]; exact ho50 i h3 (Or.inl h1)) (fun q hq => absurd hq (Nat.not_lt_zero q))
  refine ev_aload_n dX7_lay_0 rfl rfl ?_
  refine ev_callVP0 dX7_lay_1 cal_X7_fitsAsItIs lk_7_118 ⟨(Nat.le_of_ble_eq_true rfl), (Nat.le_of_ble_eq_true rfl)⟩ rfl m0 (Nat.le_of_ble_eq_true rfl) ((show CnP X m_X7_fitsAsItIs _ h (some (.int (bI (fitS (los1 T t) K)))) from by have z := k_fitsAsItIs (X := X) hm hq40.1 hq40.2 hkp; rwa [hfit] at z)) ?_
  refine ev_if_neB 11 dX7_lay_4 rfl (fun hc4 => ?_) (fun hc4 => ?_)
  · refine ev_pc (pc' := 11) rfl ?_
    have hf : fitS (los1 T t) K = true := hc4
    refine ev_iconst (nI 0) dX7_lay_11 rfl ?_
    refine ev_istore_n (L' := [_, _, _, _, _, _, _]) dX7_lay_12 rfl (Nat.le_of_ble_eq_true rfl) rfl ?_
    refine ev_aload_n dX7_lay_13 rfl rfl ?_
    refine ev_iload_n dX7_lay_14 rfl rfl ?_
    refine ev_callVU1 dX7_lay_15 cal_X7_clearText lk_7_128 ⟨(Nat.le_of_ble_eq_true rfl), (Nat.le_of_ble_eq_true rfl)⟩ rfl m0 (Nat.le_of_ble_eq_true rfl) (k_clearText hm t ht (hr.tx hT ht) (hr.ob hT ht)) (fun v h15 hq15 => ?_)
    obtain ⟨rfl, hm15, o15⟩ := hq15
    have ho := ho.tr o15
    obtain ⟨m0, m1, m2, m3, m4, m5, m6, m7, m8, m9, m10, m11, m12⟩ := id hm15
    refine ev_iconst (nI 0) dX7_lay_18 rfl ?_
    refine ev_istore_n (L' := [_, _, _, _, _, _, _]) dX7_lay_19 rfl (Nat.le_of_ble_eq_true rfl) rfl ?_
    refine ev_iload_n dX7_lay_20 rfl rfl ?_
    refine ev_bipush (nI 60) dX7_lay_21 rfl ?_
    refine ev_icmp_geN 50 dX7_lay_23 rfl (by omega) (by omega) (fun hc23 => ?_) (fun hc23 => ?_)
    · refine ev_pc (pc' := 50) rfl ?_
      refine ev_fgt 2 (L' := [_, _, _, _, _, _, _]) rfl ?_
      refine ev_fgt 3 (L' := [_, _, _, _, _, _, _]) rfl ?_
      refine TAIL _ _ gc hm15 ?_ (fun _ _ _ => rfl) ho
      rw [chgS, if_pos hf]
      exact hcl.2.1
    · refine ev_iload_n dX7_lay_26 rfl rfl ?_
      refine ev_if_eqN 50 dX7_lay_27 rfl (by omega) (fun hc27 => ?_) (fun hc27 => ?_)
      · refine ev_pc (pc' := 50) rfl ?_
        refine ev_fgt 2 (L' := [_, _, _, _, _, _, _]) rfl ?_
        refine ev_fgt 3 (L' := [_, _, _, _, _, _, _]) rfl ?_
        refine TAIL _ _ gc hm15 ?_ (fun _ _ _ => rfl) ho
        rw [chgS, if_pos hf]
        exact hcl.2.1
      · first | omega | exact absurd hc27 (by decide)
  · refine ev_pc (pc' := 7) rfl ?_
    have hf : ¬ fitS (los1 T t) K = true := by rw [hc4]; decide
    refine ev_iconst (nI 1) dX7_lay_7 rfl ?_
    refine ev_goto 12 dX7_lay_8 rfl ?_
    refine ev_istore_n (L' := [_, _, _, _, _, _, _]) dX7_lay_12 rfl (Nat.le_of_ble_eq_true rfl) rfl ?_
    refine ev_aload_n dX7_lay_13 rfl rfl ?_
    refine ev_iload_n dX7_lay_14 rfl rfl ?_
    refine ev_callVU1 dX7_lay_15 cal_X7_clearText lk_7_128 ⟨(Nat.le_of_ble_eq_true rfl), (Nat.le_of_ble_eq_true rfl)⟩ rfl m0 (Nat.le_of_ble_eq_true rfl) (k_clearText hm t ht (hr.tx hT ht) (hr.ob hT ht)) (fun v h15 hq15 => ?_)
    obtain ⟨rfl, hm15, o15⟩ := hq15
    have ho := ho.tr o15
    obtain ⟨m0, m1, m2, m3, m4, m5, m6, m7, m8, m9, m10, m11, m12⟩ := id hm15
    refine ev_iconst (nI 0) dX7_lay_18 rfl ?_
    refine ev_istore_n (L' := [_, _, _, _, _, _, _]) dX7_lay_19 rfl (Nat.le_of_ble_eq_true rfl) rfl ?_
    refine ev_pc (pc' := 20) rfl ?_
    have LP20 : ∀ (mz : Nat) (k : Nat) (h3 : mH) (z : Nat → Nat) (c : Nat → Int64), 60 - k = mz → (k ≤ 60) → (MN h3 z c gs gh gk gl gb gt gr gm gp gq ge gn go gu gi ga gv gw gx) → (Out h h3 270 13) → (RelS z c (swN (los1 T t) K k (sW (los1 T t) + ctN (rmS (los1 T t) K) k))) → (∀ i, i ≠ 6 → (i < 491 ∨ 611 ≤ i) → z i = (clB (upN (clA gz t 60) (7 + t) 0) t 40) i) → Ev X m_X7_lay B0 20 [.ref 270, .int (nI t), .int (nI 1), .int (nI k), jk, jk, jk] [] h3 (fun o h1 => ∃ v, o = .inl v ∧ (v = some (.int (nI (kN K))) ∧ (∃ z c, MN h1 z c gs gh gk gl gb gt gr gm gp gq ge gn go gu gi ga gv gw gx ∧ RelT z c (chgT T t K)) ∧ Out h h1 270 13)) := by
      intro mz
      induction mz using Nat.strongRecOn with
      | _ mz ih =>
        intro k h3 z c hmz hk hm3 ho hz hzo
        obtain ⟨m0, m1, m2, m3, m4, m5, m6, m7, m8, m9, m10, m11, m12⟩ := id hm3
        have hkp3 := hz.kp
        have hSB : SoB (swN (los1 T t) K k (sW (los1 T t) + ctN (rmS (los1 T t) K) k)) := swN_SoB (los1_SoB hT.B)
        have h70 : z (7 + t) = 0 := by rw [hzo _ (by omega) (by omega)]; exact (hcl.2.2 t ht).1.trans (by show kL (if t = t then rawK 0 (fun _ => 0) else tC T t) = 0; rw [if_pos rfl])
        have htx : TxB z t := ⟨by omega, fun j hj => absurd hj (by omega)⟩
        have how : OwB z t := fun q hq => ⟨by rw [h70]; exact Nat.zero_le _, by have := hz.ow hSB hq; omega⟩
        have hcb : k < 60 → cbsM z c gp gq gn t k = rmS (los1 T t) K k := fun q => by
          have e1 := rel_rm0 hz q
          have e2 := rel_new hz hcm hK q
          rw [swN_ge (Nat.le_refl k)] at e2
          rw [cbsM, e2, rmS, ← e1, h70]
          rfl
        refine ev_iload_n dX7_lay_20 rfl rfl ?_
        refine ev_bipush (nI 60) dX7_lay_21 rfl ?_
        refine ev_icmp_geN 50 dX7_lay_23 rfl (by omega) (by omega) (fun hc23 => ?_) (fun hc23 => ?_)
        · refine ev_pc (pc' := 50) rfl ?_
          have ek : k = 60 := by omega
          subst ek
          refine ev_fgt 2 (L' := [_, _, _, _, _, _, _]) rfl ?_
          refine ev_fgt 3 (L' := [_, _, _, _, _, _, _]) rfl ?_
          refine TAIL _ z c hm3 ?_ hzo ho
          rw [chgS, if_neg hf]
          exact hz
        · refine ev_iload_n dX7_lay_26 rfl rfl ?_
          refine ev_if_eqN 50 dX7_lay_27 rfl (by omega) (fun hc27 => ?_) (fun hc27 => ?_)
          · first | omega | exact absurd hc27 (by decide)
          · refine ev_aload_n dX7_lay_30 rfl rfl ?_
            refine ev_iload_n dX7_lay_31 rfl rfl ?_
            refine ev_iload_n dX7_lay_32 rfl rfl ?_
            refine ev_callVP2 dX7_lay_33 cal_X7_canBeSwept lk_7_115 ⟨(Nat.le_of_ble_eq_true rfl), (Nat.le_of_ble_eq_true rfl)⟩ rfl m0 (Nat.le_of_ble_eq_true rfl) ((show CnP X m_X7_canBeSwept _ _ (some (.int (bI (rmS (los1 T t) K k)))) from by have z := k_canBeSwept (X := X) hm3 hq40.1 hq40.2 hkp3 t ht htx how k (by omega); rwa [hcb (by omega)] at z)) ?_
            refine ev_if_eqB 44 dX7_lay_36 rfl (fun hc36 => ?_) (fun hc36 => ?_)
            · refine ev_iincN (L' := [_, _, _, _, _, _, _]) 1 dX7_lay_44 rfl rfl ?_
              refine ev_goto 20 dX7_lay_47 rfl ?_
              refine ev_pc (pc' := 20) rfl ?_
              first
                | (have hn : rmS (los1 T t) K k = false := hc36
                   refine ih _ (by omega) (k + 1) _ z c rfl (by omega) hm3 ho ?_ hzo
                   rw [ctN_n hn]
                   exact rel_swpN hz hn)
                | (have hy : rmS (los1 T t) K k = true := hc36
                   refine ih _ (by omega) (k + 1) _ _ _ rfl (by omega) hm3 ho (?_ : RelS (swpZ z k) (vp_updL c k 0) _) (fun i hi hi2 => ?_)
                   · rw [ctN_y hy]
                     exact rel_swpY hz (by omega) hy
                   · show swpZ z k i = (clB (upN (clA gz t 60) (7 + t) 0) t 40) i
                     rw [swpZ_o hi (by omega) (by omega)]
                     exact hzo i hi hi2)
            · refine ev_aload_n dX7_lay_39 rfl rfl ?_
              refine ev_iload_n dX7_lay_40 rfl rfl ?_
              refine ev_callVU1 dX7_lay_41 cal_X7_sweepSlot lk_7_132 ⟨(Nat.le_of_ble_eq_true rfl), (Nat.le_of_ble_eq_true rfl)⟩ rfl m0 (Nat.le_of_ble_eq_true rfl) (k_sweepSlot hm3 k (by omega)) (fun v h41 hq41 => ?_)
              obtain ⟨rfl, hm41, o41⟩ := hq41
              have ho := ho.tr o41
              obtain ⟨m0, m1, m2, m3, m4, m5, m6, m7, m8, m9, m10, m11, m12⟩ := id hm41
              refine ev_iincN (L' := [_, _, _, _, _, _, _]) 1 dX7_lay_44 rfl rfl ?_
              refine ev_goto 20 dX7_lay_47 rfl ?_
              refine ev_pc (pc' := 20) rfl ?_
              first
                | (have hn : rmS (los1 T t) K k = false := hc36
                   refine ih _ (by omega) (k + 1) _ z c rfl (by omega) hm41 ho ?_ hzo
                   rw [ctN_n hn]
                   exact rel_swpN hz hn)
                | (have hy : rmS (los1 T t) K k = true := hc36
                   refine ih _ (by omega) (k + 1) _ _ _ rfl (by omega) hm41 ho (?_ : RelS (swpZ z k) (vp_updL c k 0) _) (fun i hi hi2 => ?_)
                   · rw [ctN_y hy]
                     exact rel_swpY hz (by omega) hy
                   · show swpZ z k i = (clB (upN (clA gz t 60) (7 + t) 0) t 40) i
                     rw [swpZ_o hi (by omega) (by omega)]
                     exact hzo i hi hi2)
    exact LP20 _ 0 _ _ gc rfl (Nat.zero_le _) hm15 ho (by rw [ctN, Nat.add_zero, swN_0]; exact hcl.2.1) (fun _ _ _ => rfl)
