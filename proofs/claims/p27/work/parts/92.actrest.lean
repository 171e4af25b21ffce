theorem LawN.s0 {h : mH} {gn gs ge gl : Nat → Nat} {gc : Nat → Int64} {gq go : Nat → Nat} (y : LawN h gn gs ge gl gc gq go) (x : Nat → Nat) : LawN (mset h 270 (aI 12 (nf x))) x gs ge gl gc gq go := by
  obtain ⟨k0, k1, k2, k3, k4, k5, k6⟩ := y
  exact ⟨mset_s _ _ _, (mset_n (by omega)).trans k1, (mset_n (by omega)).trans k2, (mset_n (by omega)).trans k3, (mset_n (by omega)).trans k4, (mset_n (by omega)).trans k5, (mset_n (by omega)).trans k6⟩
theorem LawN.s5 {h : mH} {gn gs ge gl : Nat → Nat} {gc : Nat → Int64} {gq go : Nat → Nat} (y : LawN h gn gs ge gl gc gq go) (x : Nat → Nat) : LawN (mset h 275 (aI 60 (nf x))) gn gs ge gl gc x go := by
  obtain ⟨k0, k1, k2, k3, k4, k5, k6⟩ := y
  exact ⟨(mset_n (by omega)).trans k0, (mset_n (by omega)).trans k1, (mset_n (by omega)).trans k2, (mset_n (by omega)).trans k3, (mset_n (by omega)).trans k4, mset_s _ _ _, (mset_n (by omega)).trans k6⟩
theorem LawN.s6 {h : mH} {gn gs ge gl : Nat → Nat} {gc : Nat → Int64} {gq go : Nat → Nat} (y : LawN h gn gs ge gl gc gq go) (x : Nat → Nat) : LawN (mset h 276 (aI 60 (nf x))) gn gs ge gl gc gq x := by
  obtain ⟨k0, k1, k2, k3, k4, k5, k6⟩ := y
  exact ⟨(mset_n (by omega)).trans k0, (mset_n (by omega)).trans k1, (mset_n (by omega)).trans k2, (mset_n (by omega)).trans k3, (mset_n (by omega)).trans k4, (mset_n (by omega)).trans k5, mset_s _ _ _⟩
set_option maxHeartbeats 4000000 in
set_option maxRecDepth 100000 in
theorem act_717 {X : mX} {h : mH} {gn : Nat → Nat} {Q : mO → mH → Prop} (k0 : h 270 = some (aI 12 (nf gn))) {N a t : Nat} (x y : Int32) (ht : t < 4) (h16 : gn t ≤ 16) (ha6 : 6 ≤ a) (ha14 : a < 14) (ha8 : a < 8 → gn t = 0) (hn8 : a ≠ 8) (ha9 : a = 9 → gn t = 0) (kk : Ev X m_L_act (some (N + 1), some (N + 1), 1, 16, 6, 184) 717 [.ref 0, .int x, .int y, .ref 270, .ref 271, .ref 272, .ref 273, .ref 274, .ref 275, .ref 276, .int (nI a), .int (nI t), .ref N, .int (nI 0), .int (nI 0), jk, jk, jk] [] h Q) : Ev X m_L_act (some (N + 1), some (N + 1), 1, 16, 6, 184) 30 [.ref 0, .int x, .int y, .ref 270, .ref 271, .ref 272, .ref 273, .ref 274, .ref 275, .ref 276, .int (nI a), .int (nI t), .ref N, .int (nI 0), .int (nI 0), jk, jk, jk] [] h Q := by
  refine ev_iload dL_act_30 rfl ?_
  refine ev_bipush (nI 6) dL_act_32 rfl ?_
  refine ev_icmp_geN 222 dL_act_34 rfl (by omega) (by omega) (fun hc34 => ?_) (fun hc34 => ?_)
  · refine ev_iload dL_act_222 rfl ?_
    refine ev_bipush (nI 8) dL_act_224 rfl ?_
    refine ev_icmp_geN 422 dL_act_226 rfl (by omega) (by omega) (fun hc226 => ?_) (fun hc226 => ?_)
    · refine ev_iload dL_act_422 rfl ?_
      refine ev_bipush (nI 8) dL_act_424 rfl ?_
      refine ev_icmp_neN 560 dL_act_426 rfl (by omega) (by omega) (fun hc426 => ?_) (fun hc426 => ?_)
      · refine ev_iload dL_act_560 rfl ?_
        refine ev_bipush (nI 9) dL_act_562 rfl ?_
        refine ev_icmp_neN 717 dL_act_564 rfl (by omega) (by omega) (fun hc564 => ?_) (fun hc564 => ?_)
        · refine ev_pc (pc' := 717) rfl ?_
          exact kk
        · refine ev_aload_n dL_act_567 rfl rfl ?_
          refine ev_iload dL_act_568 rfl ?_
          refine ev_ialoadF dL_act_570 (k0) (by omega) (by decide) ?_
          refine ev_if_leN 717 dL_act_571 rfl (by omega) (fun hc571 => ?_) (fun hc571 => ?_)
          · refine ev_pc (pc' := 717) rfl ?_
            exact kk
          · first | omega | exact absurd hc571 (by decide) | exact absurd rfl hc571 | exact hc571 rfl | exact absurd hc571 (by assumption) | exact absurd (by assumption) hc571
      · first | omega | exact absurd hc426 (by decide) | exact absurd rfl hc426 | exact hc426 rfl | exact absurd hc426 (by assumption) | exact absurd (by assumption) hc426
    · refine ev_aload_n dL_act_229 rfl rfl ?_
      refine ev_iload dL_act_230 rfl ?_
      refine ev_ialoadF dL_act_232 (k0) (by omega) (by decide) ?_
      refine ev_if_leN 422 dL_act_233 rfl (by omega) (fun hc233 => ?_) (fun hc233 => ?_)
      · refine ev_iload dL_act_422 rfl ?_
        refine ev_bipush (nI 8) dL_act_424 rfl ?_
        refine ev_icmp_neN 560 dL_act_426 rfl (by omega) (by omega) (fun hc426 => ?_) (fun hc426 => ?_)
        · refine ev_iload dL_act_560 rfl ?_
          refine ev_bipush (nI 9) dL_act_562 rfl ?_
          refine ev_icmp_neN 717 dL_act_564 rfl (by omega) (by omega) (fun hc564 => ?_) (fun hc564 => ?_)
          · refine ev_pc (pc' := 717) rfl ?_
            exact kk
          · refine ev_aload_n dL_act_567 rfl rfl ?_
            refine ev_iload dL_act_568 rfl ?_
            refine ev_ialoadF dL_act_570 (k0) (by omega) (by decide) ?_
            refine ev_if_leN 717 dL_act_571 rfl (by omega) (fun hc571 => ?_) (fun hc571 => ?_)
            · refine ev_pc (pc' := 717) rfl ?_
              exact kk
            · first | omega | exact absurd hc571 (by decide) | exact absurd rfl hc571 | exact hc571 rfl | exact absurd hc571 (by assumption) | exact absurd (by assumption) hc571
        · first | omega | exact absurd hc426 (by decide) | exact absurd rfl hc426 | exact hc426 rfl | exact absurd hc426 (by assumption) | exact absurd (by assumption) hc426
      · first | omega | exact absurd hc233 (by decide) | exact absurd rfl hc233 | exact hc233 rfl | exact absurd hc233 (by assumption) | exact absurd (by assumption) hc233
  · first | omega | exact absurd hc34 (by decide) | exact absurd rfl hc34 | exact hc34 rfl | exact absurd hc34 (by assumption) | exact absurd (by assumption) hc34
theorem clr_rel {gn g1 gs ge gl : Nat → Nat} {gc : Nat → Int64} {gq go o2 : Nat → Nat} {T : mSt} {t : Nat} (hr : RelT9 gn gs ge gl gc gq go T) (hT : InvT T) (ht : t < 4) (h4 : ∀ j, j < 60 → o2 j = go j - cntL ge gl t j (gn t)) : RelT9 (upN gn t 0) gs ge gl gc gq o2 (clrT T t) := by
  have hS := hr.los hT ht h4
  obtain ⟨r1, r2, r3, r4, r5⟩ := hr
  refine ⟨fun k hk => by rw [upN_n (by omega)]; exact r1 k hk, by rw [upN_n (by omega)]; exact r2, by rw [upN_n (by omega)]; exact r3, hS, fun u hu => ?_⟩
  show upN gn t 0 u = kL (if u = t then rawK 0 (fun _ => 0) else tC T u) ∧ kL (if u = t then rawK 0 (fun _ => 0) else tC T u) ≤ 16 ∧ PlX gs ge gl u (if u = t then rawK 0 (fun _ => 0) else tC T u) (los1 T t) (kN (if u = t then rawK 0 (fun _ => 0) else tC T u))
  by_cases e : u = t
  · rw [if_pos e, e, upN_s]
    exact ⟨rfl, Nat.zero_le _, fun q hq => absurd hq (Nat.not_lt_zero q)⟩
  · rw [if_neg e, upN_n e]
    obtain ⟨u1, u2, u3⟩ := r5 u hu
    exact ⟨u1, u2, u3.st (fun q hq => slU_congr (fun k _ => rfl))⟩
theorem swp_rel {gn gs ge gl : Nat → Nat} {gc : Nat → Int64} {gq go q2 : Nat → Nat} {T : mSt} (hr : RelT9 gn gs ge gl gc gq go T) (hT : InvT T) (hq : ∀ j, j < 60 → q2 j = if isU (tS T) j = true then 0 else gq j) : RelT9 (upN gn 11 (gn 11 + ctN (isU (tS T)) 60)) gs ge gl gc q2 go (swpT T) := by
  have hrm : ∀ j, rmS (tS T) (rawK 0 (fun _ => 0)) j = isU (tS T) j := fun j => Bool.and_true _
  have hct : ctN (rmS (tS T) (rawK 0 (fun _ => 0))) 60 = ctN (isU (tS T)) 60 := ctN_congr (fun j _ => hrm j)
  have hst := (swpT_all hT).2
  obtain ⟨r1, r2, r3, r4, r5⟩ := hr
  refine ⟨fun k hk => by rw [upN_n (by omega)]; exact r1 k hk, by rw [upN_n (by omega)]; exact r2, ?_, fun k hk => ?_, fun u hu => ?_⟩
  · rw [upN_s, r3, ← hct]
    rfl
  · show (sR (swN (tS T) (rawK 0 (fun _ => 0)) 60 (sW (tS T) + ctN (rmS (tS T) (rawK 0 (fun _ => 0))) 60)) k = 0 → q2 k = 0) ∧ (sR (swN (tS T) (rawK 0 (fun _ => 0)) 60 (sW (tS T) + ctN (rmS (tS T) (rawK 0 (fun _ => 0))) 60)) k ≠ 0 → Ce (sR (swN (tS T) (rawK 0 (fun _ => 0)) 60 (sW (tS T) + ctN (rmS (tS T) (rawK 0 (fun _ => 0))) 60)) k) (gc k) (q2 k) ∧ go k = sO (tS T) k)
    rw [swN_R hk, hrm, hq k hk]
    by_cases e : isU (tS T) k = true
    · rw [if_pos e, if_pos e]
      exact ⟨fun _ => rfl, fun z => absurd rfl z⟩
    · rw [if_neg e, if_neg e]
      exact r4 k hk
  · rw [upN_n (by omega)]
    obtain ⟨u1, u2, u3⟩ := r5 u hu
    exact ⟨u1, u2, u3.st (fun q hq => hst u q hu hq)⟩
theorem set_rel {gn gs ge gl : Nat → Nat} {gc : Nat → Int64} {gq go : Nat → Nat} {T : mSt} (hr : RelT9 gn gs ge gl gc gq go T) {k x : Nat} (hk : k < 5) : RelT9 (upN gn (4 + k) x) gs ge gl gc gq go (setT T k x) := by
  obtain ⟨r1, r2, r3, r4, r5⟩ := hr
  refine ⟨fun j hj => ?_, by rw [upN_n (by omega)]; exact r2, by rw [upN_n (by omega)]; exact r3, r4, fun u hu => ?_⟩
  · show upN gn (4 + k) x (4 + j) = upN (tV T) k x j
    by_cases e : j = k
    · rw [e, upN_s, upN_s]
    · rw [upN_n e, upN_n (by omega)]
      exact r1 j hj
  · rw [upN_n (by omega)]
    exact r5 u hu
theorem set_bd {k x : Nat} (hk : k < 5) (h : (k = 1 ∧ 1 ≤ x ∧ x ≤ 9) ∨ (k = 2 ∧ x ≤ 2) ∨ (k = 4 ∧ 6 ≤ x ∧ x ≤ 11) ∨ (k ≠ 1 ∧ k ≠ 2 ∧ k ≠ 4 ∧ 1 ≤ x ∧ x ≤ 6)) : lowF k ≤ x ∧ x ≤ higF k := by
  have : k = 0 ∨ k = 1 ∨ k = 2 ∨ k = 3 ∨ k = 4 := by omega
  rcases this with rfl | rfl | rfl | rfl | rfl <;> simp only [lowF, higF] <;> omega
set_option maxHeartbeats 4000000 in
set_option maxRecDepth 100000 in
theorem act_drop {X : mX} {h : mH} {A : mAs} {gn gs ge gl : Nat → Nat} {gc : Nat → Int64} {gq go : Nat → Nat} (J : JW h A gn gs ge gl gc gq go) {N a t : Nat} (hN : 277 ≤ N) (hN2 : N + 7 < 1000000) (x y : Int32) (ha : a = 10) (hy : atN (y >>> (nI 2 &&& 31)) 2 = 0) (ht : t < 4) : Ev X m_L_act (some (N + 1), some (N + 1), 1, 16, 6, 184) 717 [.ref 0, .int x, .int y, .ref 270, .ref 271, .ref 272, .ref 273, .ref 274, .ref 275, .ref 276, .int (nI a), .int (nI t), .ref N, .int (nI 0), .int (nI 0), jk, jk, jk] [] (mset h N (aI 16 (nf (fun _ => 0)))) (fun (o : mO) (h1 : mH) => o = .inl (some (.int (nI 1))) ∧ PW h1) := by
  obtain ⟨JC, JI, JB, Jl, Jr, J9⟩ := J
  have JT := JI.1
  have J6 := JI.2.2.1
  have oN : Out h (mset h N (aI 16 (nf (fun _ => 0)))) N 1 := Out.set (by omega) (by omega)
  have JC0 := JC.go oN (by omega)
  have Jl0 := Jl.go oN (Or.inl hN)
  obtain ⟨hgt, h16t, hplt⟩ := Jr.2.2.2.2 t ht
  refine act_n9_717 Jl0.1 (by rw [J9]; exact J6) rfl (fun h3 g1 e1 e2 k0' o3 => ?_)
  have hl3 := Jl0.up0 o3 k0'
  have hA3 := JC0.go o3 (Nat.le_refl _)
  have Jr3 := Jr.n9 e2
  have hg1t : g1 t = gn t := e2 t (by omega)
  have y2 := atN_lt (y >>> (nI 2 &&& 31)) (n := 2) (by decide)
  have y3 := atN_lt (y >>> (nI 3 &&& 31)) (n := 2) (by decide)
  obtain ⟨hO1, hO2⟩ := Jr.ownL JT ht
  refine ev_iload dL_act_734 rfl ?_
  refine ev_bipush (nI 10) dL_act_736 rfl ?_
  refine ev_icmp_neN 829 dL_act_738 rfl (by omega) (by omega) (fun hc738 => ?_) (fun hc738 => ?_)
  · first | omega | exact absurd hc738 (by decide) | exact absurd rfl hc738 | exact hc738 rfl | exact absurd hc738 (by assumption) | exact absurd (by assumption) hc738
  · refine ev_iload_n dL_act_741 rfl rfl ?_
    refine ev_iconst (nI 2) dL_act_742 rfl ?_
    refine ev_ishr dL_act_743 ?_
    refine ev_iconst (nI 2) dL_act_744 rfl ?_
    refine ev_cSP2 dL_act_745 cal_L_at lk_8_20 ⟨(Nat.le_of_ble_eq_true rfl), (Nat.le_of_ble_eq_true rfl)⟩ rfl (Nat.le_of_ble_eq_true rfl) (by omega) (by omega) (c_at _ 2 (by decide) (by decide)) ?_
    refine ev_if_neN 829 dL_act_748 rfl (by omega) (fun hc748 => ?_) (fun hc748 => ?_)
    · first | omega | exact absurd hc748 (by decide) | exact absurd rfl hc748 | exact hc748 rfl | exact absurd hc748 (by assumption) | exact absurd (by assumption) hc748
    · refine ev_iconst (nI 0) dL_act_751 rfl ?_
      refine ev_istore (L' := [_, _, _, _, _, _, _, _, _, _, _, _, _, _, _, _, _, _]) dL_act_752 (Nat.le_of_ble_eq_true rfl) rfl ?_
      refine ev_pc (pc' := 754) rfl ?_
      have LP754 : ∀ (mz : Nat) (p : Nat) (h1 : mH) (o2 : Nat → Nat), gn t - p = mz → (p ≤ gn t) → (ClsN h1 A) → (LawN h1 g1 gs ge gl gc gq o2) → (∀ j, j < 60 → o2 j = go j - cntL ge gl t j p) → Ev X m_L_act (some (N + 1), some (N + 1), 1, 16, 6, 184) 754 [.ref 0, .int x, .int y, .ref 270, .ref 271, .ref 272, .ref 273, .ref 274, .ref 275, .ref 276, .int (nI a), .int (nI t), .ref N, .int (nI 0), .int (nI 0), .int (nI p), jk, jk] [] h1 (fun (o : mO) (h1 : mH) => o = .inl (some (.int (nI 1))) ∧ PW h1) := by
        intro mz
        induction mz using Nat.strongRecOn with
        | _ mz ih =>
          intro p h1 o2 hmz hp hA4 hl4 hf
          obtain ⟨k0, k1, k2, k3, k4, k5, k6⟩ := id hl4
          have hOp := hO2 p
          have hob := hA4.1
          refine ev_iload dL_act_754 rfl ?_
          refine ev_aload_n dL_act_756 rfl rfl ?_
          refine ev_iload dL_act_757 rfl ?_
          first | refine ev_ialoadF dL_act_759 (hob) (by omega) (by decide) ?_ | refine ev_ialoadF dL_act_759 (k0) (by omega) (by decide) ?_ | refine ev_ialoadF dL_act_759 (k2) (by omega) (by decide) ?_ | refine ev_ialoadF dL_act_759 (k3) (by omega) (by decide) ?_ | refine ev_ialoadF dL_act_759 (k6) (by omega) (by decide) ?_
          refine ev_icmp_geN 801 dL_act_760 rfl (by omega) (by omega) (fun hc760 => ?_) (fun hc760 => ?_)
          · refine ev_pc (pc' := 801) rfl ?_
            have ep : p = gn t := by omega
            rw [ep] at hf
            refine ev_fgt 15 (L' := [_, _, _, _, _, _, _, _, _, _, _, _, _, _, _, _, _, _]) rfl ?_
            refine ev_aload_n dL_act_801 rfl rfl ?_
            refine ev_iload dL_act_802 rfl ?_
            first | refine ev_ialoadF dL_act_804 (hob) (by omega) (by decide) ?_ | refine ev_ialoadF dL_act_804 (k0) (by omega) (by decide) ?_
            refine ev_istore (L' := [_, _, _, _, _, _, _, _, _, _, _, _, _, _, _, _, _, _]) dL_act_805 (Nat.le_of_ble_eq_true rfl) rfl ?_
            refine ev_aload_n dL_act_807 rfl rfl ?_
            refine ev_iload dL_act_808 rfl ?_
            refine ev_iconst (nI 0) dL_act_810 rfl ?_
            first | refine ev_iastoreF dL_act_811 (hob) (by omega) (by decide) ?_ | refine ev_iastoreF dL_act_811 (k0) (by omega) (by decide) ?_
            refine ev_aload_n dL_act_812 rfl rfl ?_
            refine ev_iload dL_act_813 rfl ?_
            first | refine ev_cVU1 dL_act_815 cal_X6_drop lk_8_57 ⟨(Nat.le_of_ble_eq_true rfl), (Nat.le_of_ble_eq_true rfl)⟩ rfl (mset_s _ _ _) (Nat.le_of_ble_eq_true rfl) (by omega) (by omega) (c_drop (X := X) (hA4.go (a := 270) (n := 1) (Out.set (by omega) (by omega)) (by omega)) t ht (JT.los ht)) (fun v h815 hq815 => ?_) | refine ev_cVU1 dL_act_815 cal_X6_drop lk_8_57 ⟨(Nat.le_of_ble_eq_true rfl), (Nat.le_of_ble_eq_true rfl)⟩ rfl ((mset_n (by omega)).trans (hob)) (Nat.le_of_ble_eq_true rfl) (by omega) (by omega) (c_drop (X := X) (hA4.go (a := 270) (n := 1) (Out.set (by omega) (by omega)) (by omega)) t ht (JT.los ht)) (fun v h815 hq815 => ?_) | refine ev_cVU1 dL_act_815 cal_X6_drop lk_8_57 ⟨(Nat.le_of_ble_eq_true rfl), (Nat.le_of_ble_eq_true rfl)⟩ rfl ((mset_n (by omega)).trans (k0)) (Nat.le_of_ble_eq_true rfl) (by omega) (by omega) (c_drop (X := X) (hA4.go (a := 270) (n := 1) (Out.set (by omega) (by omega)) (by omega)) t ht (JT.los ht)) (fun v h815 hq815 => ?_)
            refine ev_pc (pc' := 818) rfl ?_
            obtain ⟨rfl, hA5, o5⟩ := hq815
            refine ev_iload dL_act_818 rfl ?_
            refine ev_icmp_neN 827 dL_act_820 rfl (by omega) (by omega) (fun hc820 => ?_) (fun hc820 => ?_)
            · first | omega | exact absurd hc820 (by decide) | exact absurd rfl hc820 | exact hc820 rfl | exact absurd hc820 (by assumption) | exact absurd (by assumption) hc820
            · refine ev_iconst (nI 1) dL_act_823 rfl ?_
              refine ev_goto 828 dL_act_824 rfl ?_
              refine ev_zreturn dL_act_828 rfl (by first | rfl | exact bI_nar _) (Or.inl rfl) (by omega) (by omega) ?_
              have h4' : ∀ j, j < 60 → o2 j = go j - cntL ge gl t j (g1 t) := by rw [hg1t]; exact hf
              refine ⟨rfl, _, _, _, _, _, _, _, _, JW.chg2 (A := A) JI JB (A1 := (clrT (aT A) t, hisA A, (aB A, aD A))) (clrT_all JT ht) (hl4.s0 _) (clr_rel (g1 := g1) Jr3 JT ht h4') (by rw [upN_n (by omega), e1, J9]) hA5 o5⟩
          · refine ev_aload dL_act_763 rfl ?_
            refine ev_bipush (nI 16) dL_act_765 rfl ?_
            refine ev_iload dL_act_767 rfl ?_
            refine ev_imulN dL_act_769 ?_
            refine ev_iload dL_act_770 rfl ?_
            refine ev_iaddN dL_act_772 ?_
            first | refine ev_ialoadF dL_act_773 (hob) (by omega) (by decide) ?_ | refine ev_ialoadF dL_act_773 (k0) (by omega) (by decide) ?_ | refine ev_ialoadF dL_act_773 (k2) (by omega) (by decide) ?_ | refine ev_ialoadF dL_act_773 (k3) (by omega) (by decide) ?_ | refine ev_ialoadF dL_act_773 (k6) (by omega) (by decide) ?_
            refine ev_if_leN 795 dL_act_774 rfl (by omega) (fun hc774 => ?_) (fun hc774 => ?_)
            · refine ev_iincN (L' := [_, _, _, _, _, _, _, _, _, _, _, _, _, _, _, _, _, _]) 1 dL_act_795 rfl rfl ?_
              refine ev_goto 754 dL_act_798 rfl ?_
              refine ev_pc (pc' := 754) rfl ?_
              first
                | (have hz : ge (16 * t + p) = 0 := hc774
                   exact ih (gn t - (p + 1)) (by omega) (p + 1) _ _ rfl (by omega) hA4 hl4 (fun j hj => by rw [cntL_n1 hz]; exact hf j hj))
                | exact ih (gn t - (p + 1)) (by omega) (p + 1) _ _ rfl (by omega) (hA4.go (a := 276) (n := 1) (Out.set (by omega) (by omega)) (by omega)) (hl4.s6 _) (lose_y hf hnz hg60)
            · refine ev_pc (pc' := 777) rfl ?_
              have hnz : ge (16 * t + p) ≠ 0 := by omega
              obtain ⟨hg60, hgo⟩ := (hOp (by omega)).2 hnz
              have hc1 := cntL_y (ge := ge) (gl := gl) (t := t) (p := p) hnz rfl
              have hc2 := cntL_le (ge := ge) (gl := gl) (t := t) (j := gl (16 * t + p)) (show p + 1 ≤ gn t by omega)
              have hf1 := hf _ hg60
              refine ev_aload dL_act_777 rfl ?_
              refine ev_aload dL_act_779 rfl ?_
              refine ev_bipush (nI 16) dL_act_781 rfl ?_
              refine ev_iload dL_act_783 rfl ?_
              refine ev_imulN dL_act_785 ?_
              refine ev_iload dL_act_786 rfl ?_
              refine ev_iaddN dL_act_788 ?_
              first | refine ev_ialoadF dL_act_789 (k0) (by omega) (by decide) ?_ | refine ev_ialoadF dL_act_789 (k2) (by omega) (by decide) ?_ | refine ev_ialoadF dL_act_789 (k3) (by omega) (by decide) ?_ | refine ev_ialoadF dL_act_789 (k6) (by omega) (by decide) ?_
              refine ev_dup2 dL_act_790 rfl rfl ?_
              first | refine ev_ialoadF dL_act_791 (k0) (by omega) (by decide) ?_ | refine ev_ialoadF dL_act_791 (k2) (by omega) (by decide) ?_ | refine ev_ialoadF dL_act_791 (k3) (by omega) (by decide) ?_ | refine ev_ialoadF dL_act_791 (k6) (by omega) (by decide) ?_
              refine ev_iconst (nI 1) dL_act_792 rfl ?_
              refine ev_isubN dL_act_793 (by omega) ?_
              first | refine ev_iastoreF dL_act_794 (k0) (by omega) (by decide) ?_ | refine ev_iastoreF dL_act_794 (k2) (by omega) (by decide) ?_ | refine ev_iastoreF dL_act_794 (k3) (by omega) (by decide) ?_ | refine ev_iastoreF dL_act_794 (k6) (by omega) (by decide) ?_
              refine ev_iincN (L' := [_, _, _, _, _, _, _, _, _, _, _, _, _, _, _, _, _, _]) 1 dL_act_795 rfl rfl ?_
              refine ev_goto 754 dL_act_798 rfl ?_
              refine ev_pc (pc' := 754) rfl ?_
              exact ih (gn t - (p + 1)) (by omega) (p + 1) _ _ rfl (by omega) (hA4.go (a := 276) (n := 1) (Out.set (by omega) (by omega)) (by omega)) (hl4.s6 _) (lose_y hf hnz hg60)
      exact LP754 _ 0 h3 go rfl (Nat.zero_le _) hA3 hl3 (fun j _ => rfl)
theorem ite_u {j k b : Nat} {u : Bool} (e : ¬ j = k) : (if j < k ∧ u = true then 0 else b) = if j < k + 1 ∧ u = true then 0 else b := by
  by_cases h : j < k ∧ u = true
  · rw [if_pos h, if_pos ⟨by omega, h.2⟩]
  · rw [if_neg h, if_neg (fun z => h ⟨by omega, z.2⟩)]
set_option maxHeartbeats 4000000 in
set_option maxRecDepth 100000 in
theorem act_sweep {X : mX} {h : mH} {A : mAs} {gn gs ge gl : Nat → Nat} {gc : Nat → Int64} {gq go : Nat → Nat} (J : JW h A gn gs ge gl gc gq go) {N a t : Nat} (hN : 277 ≤ N) (hN2 : N + 7 < 1000000) (x y : Int32) (ha : a = 10) (hy : atN (y >>> (nI 2 &&& 31)) 2 ≠ 0) (hy3 : atN (y >>> (nI 3 &&& 31)) 2 = 0) (ht : t < 4) : Ev X m_L_act (some (N + 1), some (N + 1), 1, 16, 6, 184) 717 [.ref 0, .int x, .int y, .ref 270, .ref 271, .ref 272, .ref 273, .ref 274, .ref 275, .ref 276, .int (nI a), .int (nI t), .ref N, .int (nI 0), .int (nI 0), jk, jk, jk] [] (mset h N (aI 16 (nf (fun _ => 0)))) (fun (o : mO) (h1 : mH) => o = .inl (some (.int (nI 1))) ∧ PW h1) := by
  obtain ⟨JC, JI, JB, Jl, Jr, J9⟩ := J
  have JT := JI.1
  have J6 := JI.2.2.1
  have oN : Out h (mset h N (aI 16 (nf (fun _ => 0)))) N 1 := Out.set (by omega) (by omega)
  have JC0 := JC.go oN (by omega)
  have Jl0 := Jl.go oN (Or.inl hN)
  obtain ⟨hgt, h16t, hplt⟩ := Jr.2.2.2.2 t ht
  refine act_n9_717 Jl0.1 (by rw [J9]; exact J6) rfl (fun h3 g1 e1 e2 k0' o3 => ?_)
  have hl3 := Jl0.up0 o3 k0'
  have hA3 := JC0.go o3 (Nat.le_refl _)
  have Jr3 := Jr.n9 e2
  have hg1t : g1 t = gn t := e2 t (by omega)
  have y2 := atN_lt (y >>> (nI 2 &&& 31)) (n := 2) (by decide)
  have y3 := atN_lt (y >>> (nI 3 &&& 31)) (n := 2) (by decide)
  refine ev_iload dL_act_734 rfl ?_
  refine ev_bipush (nI 10) dL_act_736 rfl ?_
  refine ev_icmp_neN 829 dL_act_738 rfl (by omega) (by omega) (fun hc738 => ?_) (fun hc738 => ?_)
  · first | omega | exact absurd hc738 (by decide) | exact absurd rfl hc738 | exact hc738 rfl | exact absurd hc738 (by assumption) | exact absurd (by assumption) hc738
  · refine ev_iload_n dL_act_741 rfl rfl ?_
    refine ev_iconst (nI 2) dL_act_742 rfl ?_
    refine ev_ishr dL_act_743 ?_
    refine ev_iconst (nI 2) dL_act_744 rfl ?_
    refine ev_cSP2 dL_act_745 cal_L_at lk_8_20 ⟨(Nat.le_of_ble_eq_true rfl), (Nat.le_of_ble_eq_true rfl)⟩ rfl (Nat.le_of_ble_eq_true rfl) (by omega) (by omega) (c_at _ 2 (by decide) (by decide)) ?_
    refine ev_if_neN 829 dL_act_748 rfl (by omega) (fun hc748 => ?_) (fun hc748 => ?_)
    · refine ev_iload dL_act_829 rfl ?_
      refine ev_bipush (nI 10) dL_act_831 rfl ?_
      refine ev_icmp_neN 911 dL_act_833 rfl (by omega) (by omega) (fun hc833 => ?_) (fun hc833 => ?_)
      · first | omega | exact absurd hc833 (by decide) | exact absurd rfl hc833 | exact hc833 rfl | exact absurd hc833 (by assumption) | exact absurd (by assumption) hc833
      · refine ev_iload_n dL_act_836 rfl rfl ?_
        refine ev_iconst (nI 3) dL_act_837 rfl ?_
        refine ev_ishr dL_act_838 ?_
        refine ev_iconst (nI 2) dL_act_839 rfl ?_
        refine ev_cSP2 dL_act_840 cal_L_at lk_8_20 ⟨(Nat.le_of_ble_eq_true rfl), (Nat.le_of_ble_eq_true rfl)⟩ rfl (Nat.le_of_ble_eq_true rfl) (by omega) (by omega) (c_at _ 2 (by decide) (by decide)) ?_
        refine ev_if_neN 911 dL_act_843 rfl (by omega) (fun hc843 => ?_) (fun hc843 => ?_)
        · first | omega | exact absurd hc843 (by decide) | exact absurd rfl hc843 | exact hc843 rfl | exact absurd hc843 (by assumption) | exact absurd (by assumption) hc843
        · refine ev_iconst (nI 0) dL_act_846 rfl ?_
          refine ev_istore (L' := [_, _, _, _, _, _, _, _, _, _, _, _, _, _, _, _, _, _]) dL_act_847 (Nat.le_of_ble_eq_true rfl) rfl ?_
          refine ev_pc (pc' := 849) rfl ?_
          have LP849 : ∀ (mz : Nat) (k : Nat) (h1 : mH) (q2 : Nat → Nat), 60 - k = mz → (k ≤ 60) → (ClsN h1 A) → (LawN h1 g1 gs ge gl gc q2 go) → (∀ j, j < 60 → q2 j = if j < k ∧ isU (tS (aT A)) j = true then 0 else gq j) → Ev X m_L_act (some (N + 1), some (N + 1), 1, 16, 6, 184) 849 [.ref 0, .int x, .int y, .ref 270, .ref 271, .ref 272, .ref 273, .ref 274, .ref 275, .ref 276, .int (nI a), .int (nI t), .ref N, .int (nI 0), .int (nI (ctN (isU (tS (aT A))) k)), .int (nI k), jk, jk] [] h1 (fun (o : mO) (h1 : mH) => o = .inl (some (.int (nI 1))) ∧ PW h1) := by
            intro mz
            induction mz using Nat.strongRecOn with
            | _ mz ih =>
              intro k h1 q2 hmz hk hA4 hl4 hq2
              obtain ⟨k0, k1, k2, k3, k4, k5, k6⟩ := id hl4
              have hob := hA4.1
              have hqk : k < 60 → q2 k = gq k := fun z => by rw [hq2 k z, if_neg (fun w => Nat.lt_irrefl _ w.1)]
              have hqk16 : k < 60 → gq k ≤ 16 := fun z => Jr.2.2.2.1.le z
              refine ev_iload dL_act_849 rfl ?_
              refine ev_bipush (nI 60) dL_act_851 rfl ?_
              refine ev_icmp_geN 887 dL_act_853 rfl (by first | omega | (have := hqk (by omega); have := hqk16 (by omega); omega)) (by first | omega | (have := hqk (by omega); have := hqk16 (by omega); omega)) (fun hc853 => ?_) (fun hc853 => ?_)
              · refine ev_pc (pc' := 887) rfl ?_
                have ek : k = 60 := by omega
                subst ek
                refine ev_fgt 15 (L' := [_, _, _, _, _, _, _, _, _, _, _, _, _, _, _, _, _, _]) rfl ?_
                refine ev_aload_n dL_act_887 rfl rfl ?_
                refine ev_bipush (nI 11) dL_act_888 rfl ?_
                refine ev_dup2 dL_act_890 rfl rfl ?_
                first | refine ev_ialoadF dL_act_891 (hob) (by omega) (by decide) ?_ | refine ev_ialoadF dL_act_891 (k0) (by omega) (by decide) ?_
                refine ev_iload dL_act_892 rfl ?_
                refine ev_iaddN dL_act_894 ?_
                first | refine ev_iastoreF dL_act_895 (hob) (by omega) (by decide) ?_ | refine ev_iastoreF dL_act_895 (k0) (by omega) (by decide) ?_
                refine ev_aload_n dL_act_896 rfl rfl ?_
                first | refine ev_cVU0 dL_act_897 cal_X6_sweep lk_8_60 ⟨(Nat.le_of_ble_eq_true rfl), (Nat.le_of_ble_eq_true rfl)⟩ rfl (mset_s _ _ _) (Nat.le_of_ble_eq_true rfl) (by omega) (by omega) (c_sweep (X := X) (hA4.go (a := 270) (n := 1) (Out.set (by omega) (by omega)) (by omega)) JT.B) (fun v h897 hq897 => ?_) | refine ev_cVU0 dL_act_897 cal_X6_sweep lk_8_60 ⟨(Nat.le_of_ble_eq_true rfl), (Nat.le_of_ble_eq_true rfl)⟩ rfl ((mset_n (by omega)).trans (hob)) (Nat.le_of_ble_eq_true rfl) (by omega) (by omega) (c_sweep (X := X) (hA4.go (a := 270) (n := 1) (Out.set (by omega) (by omega)) (by omega)) JT.B) (fun v h897 hq897 => ?_) | refine ev_cVU0 dL_act_897 cal_X6_sweep lk_8_60 ⟨(Nat.le_of_ble_eq_true rfl), (Nat.le_of_ble_eq_true rfl)⟩ rfl ((mset_n (by omega)).trans (k0)) (Nat.le_of_ble_eq_true rfl) (by omega) (by omega) (c_sweep (X := X) (hA4.go (a := 270) (n := 1) (Out.set (by omega) (by omega)) (by omega)) JT.B) (fun v h897 hq897 => ?_)
                refine ev_pc (pc' := 900) rfl ?_
                obtain ⟨rfl, hA5, o5⟩ := hq897
                rw [show ctN (rmS (tS (aT A)) (rawK 0 (fun _ => 0))) 60 = ctN (isU (tS (aT A))) 60 from ctN_congr (fun j _ => Bool.and_true _)]
                have hct60 := ctN_le (isU (tS (aT A))) 60
                refine ev_iload dL_act_900 rfl ?_
                refine ev_icmp_neN 909 dL_act_902 rfl (by omega) (by omega) (fun hc902 => ?_) (fun hc902 => ?_)
                · first | omega | exact absurd hc902 (by decide) | exact absurd rfl hc902 | exact hc902 rfl | exact absurd hc902 (by assumption) | exact absurd (by assumption) hc902
                · refine ev_iconst (nI 1) dL_act_905 rfl ?_
                  refine ev_goto 910 dL_act_906 rfl ?_
                  refine ev_zreturn dL_act_910 rfl (by first | rfl | exact bI_nar _) (Or.inl rfl) (by omega) (by omega) ?_
                  refine ⟨rfl, _, _, _, _, _, _, _, _, JW.chg2 (A := A) JI JB (A1 := (swpT (aT A), hisA A, (aB A, aD A))) (swpT_all JT).1 (hl4.s0 _) (swp_rel (q2 := q2) Jr3 JT (fun j hj => ?_)) (by rw [upN_n (by omega), e1, J9]) hA5 o5⟩
                  rw [hq2 j hj]
                  by_cases w : isU (tS (aT A)) j = true
                  · rw [if_pos ⟨hj, w⟩, if_pos w]
                  · rw [if_neg (fun z => w z.2), if_neg w]
              · refine ev_aload dL_act_856 rfl ?_
                refine ev_iload dL_act_858 rfl ?_
                first | refine ev_ialoadF dL_act_860 (hob) (by omega) (by decide) ?_ | refine ev_ialoadF dL_act_860 (k5) (by omega) (by decide) ?_ | refine ev_ialoadF dL_act_860 (k6) (by omega) (by decide) ?_
                refine ev_if_leN 881 dL_act_861 rfl (by first | omega | (have := hqk (by omega); have := hqk16 (by omega); omega)) (fun hc861 => ?_) (fun hc861 => ?_)
                · refine ev_pc (pc' := 881) rfl ?_
                  refine ev_iincN (L' := [_, _, _, _, _, _, _, _, _, _, _, _, _, _, _, _, _, _]) 1 dL_act_881 rfl rfl ?_
                  refine ev_goto 849 dL_act_884 rfl ?_
                  refine ev_pc (pc' := 849) rfl ?_
                  have h0 : sR (tS (aT A)) k = 0 := Classical.byContradiction (fun z => (Jr.2.2.2.1.pos (by omega)).mpr z (by have := hqk (by omega); omega))
                  have hn : isU (tS (aT A)) k = false := by rw [isU, h0]; rfl
                  have E := ih (60 - (k + 1)) (by omega) (k + 1) _ _ rfl (by omega) hA4 hl4 (fun j hj => by
                    rw [hq2 j hj]
                    by_cases e : j = k
                    · rw [e, if_neg (fun z => Nat.lt_irrefl _ z.1), if_neg (fun z => by rw [hn] at z; cases z.2)]
                    · exact ite_u e)
                  rw [ctN_n hn] at E
                  exact E
                · refine ev_pc (pc' := 864) rfl ?_
                  have hz : sR (tS (aT A)) k ≠ 0 := (Jr.2.2.2.1.pos (by omega)).mp (by have := hqk (by omega); omega)
                  have hx := ((Jr.2.2.2.1 k (by omega)).2 hz).2
                  have ho200 : go k ≤ 200 := by rw [hx]; exact (JT.B k (by omega) hz).2
                  refine ev_aload dL_act_864 rfl ?_
                  refine ev_iload dL_act_866 rfl ?_
                  first | refine ev_ialoadF dL_act_868 (k5) (by omega) (by decide) ?_ | refine ev_ialoadF dL_act_868 (k6) (by omega) (by decide) ?_
                  refine ev_if_neN 881 dL_act_869 rfl (by omega) (fun hc869 => ?_) (fun hc869 => ?_)
                  · refine ev_pc (pc' := 881) rfl ?_
                    refine ev_iincN (L' := [_, _, _, _, _, _, _, _, _, _, _, _, _, _, _, _, _, _]) 1 dL_act_881 rfl rfl ?_
                    refine ev_goto 849 dL_act_884 rfl ?_
                    refine ev_pc (pc' := 849) rfl ?_
                    have hn : isU (tS (aT A)) k = false := by rw [isU, ← hx, show (go k == 0) = false from beq_eq_false_iff_ne.mpr hc869, Bool.and_false]
                    have E := ih (60 - (k + 1)) (by omega) (k + 1) _ _ rfl (by omega) hA4 hl4 (fun j hj => by
                      rw [hq2 j hj]
                      by_cases e : j = k
                      · rw [e, if_neg (fun z => Nat.lt_irrefl _ z.1), if_neg (fun z => by rw [hn] at z; cases z.2)]
                      · exact ite_u e)
                    rw [ctN_n hn] at E
                    exact E
                  · refine ev_pc (pc' := 872) rfl ?_
                    have hy2 : isU (tS (aT A)) k = true := by
                      have h9 : (sR (tS (aT A)) k == 0) = false := by rw [ieq]; exact decide_eq_false hz
                      rw [isU, h9, ← hx, hc869]
                      rfl
                    refine ev_aload dL_act_872 rfl ?_
                    refine ev_iload dL_act_874 rfl ?_
                    refine ev_iconst (nI 0) dL_act_876 rfl ?_
                    first | refine ev_iastoreF dL_act_877 (k5) (by omega) (by decide) ?_ | refine ev_iastoreF dL_act_877 (k6) (by omega) (by decide) ?_
                    refine ev_iincN (L' := [_, _, _, _, _, _, _, _, _, _, _, _, _, _, _, _, _, _]) 1 dL_act_878 rfl rfl ?_
                    refine ev_iincN (L' := [_, _, _, _, _, _, _, _, _, _, _, _, _, _, _, _, _, _]) 1 dL_act_881 rfl rfl ?_
                    refine ev_goto 849 dL_act_884 rfl ?_
                    refine ev_pc (pc' := 849) rfl ?_
                    have E := ih (60 - (k + 1)) (by omega) (k + 1) (mset h1 275 (aI 60 (nf (upN q2 k 0)))) (upN q2 k 0) rfl (by omega) (hA4.go (a := 275) (n := 1) (Out.set (by omega) (by omega)) (by omega)) (hl4.s5 _) (fun j hj => by
                      by_cases e : j = k
                      · rw [e, upN_s, if_pos ⟨Nat.lt_succ_self k, hy2⟩]
                      · rw [upN_n e, hq2 j hj]; exact ite_u e)
                    rw [ctN_y hy2] at E
                    exact E
          exact LP849 _ 0 h3 gq rfl (Nat.zero_le _) hA3 hl3 (fun j _ => (if_neg (fun z => Nat.not_lt_zero _ z.1)).symm)
    · first | omega | exact absurd hc748 (by decide) | exact absurd rfl hc748 | exact hc748 rfl | exact absurd hc748 (by assumption) | exact absurd (by assumption) hc748
set_option maxHeartbeats 4000000 in
set_option maxRecDepth 100000 in
theorem act_set {X : mX} (hR : RO X) {h : mH} {A : mAs} {gn gs ge gl : Nat → Nat} {gc : Nat → Int64} {gq go : Nat → Nat} (J : JW h A gn gs ge gl gc gq go) {N a t : Nat} (hN : 277 ≤ N) (hN2 : N + 7 < 1000000) (x y : Int32) (ha : a = 10 → atN (y >>> (nI 2 &&& 31)) 2 ≠ 0 ∧ atN (y >>> (nI 3 &&& 31)) 2 ≠ 0) (ha14 : a < 14) (ht : t < 4) : Ev X m_L_act (some (N + 1), some (N + 1), 1, 16, 6, 184) 717 [.ref 0, .int x, .int y, .ref 270, .ref 271, .ref 272, .ref 273, .ref 274, .ref 275, .ref 276, .int (nI a), .int (nI t), .ref N, .int (nI 0), .int (nI 0), jk, jk, jk] [] (mset h N (aI 16 (nf (fun _ => 0)))) (fun (o : mO) (h1 : mH) => o = .inl (some (.int (nI 1))) ∧ PW h1) := by
  obtain ⟨JC, JI, JB, Jl, Jr, J9⟩ := J
  have JT := JI.1
  have J6 := JI.2.2.1
  have oN : Out h (mset h N (aI 16 (nf (fun _ => 0)))) N 1 := Out.set (by omega) (by omega)
  have JC0 := JC.go oN (by omega)
  have Jl0 := Jl.go oN (Or.inl hN)
  obtain ⟨hgt, h16t, hplt⟩ := Jr.2.2.2.2 t ht
  refine act_n9_717 Jl0.1 (by rw [J9]; exact J6) rfl (fun h3 g1 e1 e2 k0' o3 => ?_)
  have hl3 := Jl0.up0 o3 k0'
  have hA3 := JC0.go o3 (Nat.le_refl _)
  have Jr3 := Jr.n9 e2
  have hg1t : g1 t = gn t := e2 t (by omega)
  have y2 := atN_lt (y >>> (nI 2 &&& 31)) (n := 2) (by decide)
  have y3 := atN_lt (y >>> (nI 3 &&& 31)) (n := 2) (by decide)
  have hk := atN_lt y (n := 5) (by decide)
  have ST : Ev X m_L_act (some (N + 1), some (N + 1), 1, 16, 6, 184) 911 [.ref 0, .int x, .int y, .ref 270, .ref 271, .ref 272, .ref 273, .ref 274, .ref 275, .ref 276, .int (nI a), .int (nI t), .ref N, .int (nI 0), .int (nI 0), jk, jk, jk] [] h3 (fun (o : mO) (h1 : mH) => o = .inl (some (.int (nI 1))) ∧ PW h1) := by
    refine ev_iload_n dL_act_911 rfl rfl ?_
    refine ev_iconst (nI 5) dL_act_912 rfl ?_
    refine ev_cSP2 dL_act_913 cal_L_at lk_8_20 ⟨(Nat.le_of_ble_eq_true rfl), (Nat.le_of_ble_eq_true rfl)⟩ rfl (Nat.le_of_ble_eq_true rfl) (by omega) (by omega) (c_at _ 5 (by decide) (by decide)) ?_
    refine ev_pc (pc' := 916) rfl ?_
    generalize atN y 5 = k at *
    have k0 := k0'
    have b9 := atN_lt (y >>> (nI 3 &&& 31)) (n := 9) (by decide)
    have b3 := atN_lt (y >>> (nI 3 &&& 31)) (n := 3) (by decide)
    have b6 := atN_lt (y >>> (nI 3 &&& 31)) (n := 6) (by decide)
    have hob := hA3.1
    refine ev_istore (L' := [_, _, _, _, _, _, _, _, _, _, _, _, _, _, _, _, _, _]) dL_act_916 (Nat.le_of_ble_eq_true rfl) rfl ?_
    refine ev_aload_n dL_act_918 rfl rfl ?_
    refine ev_iconst (nI 4) dL_act_919 rfl ?_
    refine ev_iload dL_act_920 rfl ?_
    refine ev_iaddN dL_act_922 ?_
    first | refine ev_ialoadF dL_act_923 (hob) (by omega) (by decide) ?_ | refine ev_ialoadF dL_act_923 (k0) (by omega) (by decide) ?_
    rw [show g1 (4 + k) = tV (aT A) k from (e2 _ (by omega)).trans (Jr.1 k hk)]
    refine ev_istore (L' := [_, _, _, _, _, _, _, _, _, _, _, _, _, _, _, _, _, _]) dL_act_924 (Nat.le_of_ble_eq_true rfl) rfl ?_
    refine ev_aload_n dL_act_926 rfl rfl ?_
    refine ev_iconst (nI 4) dL_act_927 rfl ?_
    refine ev_iload dL_act_928 rfl ?_
    refine ev_iaddN dL_act_930 ?_
    refine ev_iload dL_act_931 rfl ?_
    refine ev_iconst (nI 1) dL_act_933 rfl ?_
    refine ev_icmp_neN 950 dL_act_934 rfl (by omega) (by omega) (fun hc934 => ?_) (fun hc934 => ?_)
    · refine ev_iload dL_act_950 rfl ?_
      refine ev_iconst (nI 2) dL_act_952 rfl ?_
      refine ev_icmp_neN 966 dL_act_953 rfl (by omega) (by omega) (fun hc953 => ?_) (fun hc953 => ?_)
      · refine ev_iload dL_act_966 rfl ?_
        refine ev_iconst (nI 4) dL_act_968 rfl ?_
        refine ev_icmp_neN 986 dL_act_969 rfl (by omega) (by omega) (fun hc969 => ?_) (fun hc969 => ?_)
        · refine ev_iconst (nI 1) dL_act_986 rfl ?_
          refine ev_iload_n dL_act_987 rfl rfl ?_
          refine ev_iconst (nI 3) dL_act_988 rfl ?_
          refine ev_ishr dL_act_989 ?_
          refine ev_bipush (nI 6) dL_act_990 rfl ?_
          refine ev_cSP2 dL_act_992 cal_L_at lk_8_20 ⟨(Nat.le_of_ble_eq_true rfl), (Nat.le_of_ble_eq_true rfl)⟩ rfl (Nat.le_of_ble_eq_true rfl) (by omega) (by omega) (c_at _ 6 (by decide) (by decide)) ?_
          refine ev_iaddN dL_act_995 ?_
          first | refine ev_iastoreF dL_act_996 (hob) (by omega) (by decide) ?_ | refine ev_iastoreF dL_act_996 (k0) (by omega) (by decide) ?_
          refine ev_aload_n dL_act_997 rfl rfl ?_
          refine ev_iload dL_act_998 rfl ?_
          refine ev_aload_n dL_act_1000 rfl rfl ?_
          refine ev_iconst (nI 4) dL_act_1001 rfl ?_
          refine ev_iload dL_act_1002 rfl ?_
          refine ev_iaddN dL_act_1004 ?_
          first | refine ev_ialoadF dL_act_1005 (mset_s _ _ _) (by omega) (by decide) ?_ | refine ev_ialoadF dL_act_1005 ((mset_n (by omega)).trans (hob)) (by omega) (by decide) ?_ | refine ev_ialoadF dL_act_1005 ((mset_n (by omega)).trans (k0)) (by omega) (by decide) ?_
          rw [upN_s]
          first | refine ev_cVU2 dL_act_1006 cal_X6_set lk_8_63 ⟨(Nat.le_of_ble_eq_true rfl), (Nat.le_of_ble_eq_true rfl)⟩ rfl (mset_s _ _ _) (Nat.le_of_ble_eq_true rfl) (by omega) (by omega) (c_set (X := X) (hA3.go (a := 270) (n := 1) (Out.set (by omega) (by omega)) (by omega)) hR k _ hk (set_bd hk (by omega)).1 (set_bd hk (by omega)).2) (fun v h1006 hq1006 => ?_) | refine ev_cVU2 dL_act_1006 cal_X6_set lk_8_63 ⟨(Nat.le_of_ble_eq_true rfl), (Nat.le_of_ble_eq_true rfl)⟩ rfl ((mset_n (by omega)).trans (hob)) (Nat.le_of_ble_eq_true rfl) (by omega) (by omega) (c_set (X := X) (hA3.go (a := 270) (n := 1) (Out.set (by omega) (by omega)) (by omega)) hR k _ hk (set_bd hk (by omega)).1 (set_bd hk (by omega)).2) (fun v h1006 hq1006 => ?_) | refine ev_cVU2 dL_act_1006 cal_X6_set lk_8_63 ⟨(Nat.le_of_ble_eq_true rfl), (Nat.le_of_ble_eq_true rfl)⟩ rfl ((mset_n (by omega)).trans (k0)) (Nat.le_of_ble_eq_true rfl) (by omega) (by omega) (c_set (X := X) (hA3.go (a := 270) (n := 1) (Out.set (by omega) (by omega)) (by omega)) hR k _ hk (set_bd hk (by omega)).1 (set_bd hk (by omega)).2) (fun v h1006 hq1006 => ?_)
          refine ev_pc (pc' := 1009) rfl ?_
          obtain ⟨rfl, hA5, o5⟩ := hq1006
          refine ev_iload dL_act_1009 rfl ?_
          refine ev_icmp_ne 1018 dL_act_1011 rfl (fun hc1011 => ?_) (fun hc1011 => ?_)
          · first | omega | exact absurd hc1011 (by decide) | exact absurd rfl hc1011 | exact hc1011 rfl | exact absurd hc1011 (by assumption) | exact absurd (by assumption) hc1011
          · refine ev_iconst (nI 1) dL_act_1014 rfl ?_
            refine ev_goto 1019 dL_act_1015 rfl ?_
            refine ev_zreturn dL_act_1019 rfl (by first | rfl | exact bI_nar _) (Or.inl rfl) (by omega) (by omega) ?_
            refine ⟨rfl, _, _, _, _, _, _, _, _, JW.chg2 (A := A) JI JB (A1 := (setT (aT A) k _, hisA A, (aB A, aD A))) (setT_all JT hk (set_bd hk (by omega)).1 (set_bd hk (by omega)).2) (hl3.s0 _) (set_rel Jr3 hk) (by rw [upN_n (by omega), e1, J9]) hA5 o5⟩
        · refine ev_bipush (nI 6) dL_act_972 rfl ?_
          refine ev_iload_n dL_act_974 rfl rfl ?_
          refine ev_iconst (nI 3) dL_act_975 rfl ?_
          refine ev_ishr dL_act_976 ?_
          refine ev_bipush (nI 6) dL_act_977 rfl ?_
          refine ev_cSP2 dL_act_979 cal_L_at lk_8_20 ⟨(Nat.le_of_ble_eq_true rfl), (Nat.le_of_ble_eq_true rfl)⟩ rfl (Nat.le_of_ble_eq_true rfl) (by omega) (by omega) (c_at _ 6 (by decide) (by decide)) ?_
          refine ev_iaddN dL_act_982 ?_
          refine ev_goto 996 dL_act_983 rfl ?_
          first | refine ev_iastoreF dL_act_996 (hob) (by omega) (by decide) ?_ | refine ev_iastoreF dL_act_996 (k0) (by omega) (by decide) ?_
          refine ev_aload_n dL_act_997 rfl rfl ?_
          refine ev_iload dL_act_998 rfl ?_
          refine ev_aload_n dL_act_1000 rfl rfl ?_
          refine ev_iconst (nI 4) dL_act_1001 rfl ?_
          refine ev_iload dL_act_1002 rfl ?_
          refine ev_iaddN dL_act_1004 ?_
          first | refine ev_ialoadF dL_act_1005 (mset_s _ _ _) (by omega) (by decide) ?_ | refine ev_ialoadF dL_act_1005 ((mset_n (by omega)).trans (hob)) (by omega) (by decide) ?_ | refine ev_ialoadF dL_act_1005 ((mset_n (by omega)).trans (k0)) (by omega) (by decide) ?_
          rw [upN_s]
          first | refine ev_cVU2 dL_act_1006 cal_X6_set lk_8_63 ⟨(Nat.le_of_ble_eq_true rfl), (Nat.le_of_ble_eq_true rfl)⟩ rfl (mset_s _ _ _) (Nat.le_of_ble_eq_true rfl) (by omega) (by omega) (c_set (X := X) (hA3.go (a := 270) (n := 1) (Out.set (by omega) (by omega)) (by omega)) hR k _ hk (set_bd hk (by omega)).1 (set_bd hk (by omega)).2) (fun v h1006 hq1006 => ?_) | refine ev_cVU2 dL_act_1006 cal_X6_set lk_8_63 ⟨(Nat.le_of_ble_eq_true rfl), (Nat.le_of_ble_eq_true rfl)⟩ rfl ((mset_n (by omega)).trans (hob)) (Nat.le_of_ble_eq_true rfl) (by omega) (by omega) (c_set (X := X) (hA3.go (a := 270) (n := 1) (Out.set (by omega) (by omega)) (by omega)) hR k _ hk (set_bd hk (by omega)).1 (set_bd hk (by omega)).2) (fun v h1006 hq1006 => ?_) | refine ev_cVU2 dL_act_1006 cal_X6_set lk_8_63 ⟨(Nat.le_of_ble_eq_true rfl), (Nat.le_of_ble_eq_true rfl)⟩ rfl ((mset_n (by omega)).trans (k0)) (Nat.le_of_ble_eq_true rfl) (by omega) (by omega) (c_set (X := X) (hA3.go (a := 270) (n := 1) (Out.set (by omega) (by omega)) (by omega)) hR k _ hk (set_bd hk (by omega)).1 (set_bd hk (by omega)).2) (fun v h1006 hq1006 => ?_)
          refine ev_pc (pc' := 1009) rfl ?_
          obtain ⟨rfl, hA5, o5⟩ := hq1006
          refine ev_iload dL_act_1009 rfl ?_
          refine ev_icmp_ne 1018 dL_act_1011 rfl (fun hc1011 => ?_) (fun hc1011 => ?_)
          · first | omega | exact absurd hc1011 (by decide) | exact absurd rfl hc1011 | exact hc1011 rfl | exact absurd hc1011 (by assumption) | exact absurd (by assumption) hc1011
          · refine ev_iconst (nI 1) dL_act_1014 rfl ?_
            refine ev_goto 1019 dL_act_1015 rfl ?_
            refine ev_zreturn dL_act_1019 rfl (by first | rfl | exact bI_nar _) (Or.inl rfl) (by omega) (by omega) ?_
            refine ⟨rfl, _, _, _, _, _, _, _, _, JW.chg2 (A := A) JI JB (A1 := (setT (aT A) k _, hisA A, (aB A, aD A))) (setT_all JT hk (set_bd hk (by omega)).1 (set_bd hk (by omega)).2) (hl3.s0 _) (set_rel Jr3 hk) (by rw [upN_n (by omega), e1, J9]) hA5 o5⟩
      · refine ev_iload_n dL_act_956 rfl rfl ?_
        refine ev_iconst (nI 3) dL_act_957 rfl ?_
        refine ev_ishr dL_act_958 ?_
        refine ev_iconst (nI 3) dL_act_959 rfl ?_
        refine ev_cSP2 dL_act_960 cal_L_at lk_8_20 ⟨(Nat.le_of_ble_eq_true rfl), (Nat.le_of_ble_eq_true rfl)⟩ rfl (Nat.le_of_ble_eq_true rfl) (by omega) (by omega) (c_at _ 3 (by decide) (by decide)) ?_
        refine ev_goto 996 dL_act_963 rfl ?_
        first | refine ev_iastoreF dL_act_996 (hob) (by omega) (by decide) ?_ | refine ev_iastoreF dL_act_996 (k0) (by omega) (by decide) ?_
        refine ev_aload_n dL_act_997 rfl rfl ?_
        refine ev_iload dL_act_998 rfl ?_
        refine ev_aload_n dL_act_1000 rfl rfl ?_
        refine ev_iconst (nI 4) dL_act_1001 rfl ?_
        refine ev_iload dL_act_1002 rfl ?_
        refine ev_iaddN dL_act_1004 ?_
        first | refine ev_ialoadF dL_act_1005 (mset_s _ _ _) (by omega) (by decide) ?_ | refine ev_ialoadF dL_act_1005 ((mset_n (by omega)).trans (hob)) (by omega) (by decide) ?_ | refine ev_ialoadF dL_act_1005 ((mset_n (by omega)).trans (k0)) (by omega) (by decide) ?_
        rw [upN_s]
        first | refine ev_cVU2 dL_act_1006 cal_X6_set lk_8_63 ⟨(Nat.le_of_ble_eq_true rfl), (Nat.le_of_ble_eq_true rfl)⟩ rfl (mset_s _ _ _) (Nat.le_of_ble_eq_true rfl) (by omega) (by omega) (c_set (X := X) (hA3.go (a := 270) (n := 1) (Out.set (by omega) (by omega)) (by omega)) hR k _ hk (set_bd hk (by omega)).1 (set_bd hk (by omega)).2) (fun v h1006 hq1006 => ?_) | refine ev_cVU2 dL_act_1006 cal_X6_set lk_8_63 ⟨(Nat.le_of_ble_eq_true rfl), (Nat.le_of_ble_eq_true rfl)⟩ rfl ((mset_n (by omega)).trans (hob)) (Nat.le_of_ble_eq_true rfl) (by omega) (by omega) (c_set (X := X) (hA3.go (a := 270) (n := 1) (Out.set (by omega) (by omega)) (by omega)) hR k _ hk (set_bd hk (by omega)).1 (set_bd hk (by omega)).2) (fun v h1006 hq1006 => ?_) | refine ev_cVU2 dL_act_1006 cal_X6_set lk_8_63 ⟨(Nat.le_of_ble_eq_true rfl), (Nat.le_of_ble_eq_true rfl)⟩ rfl ((mset_n (by omega)).trans (k0)) (Nat.le_of_ble_eq_true rfl) (by omega) (by omega) (c_set (X := X) (hA3.go (a := 270) (n := 1) (Out.set (by omega) (by omega)) (by omega)) hR k _ hk (set_bd hk (by omega)).1 (set_bd hk (by omega)).2) (fun v h1006 hq1006 => ?_)
        refine ev_pc (pc' := 1009) rfl ?_
        obtain ⟨rfl, hA5, o5⟩ := hq1006
        refine ev_iload dL_act_1009 rfl ?_
        refine ev_icmp_ne 1018 dL_act_1011 rfl (fun hc1011 => ?_) (fun hc1011 => ?_)
        · first | omega | exact absurd hc1011 (by decide) | exact absurd rfl hc1011 | exact hc1011 rfl | exact absurd hc1011 (by assumption) | exact absurd (by assumption) hc1011
        · refine ev_iconst (nI 1) dL_act_1014 rfl ?_
          refine ev_goto 1019 dL_act_1015 rfl ?_
          refine ev_zreturn dL_act_1019 rfl (by first | rfl | exact bI_nar _) (Or.inl rfl) (by omega) (by omega) ?_
          refine ⟨rfl, _, _, _, _, _, _, _, _, JW.chg2 (A := A) JI JB (A1 := (setT (aT A) k _, hisA A, (aB A, aD A))) (setT_all JT hk (set_bd hk (by omega)).1 (set_bd hk (by omega)).2) (hl3.s0 _) (set_rel Jr3 hk) (by rw [upN_n (by omega), e1, J9]) hA5 o5⟩
    · refine ev_iconst (nI 1) dL_act_937 rfl ?_
      refine ev_iload_n dL_act_938 rfl rfl ?_
      refine ev_iconst (nI 3) dL_act_939 rfl ?_
      refine ev_ishr dL_act_940 ?_
      refine ev_bipush (nI 9) dL_act_941 rfl ?_
      refine ev_cSP2 dL_act_943 cal_L_at lk_8_20 ⟨(Nat.le_of_ble_eq_true rfl), (Nat.le_of_ble_eq_true rfl)⟩ rfl (Nat.le_of_ble_eq_true rfl) (by omega) (by omega) (c_at _ 9 (by decide) (by decide)) ?_
      refine ev_iaddN dL_act_946 ?_
      refine ev_goto 996 dL_act_947 rfl ?_
      first | refine ev_iastoreF dL_act_996 (hob) (by omega) (by decide) ?_ | refine ev_iastoreF dL_act_996 (k0) (by omega) (by decide) ?_
      refine ev_aload_n dL_act_997 rfl rfl ?_
      refine ev_iload dL_act_998 rfl ?_
      refine ev_aload_n dL_act_1000 rfl rfl ?_
      refine ev_iconst (nI 4) dL_act_1001 rfl ?_
      refine ev_iload dL_act_1002 rfl ?_
      refine ev_iaddN dL_act_1004 ?_
      first | refine ev_ialoadF dL_act_1005 (mset_s _ _ _) (by omega) (by decide) ?_ | refine ev_ialoadF dL_act_1005 ((mset_n (by omega)).trans (hob)) (by omega) (by decide) ?_ | refine ev_ialoadF dL_act_1005 ((mset_n (by omega)).trans (k0)) (by omega) (by decide) ?_
      rw [upN_s]
      first | refine ev_cVU2 dL_act_1006 cal_X6_set lk_8_63 ⟨(Nat.le_of_ble_eq_true rfl), (Nat.le_of_ble_eq_true rfl)⟩ rfl (mset_s _ _ _) (Nat.le_of_ble_eq_true rfl) (by omega) (by omega) (c_set (X := X) (hA3.go (a := 270) (n := 1) (Out.set (by omega) (by omega)) (by omega)) hR k _ hk (set_bd hk (by omega)).1 (set_bd hk (by omega)).2) (fun v h1006 hq1006 => ?_) | refine ev_cVU2 dL_act_1006 cal_X6_set lk_8_63 ⟨(Nat.le_of_ble_eq_true rfl), (Nat.le_of_ble_eq_true rfl)⟩ rfl ((mset_n (by omega)).trans (hob)) (Nat.le_of_ble_eq_true rfl) (by omega) (by omega) (c_set (X := X) (hA3.go (a := 270) (n := 1) (Out.set (by omega) (by omega)) (by omega)) hR k _ hk (set_bd hk (by omega)).1 (set_bd hk (by omega)).2) (fun v h1006 hq1006 => ?_) | refine ev_cVU2 dL_act_1006 cal_X6_set lk_8_63 ⟨(Nat.le_of_ble_eq_true rfl), (Nat.le_of_ble_eq_true rfl)⟩ rfl ((mset_n (by omega)).trans (k0)) (Nat.le_of_ble_eq_true rfl) (by omega) (by omega) (c_set (X := X) (hA3.go (a := 270) (n := 1) (Out.set (by omega) (by omega)) (by omega)) hR k _ hk (set_bd hk (by omega)).1 (set_bd hk (by omega)).2) (fun v h1006 hq1006 => ?_)
      refine ev_pc (pc' := 1009) rfl ?_
      obtain ⟨rfl, hA5, o5⟩ := hq1006
      refine ev_iload dL_act_1009 rfl ?_
      refine ev_icmp_ne 1018 dL_act_1011 rfl (fun hc1011 => ?_) (fun hc1011 => ?_)
      · first | omega | exact absurd hc1011 (by decide) | exact absurd rfl hc1011 | exact hc1011 rfl | exact absurd hc1011 (by assumption) | exact absurd (by assumption) hc1011
      · refine ev_iconst (nI 1) dL_act_1014 rfl ?_
        refine ev_goto 1019 dL_act_1015 rfl ?_
        refine ev_zreturn dL_act_1019 rfl (by first | rfl | exact bI_nar _) (Or.inl rfl) (by omega) (by omega) ?_
        refine ⟨rfl, _, _, _, _, _, _, _, _, JW.chg2 (A := A) JI JB (A1 := (setT (aT A) k _, hisA A, (aB A, aD A))) (setT_all JT hk (set_bd hk (by omega)).1 (set_bd hk (by omega)).2) (hl3.s0 _) (set_rel Jr3 hk) (by rw [upN_n (by omega), e1, J9]) hA5 o5⟩
  refine ev_iload dL_act_734 rfl ?_
  refine ev_bipush (nI 10) dL_act_736 rfl ?_
  refine ev_icmp_neN 829 dL_act_738 rfl (by omega) (by omega) (fun hc738 => ?_) (fun hc738 => ?_)
  · refine ev_iload dL_act_829 rfl ?_
    refine ev_bipush (nI 10) dL_act_831 rfl ?_
    refine ev_icmp_neN 911 dL_act_833 rfl (by omega) (by omega) (fun hc833 => ?_) (fun hc833 => ?_)
    · refine ev_pc (pc' := 911) rfl ?_
      exact ST
    · refine ev_iload_n dL_act_836 rfl rfl ?_
      refine ev_iconst (nI 3) dL_act_837 rfl ?_
      refine ev_ishr dL_act_838 ?_
      refine ev_iconst (nI 2) dL_act_839 rfl ?_
      refine ev_cSP2 dL_act_840 cal_L_at lk_8_20 ⟨(Nat.le_of_ble_eq_true rfl), (Nat.le_of_ble_eq_true rfl)⟩ rfl (Nat.le_of_ble_eq_true rfl) (by omega) (by omega) (c_at _ 2 (by decide) (by decide)) ?_
      refine ev_if_neN 911 dL_act_843 rfl (by omega) (fun hc843 => ?_) (fun hc843 => ?_)
      · refine ev_pc (pc' := 911) rfl ?_
        exact ST
      · first | omega | exact absurd hc843 (by decide) | exact absurd rfl hc843 | exact hc843 rfl | exact absurd hc843 (by assumption) | exact absurd (by assumption) hc843
  · refine ev_iload_n dL_act_741 rfl rfl ?_
    refine ev_iconst (nI 2) dL_act_742 rfl ?_
    refine ev_ishr dL_act_743 ?_
    refine ev_iconst (nI 2) dL_act_744 rfl ?_
    refine ev_cSP2 dL_act_745 cal_L_at lk_8_20 ⟨(Nat.le_of_ble_eq_true rfl), (Nat.le_of_ble_eq_true rfl)⟩ rfl (Nat.le_of_ble_eq_true rfl) (by omega) (by omega) (c_at _ 2 (by decide) (by decide)) ?_
    refine ev_if_neN 829 dL_act_748 rfl (by omega) (fun hc748 => ?_) (fun hc748 => ?_)
    · refine ev_iload dL_act_829 rfl ?_
      refine ev_bipush (nI 10) dL_act_831 rfl ?_
      refine ev_icmp_neN 911 dL_act_833 rfl (by omega) (by omega) (fun hc833 => ?_) (fun hc833 => ?_)
      · refine ev_pc (pc' := 911) rfl ?_
        exact ST
      · refine ev_iload_n dL_act_836 rfl rfl ?_
        refine ev_iconst (nI 3) dL_act_837 rfl ?_
        refine ev_ishr dL_act_838 ?_
        refine ev_iconst (nI 2) dL_act_839 rfl ?_
        refine ev_cSP2 dL_act_840 cal_L_at lk_8_20 ⟨(Nat.le_of_ble_eq_true rfl), (Nat.le_of_ble_eq_true rfl)⟩ rfl (Nat.le_of_ble_eq_true rfl) (by omega) (by omega) (c_at _ 2 (by decide) (by decide)) ?_
        refine ev_if_neN 911 dL_act_843 rfl (by omega) (fun hc843 => ?_) (fun hc843 => ?_)
        · refine ev_pc (pc' := 911) rfl ?_
          exact ST
        · first | omega | exact absurd hc843 (by decide) | exact absurd rfl hc843 | exact hc843 rfl | exact absurd hc843 (by assumption) | exact absurd (by assumption) hc843
    · first | omega | exact absurd hc748 (by decide) | exact absurd rfl hc748 | exact hc748 rfl | exact absurd hc748 (by assumption) | exact absurd (by assumption) hc748
