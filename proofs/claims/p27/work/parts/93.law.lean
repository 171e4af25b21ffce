set_option maxHeartbeats 4000000 in
set_option maxRecDepth 100000 in
theorem c_act {X : mX} (hR : RO X) {h : mH} {A : mAs} {gn gs ge gl : Nat → Nat} {gc : Nat → Int64} {gq go : Nat → Nat} (J : JW h A gn gs ge gl gc gq go) {N : Nat} (hN : 277 ≤ N) (hN2 : N + 7 < 1000000) (x y : Int32) : ∃ d, (1 ≤ d ∧ d ≤ 6) ∧ Cn X m_L_act (some N) (some (N + d)) 6 184 [.ref 0, .int x, .int y, .ref 270, .ref 271, .ref 272, .ref 273, .ref 274, .ref 275, .ref 276] h (fun (o : mO) (h1 : mH) => o = .inl (some (.int (nI 1))) ∧ PW h1) := by
  have ha14 := atN_lt (x >>> (nI 20 &&& 31)) (n := 14) (by decide)
  have ht := atN_lt y (n := 4) (by decide)
  have hs : ∀ d, (∀ (h2 : mH), h2 = mset h N (aI 16 (nf (fun _ => 0))) → Ev X m_L_act (some (N + 1), some (N + d), 1, 16, 6, 184) 30 [.ref 0, .int x, .int y, .ref 270, .ref 271, .ref 272, .ref 273, .ref 274, .ref 275, .ref 276, .int (nI (atN (x >>> (nI 20 &&& 31)) 14)), .int (nI (atN y 4)), .ref N, .int (nI 0), .int (nI 0), jk, jk, jk] [] h2 (fun (o : mO) (h1 : mH) => o = .inl (some (.int (nI 1))) ∧ PW h1)) → Cn X m_L_act (some N) (some (N + d)) 6 184 [.ref 0, .int x, .int y, .ref 270, .ref 271, .ref 272, .ref 273, .ref 274, .ref 275, .ref 276] h (fun (o : mO) (h1 : mH) => o = .inl (some (.int (nI 1))) ∧ PW h1) := fun d k => by
    refine cn_of_ev (L0 := [_, _, _, _, _, _, _, _, _, _, _, _, _, _, _, _, _, _]) (by decide +kernel) rfl rfl (Nat.le_of_ble_eq_true rfl) rfl ?_
    exact act_pre hN hN2 (k _ rfl)
  obtain ⟨JC, JI, JB, Jl, Jr, J9⟩ := id J
  have hJl := (Jl.go (a := N) (n := 1) (h1 := mset h N (aI 16 (nf (fun _ => 0)))) (Out.set (by omega) (by omega)) (Or.inl hN)).1
  generalize atN (x >>> (nI 20 &&& 31)) 14 = a at *
  generalize atN y 4 = t at *
  obtain ⟨hgt, h16t, -⟩ := Jr.2.2.2.2 t ht
  have h16 : gn t ≤ 16 := by omega
  by_cases c1 : a < 6
  · exact ⟨6, by decide, hs 6 (fun h2 e => by subst e; exact act_put J hN hN2 x y c1 ht)⟩
  by_cases c2 : a < 8 ∧ 0 < gn t
  · exact ⟨6, by decide, hs 6 (fun h2 e => by subst e; exact act_take J hN hN2 x y (by omega) c2.1 c2.2 ht)⟩
  by_cases c3 : a = 8
  · exact ⟨6, by decide, hs 6 (fun h2 e => by subst e; exact act_copy J hN hN2 x y c3 ht)⟩
  by_cases c4 : a = 9 ∧ 0 < gn t
  · exact ⟨6, by decide, hs 6 (fun h2 e => by subst e; exact act_rot J hN hN2 x y c4.1 c4.2 ht)⟩
  refine ⟨1, by decide, hs 1 (fun h2 e => ?_)⟩
  subst e
  refine act_717 hJl x y ht h16 (by omega) ha14 (fun z => by omega) c3 (fun z => by omega) ?_
  by_cases c5 : a = 10 ∧ atN (y >>> (nI 2 &&& 31)) 2 = 0
  · exact act_drop J hN hN2 x y c5.1 c5.2 ht
  by_cases c6 : a = 10 ∧ atN (y >>> (nI 3 &&& 31)) 2 = 0
  · exact act_sweep J hN hN2 x y c6.1 (fun z => c5 ⟨c6.1, z⟩) c6.2 ht
  · exact act_set hR J hN hN2 x y (fun z => ⟨fun w => c5 ⟨z, w⟩, fun w => c6 ⟨z, w⟩⟩) ha14 ht
set_option maxHeartbeats 4000000 in
set_option maxRecDepth 100000 in
theorem law_loop {X : mX} (hR : RO X) {L : Nat} {xs : Nat → Int32} (hsc : xro X (1000000 + 3) = some (L, xs)) (hL : L ≤ 260) : ∀ (mz k N : Nat) (h : mH), 50 - k = mz → k ≤ 50 → PW h → 277 ≤ N → N ≤ 277 + 6 * k → Ev X m_L_law (some N, none, 277 + 6 * k, 9042 + 184 * k, 600130, 7301080) 70 [.ref (1000000 + 3), .ref 0, .ref 270, .ref 271, .ref 272, .ref 273, .ref 274, .ref 275, .ref 276, .int (nI k)] [] h (fun o (_ : mH) => o = .inl (some (.int (nI 1)))) := by
  intro mz
  induction mz using Nat.strongRecOn with
  | _ mz ih =>
    intro k N h hmz hk J hN hN2
    obtain ⟨A, gn, gs, ge, gl, gc, gq, go, J⟩ := J
    obtain ⟨x, hx⟩ := c_cell (X := X) (h := h) hsc hL (2 * k) (by omega)
    obtain ⟨y, hy⟩ := c_cell (X := X) (h := h) hsc hL (2 * k + 1) (by omega)
    obtain ⟨d, hd, hact⟩ := c_act hR J (N := N) hN (by omega) x y
    refine ev_iload dL_law_70 rfl ?_
    refine ev_bipush (nI 50) dL_law_72 rfl ?_
    refine ev_icmp_geN 139 dL_law_74 rfl (by omega) (by omega) (fun hc74 => ?_) (fun hc74 => ?_)
    · refine ev_pc (pc' := 139) rfl ?_
      refine ev_iconst (nI 1) dL_law_139 rfl ?_
      exact ev_zreturn dL_law_140 rfl rfl (Or.inr rfl) (by omega) (by omega) rfl
    · refine ev_aload_n dL_law_77 rfl rfl ?_
      refine ev_aload_n dL_law_78 rfl rfl ?_
      refine ev_iconst (nI 2) dL_law_79 rfl ?_
      refine ev_iload dL_law_80 rfl ?_
      refine ev_imulN dL_law_82 ?_
      refine ev_cSP2 dL_law_83 cal_L_cell lk_8_78 ⟨(Nat.le_of_ble_eq_true rfl), (Nat.le_of_ble_eq_true rfl)⟩ rfl (Nat.le_of_ble_eq_true rfl) (by omega) (by omega) (hx) ?_
      refine ev_aload_n dL_law_86 rfl rfl ?_
      refine ev_iconst (nI 2) dL_law_87 rfl ?_
      refine ev_iload dL_law_88 rfl ?_
      refine ev_imulN dL_law_90 ?_
      refine ev_iconst (nI 1) dL_law_91 rfl ?_
      refine ev_iaddN dL_law_92 ?_
      refine ev_cSP2 dL_law_93 cal_L_cell lk_8_78 ⟨(Nat.le_of_ble_eq_true rfl), (Nat.le_of_ble_eq_true rfl)⟩ rfl (Nat.le_of_ble_eq_true rfl) (by omega) (by omega) (hy) ?_
      refine ev_aload_n dL_law_96 rfl rfl ?_
      refine ev_aload_n dL_law_97 rfl rfl ?_
      refine ev_aload dL_law_98 rfl ?_
      refine ev_aload dL_law_100 rfl ?_
      refine ev_aload dL_law_102 rfl ?_
      refine ev_aload dL_law_104 rfl ?_
      refine ev_aload dL_law_106 rfl ?_
      refine ev_pc (pc' := 108) rfl ?_
      refine ev_cSG10 dL_law_108 cal_L_act lk_8_82 ⟨(Nat.le_of_ble_eq_true rfl), (Nat.le_of_ble_eq_true rfl)⟩ rfl (Nat.le_of_ble_eq_true rfl) (by omega) (by omega) hact (fun v h2 q => ?_) (fun k h2 q => by cases q.1)
      obtain ⟨e, A2, n2, s2, e2, l2, c2, q2, o2, J2⟩ := q
      cases e
      refine ev_pc (pc' := 111) rfl ?_
      have hob := J2.1.1
      refine ev_if_eqN 131 dL_law_111 rfl (by omega) (fun hc111 => ?_) (fun hc111 => ?_)
      · first | omega | exact absurd hc111 (by decide) | exact absurd rfl hc111 | exact hc111 rfl | exact absurd hc111 (by assumption) | exact absurd (by assumption) hc111
      · refine ev_aload_n dL_law_114 rfl rfl ?_
        refine ev_aload_n dL_law_115 rfl rfl ?_
        refine ev_aload_n dL_law_116 rfl rfl ?_
        refine ev_aload dL_law_117 rfl ?_
        refine ev_aload dL_law_119 rfl ?_
        refine ev_aload dL_law_121 rfl ?_
        refine ev_aload dL_law_123 rfl ?_
        refine ev_cSP7 dL_law_125 cal_L_agree lk_8_86 ⟨(Nat.le_of_ble_eq_true rfl), (Nat.le_of_ble_eq_true rfl)⟩ rfl (Nat.le_of_ble_eq_true rfl) (by omega) (by omega) ((show CnP X m_L_agree [.ref 0, .ref 270, .ref 271, .ref 272, .ref 273, .ref 275, .ref 276] h2 (some (.int (bI true))) from c_agree J2.2.2.2.1 J2.1 J2.2.1.1 J2.2.2.2.2.1 J2.2.2.2.2.2 J2.2.1.2.2.1)) ?_
        refine ev_if_neB 133 dL_law_128 rfl (fun hc128 => ?_) (fun hc128 => ?_)
        · refine ev_iincN (L' := [_, _, _, _, _, _, _, _, _, _]) 1 dL_law_133 rfl rfl ?_
          refine ev_goto 70 dL_law_136 rfl ?_
          refine ev_pc (pc' := 70) rfl ?_
          have E := ih (50 - (k + 1)) (by omega) (k + 1) (N + d) h2 rfl (by omega) ⟨A2, n2, s2, e2, l2, c2, q2, o2, J2⟩ (by omega) (by omega)
          rw [show 277 + 6 * (k + 1) = 277 + 6 * k + 6 by omega, show 9042 + 184 * (k + 1) = 9042 + 184 * k + 184 by omega] at E
          exact E
        · first | omega | exact absurd hc128 (by decide) | exact absurd rfl hc128 | exact hc128 rfl | exact absurd hc128 (by assumption) | exact absurd (by assumption) hc128
abbrev gn0 : Nat → Nat := (upN (upN (upN (upN (fun _ => 0) 4 3) 5 4) 7 2) 8 10)
theorem inv_st0 : InvT st0 := by
  have c0 : ∀ w, cT st0 w = 0 := fun w => smN_zero (fun t ht => rfl)
  refine ⟨by unfold SetV; decide, fun t ht => raw_tile _, fun j k hj hk e n0 => absurd rfl n0, fun k hk n0 => absurd rfl n0, fun k hk n0 => absurd rfl n0, ⟨c0 0, fun w hw => by rw [c0] at hw; omega⟩, ?_⟩
  show szS sto0 ≤ 150
  have : szS sto0 = 0 := smN_zero (fun k hk => rfl)
  omega
theorem rel_st0 : RelT9 gn0 (fun _ => 0) (fun _ => 0) (fun _ => 0) (fun _ => 0) (fun _ => 0) (fun _ => 0) st0 := by
  refine ⟨fun k hk => ?_, rfl, rfl, fun k hk => ⟨fun _ => rfl, fun z => absurd rfl z⟩, fun t ht => ⟨?_, Nat.zero_le _, fun q hq => absurd hq (Nat.not_lt_zero q)⟩⟩
  · obtain rfl | rfl | rfl | rfl | rfl : k = 0 ∨ k = 1 ∨ k = 2 ∨ k = 3 ∨ k = 4 := by omega
    all_goals rfl
  · show (upN (upN (upN (upN (fun _ => 0) 4 3) 5 4) 7 2) 8 10) t = 0
    rw [upN_n (by omega), upN_n (by omega), upN_n (by omega), upN_n (by omega)]
set_option maxHeartbeats 4000000 in
set_option maxRecDepth 100000 in
theorem law_ev {X : mX} (hR : RO X) {L : Nat} {xs : Nat → Int32} (hsc : xro X (1000000 + 3) = some (L, xs)) (hL : L ≤ 260) : Ev X m_L_law (some 0, none, 0, 0, 600130, 7301080) 0 [.ref (1000000 + 3), jk, jk, jk, jk, jk, jk, jk, jk, jk] [] (fun _ => none) (fun o (_ : mH) => o = .inl (some (.int (nI 1)))) := by
  refine ev_new (fs := [.null, .null, .null, .null, .null, .null, .null]) dL_law_0 (by decide) lcl_8_25 wn_6 wi_6 (fun j hj => by obtain rfl | rfl | rfl | rfl | rfl | rfl | rfl : j = 0 ∨ j = 1 ∨ j = 2 ∨ j = 3 ∨ j = 4 ∨ j = 5 ∨ j = 6 := (by have : j < 7 := hj; omega); all_goals rfl) (by omega) (by omega) (by first | omega | (simp only [NN]; omega)) ?_
  refine ev_dup dL_law_3 rfl ?_
  refine ev_callIC dL_law_4 cal_X6_init lk_8_77 ⟨(Nat.le_of_ble_eq_true rfl), (Nat.le_of_ble_eq_true rfl)⟩ rfl (Nat.le_of_ble_eq_true rfl) (c_X6_init (mset_s _ _ _) hR) (by omega) (by first | omega | (simp only [NN]; omega)) (fun h4 hq4 => ?_)
  obtain ⟨hC4, o4⟩ := hq4
  refine ev_pc (pc' := 7) rfl ?_
  refine ev_astore_n (L' := [_, _, _, _, _, _, _, _, _, _]) dL_law_7 rfl (Nat.le_of_ble_eq_true rfl) rfl ?_
  refine ev_bipush (nI 12) dL_law_8 rfl ?_
  refine ev_newIN 12 dL_law_10 (by decide) rfl (by decide) (by first | omega | (simp only [NN]; omega)) (by first | omega | (simp only [NN]; omega)) (by first | omega | (simp only [NN]; omega)) ?_
  refine ev_astore_n (L' := [_, _, _, _, _, _, _, _, _, _]) dL_law_12 rfl (Nat.le_of_ble_eq_true rfl) rfl ?_
  refine ev_bipush (nI 64) dL_law_13 rfl ?_
  refine ev_newIN 64 dL_law_15 (by decide) rfl (by decide) (by first | omega | (simp only [NN]; omega)) (by first | omega | (simp only [NN]; omega)) (by first | omega | (simp only [NN]; omega)) ?_
  refine ev_astore_n (L' := [_, _, _, _, _, _, _, _, _, _]) dL_law_17 rfl (Nat.le_of_ble_eq_true rfl) rfl ?_
  refine ev_bipush (nI 64) dL_law_18 rfl ?_
  refine ev_newIN 64 dL_law_20 (by decide) rfl (by decide) (by first | omega | (simp only [NN]; omega)) (by first | omega | (simp only [NN]; omega)) (by first | omega | (simp only [NN]; omega)) ?_
  refine ev_astore (L' := [_, _, _, _, _, _, _, _, _, _]) dL_law_22 (Nat.le_of_ble_eq_true rfl) rfl ?_
  refine ev_bipush (nI 64) dL_law_24 rfl ?_
  refine ev_newIN 64 dL_law_26 (by decide) rfl (by decide) (by first | omega | (simp only [NN]; omega)) (by first | omega | (simp only [NN]; omega)) (by first | omega | (simp only [NN]; omega)) ?_
  refine ev_astore (L' := [_, _, _, _, _, _, _, _, _, _]) dL_law_28 (Nat.le_of_ble_eq_true rfl) rfl ?_
  refine ev_bipush (nI 60) dL_law_30 rfl ?_
  refine ev_newL 60 dL_law_32 w_arrL (by decide) rfl (by decide) (by first | omega | (simp only [NN]; omega)) (by first | omega | (simp only [NN]; omega)) (by first | omega | (simp only [NN]; omega)) ?_
  refine ev_astore (L' := [_, _, _, _, _, _, _, _, _, _]) dL_law_34 (Nat.le_of_ble_eq_true rfl) rfl ?_
  refine ev_bipush (nI 60) dL_law_36 rfl ?_
  refine ev_newIN 60 dL_law_38 (by decide) rfl (by decide) (by first | omega | (simp only [NN]; omega)) (by first | omega | (simp only [NN]; omega)) (by first | omega | (simp only [NN]; omega)) ?_
  refine ev_astore (L' := [_, _, _, _, _, _, _, _, _, _]) dL_law_40 (Nat.le_of_ble_eq_true rfl) rfl ?_
  refine ev_bipush (nI 60) dL_law_42 rfl ?_
  refine ev_newIN 60 dL_law_44 (by decide) rfl (by decide) (by first | omega | (simp only [NN]; omega)) (by first | omega | (simp only [NN]; omega)) (by first | omega | (simp only [NN]; omega)) ?_
  refine ev_astore (L' := [_, _, _, _, _, _, _, _, _, _]) dL_law_46 (Nat.le_of_ble_eq_true rfl) rfl ?_
  refine ev_pc (pc' := 48) rfl ?_
  generalize hh7 : mset (mset (mset (mset (mset (mset (mset h4 270 (aI 12 (nf fun _ => 0))) 271 (aI 64 (nf fun _ => 0))) 272 (aI 64 (nf fun _ => 0))) 273 (aI 64 (nf fun _ => 0))) 274 (aL 60 fun _ => 0)) 275 (aI 60 (nf fun _ => 0))) 276 (aI 60 (nf fun _ => 0)) = h7
  have o7 : Out h4 h7 270 7 := fun q hq => by
    subst hh7
    exact (mset_n (by omega)).trans ((mset_n (by omega)).trans ((mset_n (by omega)).trans ((mset_n (by omega)).trans ((mset_n (by omega)).trans ((mset_n (by omega)).trans (mset_n (by omega)))))))
  have l7 : LawN h7 (fun _ => 0) (fun _ => 0) (fun _ => 0) (fun _ => 0) (fun _ => 0) (fun _ => 0) (fun _ => 0) := by
    subst hh7
    exact ⟨((mset_n (by decide)).trans ((mset_n (by decide)).trans ((mset_n (by decide)).trans ((mset_n (by decide)).trans ((mset_n (by decide)).trans ((mset_n (by decide)).trans (mset_s _ _ _))))))), ((mset_n (by decide)).trans ((mset_n (by decide)).trans ((mset_n (by decide)).trans ((mset_n (by decide)).trans ((mset_n (by decide)).trans (mset_s _ _ _)))))), ((mset_n (by decide)).trans ((mset_n (by decide)).trans ((mset_n (by decide)).trans ((mset_n (by decide)).trans (mset_s _ _ _))))), ((mset_n (by decide)).trans ((mset_n (by decide)).trans ((mset_n (by decide)).trans (mset_s _ _ _)))), ((mset_n (by decide)).trans ((mset_n (by decide)).trans (mset_s _ _ _))), ((mset_n (by decide)).trans (mset_s _ _ _)), (mset_s _ _ _)⟩
  have hC7 : ClsN h7 as0 := hC4.go o7 (by decide)
  have n0 := l7.1
  refine ev_aload_n dL_law_48 rfl rfl ?_
  refine ev_iconst (nI 4) dL_law_49 rfl ?_
  refine ev_iconst (nI 3) dL_law_50 rfl ?_
  refine ev_iastoreF dL_law_51 (n0) (by omega) (by decide) ?_
  refine ev_aload_n dL_law_52 rfl rfl ?_
  refine ev_iconst (nI 5) dL_law_53 rfl ?_
  refine ev_iconst (nI 4) dL_law_54 rfl ?_
  first | refine ev_iastoreF dL_law_55 (mset_s _ _ _) (by omega) (by decide) ?_ | refine ev_iastoreF dL_law_55 ((mset_n (by omega)).trans (n0)) (by omega) (by decide) ?_
  refine ev_aload_n dL_law_56 rfl rfl ?_
  refine ev_bipush (nI 7) dL_law_57 rfl ?_
  refine ev_iconst (nI 2) dL_law_59 rfl ?_
  first | refine ev_iastoreF dL_law_60 (mset_s _ _ _) (by omega) (by decide) ?_ | refine ev_iastoreF dL_law_60 ((mset_n (by omega)).trans (mset_s _ _ _)) (by omega) (by decide) ?_ | refine ev_iastoreF dL_law_60 ((mset_n (by omega)).trans ((mset_n (by omega)).trans (n0))) (by omega) (by decide) ?_
  refine ev_aload_n dL_law_61 rfl rfl ?_
  refine ev_bipush (nI 8) dL_law_62 rfl ?_
  refine ev_bipush (nI 10) dL_law_64 rfl ?_
  first | refine ev_iastoreF dL_law_66 (mset_s _ _ _) (by omega) (by decide) ?_ | refine ev_iastoreF dL_law_66 ((mset_n (by omega)).trans (mset_s _ _ _)) (by omega) (by decide) ?_ | refine ev_iastoreF dL_law_66 ((mset_n (by omega)).trans ((mset_n (by omega)).trans (mset_s _ _ _))) (by omega) (by decide) ?_ | refine ev_iastoreF dL_law_66 ((mset_n (by omega)).trans ((mset_n (by omega)).trans ((mset_n (by omega)).trans (n0)))) (by omega) (by decide) ?_
  refine ev_iconst (nI 0) dL_law_67 rfl ?_
  refine ev_istore (L' := [_, _, _, _, _, _, _, _, _, _]) dL_law_68 (Nat.le_of_ble_eq_true rfl) rfl ?_
  refine ev_pc (pc' := 70) rfl ?_
  have J : PW (mset (mset (mset (mset h7 270 (aI 12 (nf (upN (fun _ => 0) 4 3)))) 270 (aI 12 (nf (upN (upN (fun _ => 0) 4 3) 5 4)))) 270 (aI 12 (nf (upN (upN (upN (fun _ => 0) 4 3) 5 4) 7 2)))) 270 (aI 12 (nf gn0))) := by
    refine ⟨as0, gn0, _, _, _, _, _, _, (hC7.go (a := 270) (n := 1) ((((Out.set (by omega) (by omega)).tr (Out.set (by omega) (by omega))).tr (Out.set (by omega) (by omega))).tr (Out.set (by omega) (by omega))) (by decide)), ⟨inv_st0, fun i hi => absurd hi (Nat.not_lt_zero i), by decide, by decide, fun j hj => absurd hj (Nat.not_lt_zero j)⟩, rfl, (((l7.s0 _).s0 _).s0 _).s0 _, rel_st0, rfl⟩
  exact law_loop hR hsc hL _ 0 277 _ rfl (Nat.zero_le _) J (by omega) (by omega)
