theorem ev_noB {X : mX} {M : mMD} {f f' : Option Nat} {ce sl mc ms pc : Nat} {L st : List Value} {h : mH} {Q : mO → mH → Prop} (k : Ev X M (none, f', ce, sl, mc, ms) pc L st h Q) : Ev X M (f, f', ce, sl, mc, ms) pc L st h Q := fun p e s m args below meth c H locs ls R C hc hs hW hS hL => k p e s m args below meth c H locs ls R C hc hs hW.no hS hL
theorem inv_st0 : InvT st0 := by
  have c0 : ∀ w, cT st0 w = 0 := fun w => smN_zero (fun t ht => rfl)
  refine ⟨by unfold SetV; decide, fun t ht => raw_tile _, fun j k hj hk e n0 => absurd rfl n0, fun k hk n0 => absurd rfl n0, fun k hk n0 => absurd rfl n0, ⟨c0 0, fun w hw => by rw [c0] at hw; omega⟩, ?_⟩
  show szS sto0 ≤ 150
  have : szS sto0 = 0 := smN_zero (fun k hk => rfl)
  omega
theorem rel_st0 : RelT gz0 (fun _ => 0) st0 := by
  have z : ∀ i, 5 ≤ i → gz0 i = 0 := fun i hi => by
    show upN (upN (upN (upN (fun _ => 0) 0 3) 1 4) 3 2) 4 10 i = 0
    rw [upN_n (by omega), upN_n (by omega), upN_n (by omega), upN_n (by omega)]
  refine ⟨fun k hk => ?_, ⟨z 5 (by omega), z 6 (by omega), fun k hk => ⟨fun _ => ⟨z _ (by omega), z _ (by omega), rfl⟩, fun n0 => absurd rfl n0⟩⟩, fun t ht => ⟨z _ (by omega), fun j hj => absurd hj (Nat.not_lt_zero j), fun p hp => absurd hp (Nat.not_lt_zero p)⟩⟩
  obtain rfl | rfl | rfl | rfl | rfl : k = 0 ∨ k = 1 ∨ k = 2 ∨ k = 3 ∨ k = 4 := by omega
  all_goals rfl
set_option maxHeartbeats 4000000 in
set_option maxRecDepth 100000 in
theorem law_step {X : mX} (hR : RO X) {L : Nat} {xs : Nat → Int32} (hsc : xro X (1000000 + 3) = some (L, xs)) (hL : L ≤ 2048) (q : Nat) (hq : 4 * q + 4 ≤ L) {h : mH} {A : mAs} (J : JA h A) (KK : ∀ h2 A', JA h2 A' → Ev X m_L_law (none, none, 284 + q + 1, 13997 + 6 * q + 6, 601024, 7293033) 1455 [.ref (1000000 + 3), .ref 0, .ref 270, .ref 283, .int (nI (4 * q)), jk, jk, jk, jk] [] h2 (fun o (_ : mH) => o = .inl (some (.int (nI 1))))) : Ev X m_L_law (none, none, 284 + q, 13997 + 6 * q, 601024, 7293033) 32 [.ref (1000000 + 3), .ref 0, .ref 270, .ref 283, .int (nI (4 * q)), jk, jk, jk, jk] [] h (fun o (_ : mH) => o = .inl (some (.int (nI 1)))) := by
  refine ev_aload_n dL_law_32 rfl rfl ?_
  refine ev_iload dL_law_33 rfl ?_
  refine ev_ialoadRN dL_law_35 hsc (by omega) (by omega) ?_
  refine ev_bipush (nI 31) dL_law_36 rfl ?_
  refine ev_iand dL_law_38 ?_
  obtain ⟨c, hc, e⟩ := pk_andE (xs (4 * q)) (m := nI 31) 5 (by decide)
  rw [e]
  have hc' : c < 32 := hc
  clear e hc
  obtain rfl | rfl | rfl | rfl | rfl | rfl | rfl | rfl | rfl | rfl | rfl | rfl | rfl | rfl | rfl | rfl | rfl | rfl | rfl | rfl | rfl | rfl | rfl | rfl | rfl | rfl | rfl | rfl | rfl | rfl | rfl | rfl : c = 0 ∨ c = 1 ∨ c = 2 ∨ c = 3 ∨ c = 4 ∨ c = 5 ∨ c = 6 ∨ c = 7 ∨ c = 8 ∨ c = 9 ∨ c = 10 ∨ c = 11 ∨ c = 12 ∨ c = 13 ∨ c = 14 ∨ c = 15 ∨ c = 16 ∨ c = 17 ∨ c = 18 ∨ c = 19 ∨ c = 20 ∨ c = 21 ∨ c = 22 ∨ c = 23 ∨ c = 24 ∨ c = 25 ∨ c = 26 ∨ c = 27 ∨ c = 28 ∨ c = 29 ∨ c = 30 ∨ c = 31 := by omega
  · refine ev_tableIn 148 dL_law_39 (by decide) (by decide) rfl rfl ?_
    exact cl_put hR J hsc (by omega) hL (by omega) (by omega) KK
  · refine ev_tableIn 204 dL_law_39 (by decide) (by decide) rfl rfl ?_
    exact cl_insert hR J hsc (by omega) hL (by omega) (by omega) KK
  · refine ev_tableIn 272 dL_law_39 (by decide) (by decide) rfl rfl ?_
    exact cl_takeOut hR J hsc (by omega) hL (by omega) (by omega) KK
  · refine ev_tableIn 352 dL_law_39 (by decide) (by decide) rfl rfl ?_
    exact cl_copy hR J hsc (by omega) hL (by omega) (by omega) KK
  · refine ev_tableIn 420 dL_law_39 (by decide) (by decide) rfl rfl ?_
    exact cl_rotate hR J hsc (by omega) hL (by omega) (by omega) KK
  · refine ev_tableIn 488 dL_law_39 (by decide) (by decide) rfl rfl ?_
    exact cl_drop hR J hsc (by omega) hL (by omega) (by omega) KK
  · refine ev_tableIn 544 dL_law_39 (by decide) (by decide) rfl rfl ?_
    exact cl_sweep hR J hsc (by omega) hL (by omega) (by omega) KK
  · refine ev_tableIn 557 dL_law_39 (by decide) (by decide) rfl rfl ?_
    exact cl_set hR J hsc (by omega) hL (by omega) (by omega) KK
  · refine ev_tableIn 625 dL_law_39 (by decide) (by decide) rfl rfl ?_
    exact cl_append hR J hsc (by omega) hL (by omega) (by omega) KK
  · refine ev_tableIn 681 dL_law_39 (by decide) (by decide) rfl rfl ?_
    exact cl_clearBuffer hR J hsc (by omega) hL (by omega) (by omega) KK
  · refine ev_tableIn 694 dL_law_39 (by decide) (by decide) rfl rfl ?_
    exact cl_firstError hR J hsc (by omega) hL (by omega) (by omega) KK
  · refine ev_tableIn 707 dL_law_39 (by decide) (by decide) rfl rfl ?_
    exact cl_undo hR J hsc (by omega) hL (by omega) (by omega) KK
  · refine ev_tableIn 751 dL_law_39 (by decide) (by decide) rfl rfl ?_
    exact cl_sign hR J hsc (by omega) hL (by omega) (by omega) KK
  · refine ev_tableIn 831 dL_law_39 (by decide) (by decide) rfl rfl ?_
    exact cl_piece hR J hsc (by omega) hL (by omega) (by omega) KK
  · refine ev_tableIn 911 dL_law_39 (by decide) (by decide) rfl rfl ?_
    exact cl_slot hR J hsc (by omega) hL (by omega) (by omega) KK
  · refine ev_tableIn 979 dL_law_39 (by decide) (by decide) rfl rfl ?_
    exact cl_text hR J hsc (by omega) hL (by omega) (by omega) KK
  · refine ev_tableIn 1047 dL_law_39 (by decide) (by decide) rfl rfl ?_
    exact cl_common hR J hsc (by omega) hL (by omega) (by omega) KK
  · refine ev_tableIn 1127 dL_law_39 (by decide) (by decide) rfl rfl ?_
    exact cl_count hR J hsc (by omega) hL (by omega) (by omega) KK
  · refine ev_tableIn 1183 dL_law_39 (by decide) (by decide) rfl rfl ?_
    exact cl_setting hR J hsc (by omega) hL (by omega) (by omega) KK
  · refine ev_tableIn 1239 dL_law_39 (by decide) (by decide) rfl rfl ?_
    exact cl_ifPut hR J hsc (by omega) hL (by omega) (by omega) KK
  · refine ev_tableIn 1307 dL_law_39 (by decide) (by decide) rfl rfl ?_
    exact cl_ifSet hR J hsc (by omega) hL (by omega) (by omega) KK
  · refine ev_tableIn 1387 dL_law_39 (by decide) (by decide) rfl rfl ?_
    exact cl_bestDivisor hR J hsc (by omega) hL (by omega) (by omega) KK
  · refine ev_tableIn 1400 dL_law_39 (by decide) (by decide) rfl rfl ?_
    exact cl_savedShare hR J hsc (by omega) hL (by omega) (by omega) KK
  · refine ev_tableIn 1441 dL_law_39 (by decide) (by decide) rfl rfl ?_
    exact cl_digest hR J hsc (by omega) hL (by omega) (by omega) KK
  · refine ev_tableOut 1455 dL_law_39 (Or.inr (by decide)) rfl ?_
    exact ev_wid (Nat.le_succ _) (Nat.le_add_right _ 6) (KK h A J)
  · refine ev_tableOut 1455 dL_law_39 (Or.inr (by decide)) rfl ?_
    exact ev_wid (Nat.le_succ _) (Nat.le_add_right _ 6) (KK h A J)
  · refine ev_tableOut 1455 dL_law_39 (Or.inr (by decide)) rfl ?_
    exact ev_wid (Nat.le_succ _) (Nat.le_add_right _ 6) (KK h A J)
  · refine ev_tableOut 1455 dL_law_39 (Or.inr (by decide)) rfl ?_
    exact ev_wid (Nat.le_succ _) (Nat.le_add_right _ 6) (KK h A J)
  · refine ev_tableOut 1455 dL_law_39 (Or.inr (by decide)) rfl ?_
    exact ev_wid (Nat.le_succ _) (Nat.le_add_right _ 6) (KK h A J)
  · refine ev_tableOut 1455 dL_law_39 (Or.inr (by decide)) rfl ?_
    exact ev_wid (Nat.le_succ _) (Nat.le_add_right _ 6) (KK h A J)
  · refine ev_tableOut 1455 dL_law_39 (Or.inr (by decide)) rfl ?_
    exact ev_wid (Nat.le_succ _) (Nat.le_add_right _ 6) (KK h A J)
  · refine ev_tableOut 1455 dL_law_39 (Or.inr (by decide)) rfl ?_
    exact ev_wid (Nat.le_succ _) (Nat.le_add_right _ 6) (KK h A J)
theorem law_loop {X : mX} (hR : RO X) {L : Nat} {xs : Nat → Int32} (hsc : xro X (1000000 + 3) = some (L, xs)) (hL : L ≤ 2048) : ∀ (mz q : Nat) (h : mH) (A : mAs), L - 4 * q = mz → 4 * q ≤ L → JA h A → Ev X m_L_law (none, none, 284 + q, 13997 + 6 * q, 601024, 7293033) 23 [.ref (1000000 + 3), .ref 0, .ref 270, .ref 283, .int (nI (4 * q)), jk, jk, jk, jk] [] h (fun o (_ : mH) => o = .inl (some (.int (nI 1)))) := by
  intro mz
  induction mz using Nat.strongRecOn with
  | _ mz ih =>
    intro q h A hmz hq J
    refine ev_iload dL_law_23 rfl ?_
    refine ev_aload_n dL_law_25 rfl rfl ?_
    refine ev_arraylengthR dL_law_26 hsc ?_
    refine ev_iconst (nI 4) dL_law_27 rfl ?_
    refine ev_isub dL_law_28 ?_
    refine ev_icmp_gt 1461 dL_law_29 rfl (fun hc => ?_) (fun hc => ?_)
    · refine ev_iconst (nI 1) dL_law_1461 rfl ?_
      exact ev_zreturn dL_law_1462 rfl rfl (Or.inl rfl) (by omega) (by omega) rfl
    · rw [i_lt, pk_sub_toInt (by omega) (by decide), nI_toInt (by omega)] at hc
      refine ev_pc (pc' := 32) rfl ?_
      refine law_step hR hsc hL q (by omega) J (fun h2 A' J2 => ?_)
      refine ev_iincN (L' := [.ref (1000000 + 3), .ref 0, .ref 270, .ref 283, .int (nI (4 * q + 4)), jk, jk, jk, jk]) 4 dL_law_1455 rfl rfl ?_
      refine ev_goto 23 dL_law_1458 rfl ?_
      rw [show 4 * q + 4 = 4 * (q + 1) by omega, show 284 + q + 1 = 284 + (q + 1) by omega, show 13997 + 6 * q + 6 = 13997 + 6 * (q + 1) by omega]
      exact ih _ (by omega) (q + 1) h2 A' rfl (by omega) J2
set_option maxHeartbeats 4000000 in
set_option maxRecDepth 100000 in
theorem law_ev {X : mX} (hR : RO X) {L : Nat} {xs : Nat → Int32} (hsc : xro X (1000000 + 3) = some (L, xs)) (hL : L ≤ 2048) : Ev X m_L_law (some 0, none, 0, 0, 601024, 7293033) 0 [.ref (1000000 + 3), jk, jk, jk, jk, jk, jk, jk, jk] [] (fun _ => none) (fun o (_ : mH) => o = .inl (some (.int (nI 1)))) := by
  refine ev_new (fs := [.null, .null, .null, .null, .null, .null, .null]) dL_law_0 (by decide) lcl_8_8 wn_6 wi_6 (fun j hj => by obtain rfl | rfl | rfl | rfl | rfl | rfl | rfl : j = 0 ∨ j = 1 ∨ j = 2 ∨ j = 3 ∨ j = 4 ∨ j = 5 ∨ j = 6 := (by have : j < 7 := hj; omega); all_goals rfl) (by omega) (by omega) (by first | omega | (simp only [NN]; omega)) ?_
  refine ev_dup dL_law_3 rfl ?_
  refine ev_callIC dL_law_4 cal_X6_init lk_8_73 ⟨(Nat.le_of_ble_eq_true rfl), (Nat.le_of_ble_eq_true rfl)⟩ rfl (Nat.le_of_ble_eq_true rfl) (c_X6_init (mset_s _ _ _) hR) (by omega) (by first | omega | (simp only [NN]; omega)) (fun h4 hq4 => ?_)
  obtain ⟨hC4, o4⟩ := hq4
  refine ev_pc (pc' := 7) rfl ?_
  refine ev_astore_n (L' := [_, _, _, _, _, _, _, _, _]) dL_law_7 rfl (Nat.le_of_ble_eq_true rfl) rfl ?_
  refine ev_new (fs := [.null, .null, .int 0, .null, .null, .int 0, .null, .int 0, .null, .int 0, .null, .null, .null, .int 0, .null, .int 0, .int 0, .null, .null, .int 0, .long 0]) dL_law_8 (by decide) lcl_8_74 wn_7 wi_7 (fun j hj => by obtain rfl | rfl | rfl | rfl | rfl | rfl | rfl | rfl | rfl | rfl | rfl | rfl | rfl | rfl | rfl | rfl | rfl | rfl | rfl | rfl | rfl : j = 0 ∨ j = 1 ∨ j = 2 ∨ j = 3 ∨ j = 4 ∨ j = 5 ∨ j = 6 ∨ j = 7 ∨ j = 8 ∨ j = 9 ∨ j = 10 ∨ j = 11 ∨ j = 12 ∨ j = 13 ∨ j = 14 ∨ j = 15 ∨ j = 16 ∨ j = 17 ∨ j = 18 ∨ j = 19 ∨ j = 20 := (by have : j < 21 := hj; omega); all_goals rfl) (by omega) (by first | omega | (simp only [NN]; omega)) (by first | omega | (simp only [NN]; omega)) ?_
  refine ev_dup dL_law_11 rfl ?_
  refine ev_callIC dL_law_12 cal_X7_init lk_8_76 ⟨(Nat.le_of_ble_eq_true rfl), (Nat.le_of_ble_eq_true rfl)⟩ rfl (Nat.le_of_ble_eq_true rfl) (c_X7_init (mset_s _ _ _)) (by first | omega | (simp only [NN]; omega)) (by first | omega | (simp only [NN]; omega)) (fun h12 hq12 => ?_)
  obtain ⟨hM12, o12⟩ := hq12
  refine ev_pc (pc' := 15) rfl ?_
  refine ev_astore_n (L' := [_, _, _, _, _, _, _, _, _]) dL_law_15 rfl (Nat.le_of_ble_eq_true rfl) rfl ?_
  refine ev_iconst (nI 1) dL_law_16 rfl ?_
  refine ev_newL 1 dL_law_17 w_arrL (by decide) rfl (by decide) (by omega) (by first | omega | (simp only [NN]; omega)) (by first | omega | (simp only [NN]; omega)) ?_
  refine ev_astore_n (L' := [_, _, _, _, _, _, _, _, _]) dL_law_19 rfl (Nat.le_of_ble_eq_true rfl) rfl ?_
  refine ev_iconst (nI 0) dL_law_20 rfl ?_
  refine ev_istore (L' := [_, _, _, _, _, _, _, _, _]) dL_law_21 (Nat.le_of_ble_eq_true rfl) rfl ?_
  refine ev_noB ?_
  have J : JA (mset h12 283 (aL 1 (fun _ => 0))) as0 := by
    refine ⟨((hC4.go (a := 270) (n := 1) (fun q hq => mset_n (by omega)) (by decide)).go o12 (by decide)).go (a := 283) (n := 1) (fun q hq => mset_n (by omega)) (by decide), ⟨inv_st0, fun i hi => absurd hi (Nat.not_lt_zero i), by decide, by decide, fun j hj => absurd hj (Nat.not_lt_zero j)⟩, ⟨0, _, _, _, _, _, _, _, _, (hM12.go (a := 283) (n := 1) (fun q hq => mset_n (by omega)) (by decide)).ms, rel_st0, ⟨rfl, fun i hi => absurd hi (Nat.not_lt_zero i)⟩, rfl, fun j hj => absurd hj (Nat.not_lt_zero j)⟩, ⟨_, mset_s _ _ _⟩⟩
  exact law_loop hR hsc hL _ 0 _ as0 rfl (Nat.zero_le _) J
