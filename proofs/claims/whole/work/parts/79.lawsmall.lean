theorem cn_mono {X : mX} {M : mMD} {ws : List Cond} {f f' : Option Nat} {mc ms : Nat} {as : List Value} {h : mH} {Q Q' : mO → mH → Prop} (hc : CnW X M ws f f' mc ms as h Q) (hq : ∀ o h1, Q o h1 → Q' o h1) : CnW X M ws f f' mc ms as h Q' := by
  intro p e ha hcc hk s m args below hf happ hP hK
  obtain ⟨n, o, h1, h2, h3, h4⟩ := hc p e ha hcc hk s m args below hf happ hP hK
  refine ⟨n, o, h1, h2, h3, ?_⟩
  rcases h4 with ⟨⟨v, h5, e1, e2, e3, e4⟩, h6⟩ | ⟨q, e1, E, ce, L, ⟨k, h5, g1, g2, g3, g4, g5⟩, h7⟩
  · exact Or.inl ⟨⟨v, h5, e1, hq _ _ e2, e3, e4⟩, h6⟩
  · exact Or.inr ⟨q, e1, E, ce, L, ⟨k, h5, g1, g2, hq _ _ g3, g4, g5⟩, h7⟩
theorem cnP_U {X : mX} {M : mMD} {as : List Value} {h : mH} {v : Option Value} (hc : CnP X M as h v) : CnU X M as h (fun v1 h1 => v1 = v ∧ h1 = h) := cn_mono hc (fun o h1 q => ⟨v, q.1, rfl, q.2⟩)
set_option maxHeartbeats 4000000 in
set_option maxRecDepth 100000 in
theorem n_put {X : mX} {h : mH} (a0 : h 0 = some obC) (t : Int32) {P : Option Value → mH → Prop} (hm : CnU X m_X6_put [.ref 0, .int t] h P) (hP : ∀ v h1, P v h1 → ∃ y g, v = some (.int y) ∧ h1 283 = some (aL 1 g)) : CnH X m_L_put none none 1 6 [.ref 0, .int t, .ref 283] h (fun o h1 => o = .inl (some (.int (nI 0))) ∧ ∃ h2 y g, P (some (.int y)) h2 ∧ h2 283 = some (aL 1 g) ∧ h1 = mset h2 283 (aL 1 (vp_updL g 0 y.toInt64))) := by
  refine cnH_of_ev (L0 := [_, _, _, _]) (by decide +kernel) rfl (Nat.le_of_ble_eq_true rfl) rfl ?_
  refine ev_aload_n dL_put_0 rfl rfl ?_
  refine ev_iconst (nI 0) dL_put_1 rfl ?_
  refine ev_aload_n dL_put_2 rfl rfl ?_
  refine ev_iload_n dL_put_3 rfl rfl ?_
  refine ev_callVH (as := [.int t]) dL_put_4 cal_X6_put lk_8_7 ⟨(Nat.le_of_ble_eq_true rfl), (Nat.le_of_ble_eq_true rfl)⟩ a0 rfl (Nat.le_of_ble_eq_true rfl) hm (Nat.zero_le _) (Nat.zero_le _) (fun v h1 q => ?_) (fun k h1 q => by obtain ⟨v, q1, -⟩ := q; cases q1)
  obtain ⟨v1, q1, q2⟩ := q
  cases q1
  obtain ⟨y, g, rfl, hg⟩ := hP _ _ q2
  refine ev_pc (pc' := 7) rfl ?_
  refine ev_i2l dL_put_7 ?_
  refine ev_lastoreN dL_put_8 (hg) (by decide) (by decide) ?_
  refine ev_goto 21 dL_put_9 rfl ?_
  refine ev_iconst (nI 0) dL_put_21 rfl ?_
  refine ev_ireturn dL_put_22 rfl (Or.inl rfl) (Nat.zero_le _) (Nat.zero_le _) ?_
  exact ⟨rfl, _, y, g, q2, hg, rfl⟩
set_option maxHeartbeats 4000000 in
set_option maxRecDepth 100000 in
theorem x0_put {X : mX} {h : mH} (a0 : h 0 = some obC) (t : Int32) {P : mH → Prop} (hm : CnX X m_X6_put [.ref 0, .int t] h 0 P) : CnH X m_L_put none none 1 6 [.ref 0, .int t, .ref 283] h (fun o h1 => o = .inl (some (.int (nI 1))) ∧ P h1) := by
  refine cnH_of_ev (L0 := [_, _, _, _]) (by decide +kernel) rfl (Nat.le_of_ble_eq_true rfl) rfl ?_
  refine ev_aload_n dL_put_0 rfl rfl ?_
  refine ev_iconst (nI 0) dL_put_1 rfl ?_
  refine ev_aload_n dL_put_2 rfl rfl ?_
  refine ev_iload_n dL_put_3 rfl rfl ?_
  refine ev_callVH (as := [.int t]) dL_put_4 cal_X6_put lk_8_7 ⟨(Nat.le_of_ble_eq_true rfl), (Nat.le_of_ble_eq_true rfl)⟩ a0 rfl (Nat.le_of_ble_eq_true rfl) hm (Nat.le_refl _) (Nat.le_refl _) (fun v h1 q => by cases q.1) (fun k h1 q => ?_)
  obtain ⟨q1, q2⟩ := q
  cases q1
  refine ⟨(0, 9, 12, 13), 3, ⟨by decide, [], [(0, 9, 15, 15), (0, 9, 18, 17)], rfl, (fun z hz => by cases hz), by decide, by decide, by decide, lcl_8_13⟩, by decide, Or.inl ⟨3, dL_put_12, rfl, ?_⟩⟩
  refine ev_pc (pc' := 13) rfl ?_
  refine ev_iconst (nI 1) dL_put_13 rfl ?_
  refine ev_ireturn dL_put_14 rfl (Or.inl rfl) (Nat.le_refl _) (Nat.le_refl _) ?_
  exact ⟨rfl, q2⟩
set_option maxHeartbeats 4000000 in
set_option maxRecDepth 100000 in
theorem x1_put {X : mX} {h : mH} (a0 : h 0 = some obC) (t : Int32) {P : mH → Prop} (hm : CnX X m_X6_put [.ref 0, .int t] h 1 P) : CnH X m_L_put none none 1 6 [.ref 0, .int t, .ref 283] h (fun o h1 => o = .inl (some (.int (nI 2))) ∧ P h1) := by
  refine cnH_of_ev (L0 := [_, _, _, _]) (by decide +kernel) rfl (Nat.le_of_ble_eq_true rfl) rfl ?_
  refine ev_aload_n dL_put_0 rfl rfl ?_
  refine ev_iconst (nI 0) dL_put_1 rfl ?_
  refine ev_aload_n dL_put_2 rfl rfl ?_
  refine ev_iload_n dL_put_3 rfl rfl ?_
  refine ev_callVH (as := [.int t]) dL_put_4 cal_X6_put lk_8_7 ⟨(Nat.le_of_ble_eq_true rfl), (Nat.le_of_ble_eq_true rfl)⟩ a0 rfl (Nat.le_of_ble_eq_true rfl) hm (Nat.le_refl _) (Nat.le_refl _) (fun v h1 q => by cases q.1) (fun k h1 q => ?_)
  obtain ⟨q1, q2⟩ := q
  cases q1
  refine ⟨(0, 9, 15, 15), 3, ⟨by decide, [(0, 9, 12, 13)], [(0, 9, 18, 17)], rfl, (fun z hz => by obtain rfl : z = (0, 9, 12, 13) := (by simpa using hz); exact ⟨by decide, 0, by decide, by decide, lcl_8_13⟩), by decide, by decide, by decide, lcl_8_15⟩, by decide, Or.inl ⟨3, dL_put_15, rfl, ?_⟩⟩
  refine ev_pc (pc' := 16) rfl ?_
  refine ev_iconst (nI 2) dL_put_16 rfl ?_
  refine ev_ireturn dL_put_17 rfl (Or.inl rfl) (Nat.le_refl _) (Nat.le_refl _) ?_
  exact ⟨rfl, q2⟩
set_option maxHeartbeats 4000000 in
set_option maxRecDepth 100000 in
theorem x2_put {X : mX} {h : mH} (a0 : h 0 = some obC) (t : Int32) {P : mH → Prop} (hm : CnX X m_X6_put [.ref 0, .int t] h 2 P) : CnH X m_L_put none none 1 6 [.ref 0, .int t, .ref 283] h (fun o h1 => o = .inl (some (.int (nI 3))) ∧ P h1) := by
  refine cnH_of_ev (L0 := [_, _, _, _]) (by decide +kernel) rfl (Nat.le_of_ble_eq_true rfl) rfl ?_
  refine ev_aload_n dL_put_0 rfl rfl ?_
  refine ev_iconst (nI 0) dL_put_1 rfl ?_
  refine ev_aload_n dL_put_2 rfl rfl ?_
  refine ev_iload_n dL_put_3 rfl rfl ?_
  refine ev_callVH (as := [.int t]) dL_put_4 cal_X6_put lk_8_7 ⟨(Nat.le_of_ble_eq_true rfl), (Nat.le_of_ble_eq_true rfl)⟩ a0 rfl (Nat.le_of_ble_eq_true rfl) hm (Nat.le_refl _) (Nat.le_refl _) (fun v h1 q => by cases q.1) (fun k h1 q => ?_)
  obtain ⟨q1, q2⟩ := q
  cases q1
  refine ⟨(0, 9, 18, 17), 3, ⟨by decide, [(0, 9, 12, 13), (0, 9, 15, 15)], [], rfl, (fun z hz => by
      rcases List.mem_cons.mp hz with rfl | hz
      · exact ⟨by decide, 0, by decide, by decide, lcl_8_13⟩
      · obtain rfl : z = (0, 9, 15, 15) := by simpa using hz
        exact ⟨by decide, 1, by decide, by decide, lcl_8_15⟩), by decide, by decide, by decide, lcl_8_17⟩, by decide, Or.inl ⟨3, dL_put_18, rfl, ?_⟩⟩
  refine ev_pc (pc' := 19) rfl ?_
  refine ev_iconst (nI 3) dL_put_19 rfl ?_
  refine ev_ireturn dL_put_20 rfl (Or.inl rfl) (Nat.le_refl _) (Nat.le_refl _) ?_
  exact ⟨rfl, q2⟩
set_option maxHeartbeats 4000000 in
set_option maxRecDepth 100000 in
theorem n_insert {X : mX} {h : mH} (a0 : h 0 = some obC) (t : Int32) (u : Int32) {P : Option Value → mH → Prop} (hm : CnU X m_X6_insert [.ref 0, .int t, .int u] h P) (hP : ∀ v h1, P v h1 → ∃ y g, v = some (.int y) ∧ h1 283 = some (aL 1 g)) : CnH X m_L_insert none none 1 6 [.ref 0, .int t, .int u, .ref 283] h (fun o h1 => o = .inl (some (.int (nI 0))) ∧ ∃ h2 y g, P (some (.int y)) h2 ∧ h2 283 = some (aL 1 g) ∧ h1 = mset h2 283 (aL 1 (vp_updL g 0 y.toInt64))) := by
  refine cnH_of_ev (L0 := [_, _, _, _, _]) (by decide +kernel) rfl (Nat.le_of_ble_eq_true rfl) rfl ?_
  refine ev_aload_n dL_insert_0 rfl rfl ?_
  refine ev_iconst (nI 0) dL_insert_1 rfl ?_
  refine ev_aload_n dL_insert_2 rfl rfl ?_
  refine ev_iload_n dL_insert_3 rfl rfl ?_
  refine ev_iload_n dL_insert_4 rfl rfl ?_
  refine ev_callVH (as := [.int t, .int u]) dL_insert_5 cal_X6_insert lk_8_19 ⟨(Nat.le_of_ble_eq_true rfl), (Nat.le_of_ble_eq_true rfl)⟩ a0 rfl (Nat.le_of_ble_eq_true rfl) hm (Nat.zero_le _) (Nat.zero_le _) (fun v h1 q => ?_) (fun k h1 q => by obtain ⟨v, q1, -⟩ := q; cases q1)
  obtain ⟨v1, q1, q2⟩ := q
  cases q1
  obtain ⟨y, g, rfl, hg⟩ := hP _ _ q2
  refine ev_pc (pc' := 8) rfl ?_
  refine ev_i2l dL_insert_8 ?_
  refine ev_lastoreN dL_insert_9 (hg) (by decide) (by decide) ?_
  refine ev_goto 25 dL_insert_10 rfl ?_
  refine ev_iconst (nI 0) dL_insert_25 rfl ?_
  refine ev_ireturn dL_insert_26 rfl (Or.inl rfl) (Nat.zero_le _) (Nat.zero_le _) ?_
  exact ⟨rfl, _, y, g, q2, hg, rfl⟩
set_option maxHeartbeats 4000000 in
set_option maxRecDepth 100000 in
theorem x0_insert {X : mX} {h : mH} (a0 : h 0 = some obC) (t : Int32) (u : Int32) {P : mH → Prop} (hm : CnX X m_X6_insert [.ref 0, .int t, .int u] h 0 P) : CnH X m_L_insert none none 1 6 [.ref 0, .int t, .int u, .ref 283] h (fun o h1 => o = .inl (some (.int (nI 1))) ∧ P h1) := by
  refine cnH_of_ev (L0 := [_, _, _, _, _]) (by decide +kernel) rfl (Nat.le_of_ble_eq_true rfl) rfl ?_
  refine ev_aload_n dL_insert_0 rfl rfl ?_
  refine ev_iconst (nI 0) dL_insert_1 rfl ?_
  refine ev_aload_n dL_insert_2 rfl rfl ?_
  refine ev_iload_n dL_insert_3 rfl rfl ?_
  refine ev_iload_n dL_insert_4 rfl rfl ?_
  refine ev_callVH (as := [.int t, .int u]) dL_insert_5 cal_X6_insert lk_8_19 ⟨(Nat.le_of_ble_eq_true rfl), (Nat.le_of_ble_eq_true rfl)⟩ a0 rfl (Nat.le_of_ble_eq_true rfl) hm (Nat.le_refl _) (Nat.le_refl _) (fun v h1 q => by cases q.1) (fun k h1 q => ?_)
  obtain ⟨q1, q2⟩ := q
  cases q1
  refine ⟨(0, 10, 13, 13), 4, ⟨by decide, [], [(0, 10, 17, 15), (0, 10, 21, 17)], rfl, (fun z hz => by cases hz), by decide, by decide, by decide, lcl_8_13⟩, by decide, Or.inr ⟨dL_insert_13, ?_⟩⟩
  refine ev_pc (pc' := 15) rfl ?_
  refine ev_iconst (nI 1) dL_insert_15 rfl ?_
  refine ev_ireturn dL_insert_16 rfl (Or.inl rfl) (Nat.le_refl _) (Nat.le_refl _) ?_
  exact ⟨rfl, q2⟩
set_option maxHeartbeats 4000000 in
set_option maxRecDepth 100000 in
theorem x1_insert {X : mX} {h : mH} (a0 : h 0 = some obC) (t : Int32) (u : Int32) {P : mH → Prop} (hm : CnX X m_X6_insert [.ref 0, .int t, .int u] h 1 P) : CnH X m_L_insert none none 1 6 [.ref 0, .int t, .int u, .ref 283] h (fun o h1 => o = .inl (some (.int (nI 2))) ∧ P h1) := by
  refine cnH_of_ev (L0 := [_, _, _, _, _]) (by decide +kernel) rfl (Nat.le_of_ble_eq_true rfl) rfl ?_
  refine ev_aload_n dL_insert_0 rfl rfl ?_
  refine ev_iconst (nI 0) dL_insert_1 rfl ?_
  refine ev_aload_n dL_insert_2 rfl rfl ?_
  refine ev_iload_n dL_insert_3 rfl rfl ?_
  refine ev_iload_n dL_insert_4 rfl rfl ?_
  refine ev_callVH (as := [.int t, .int u]) dL_insert_5 cal_X6_insert lk_8_19 ⟨(Nat.le_of_ble_eq_true rfl), (Nat.le_of_ble_eq_true rfl)⟩ a0 rfl (Nat.le_of_ble_eq_true rfl) hm (Nat.le_refl _) (Nat.le_refl _) (fun v h1 q => by cases q.1) (fun k h1 q => ?_)
  obtain ⟨q1, q2⟩ := q
  cases q1
  refine ⟨(0, 10, 17, 15), 4, ⟨by decide, [(0, 10, 13, 13)], [(0, 10, 21, 17)], rfl, (fun z hz => by obtain rfl : z = (0, 10, 13, 13) := (by simpa using hz); exact ⟨by decide, 0, by decide, by decide, lcl_8_13⟩), by decide, by decide, by decide, lcl_8_15⟩, by decide, Or.inr ⟨dL_insert_17, ?_⟩⟩
  refine ev_pc (pc' := 19) rfl ?_
  refine ev_iconst (nI 2) dL_insert_19 rfl ?_
  refine ev_ireturn dL_insert_20 rfl (Or.inl rfl) (Nat.le_refl _) (Nat.le_refl _) ?_
  exact ⟨rfl, q2⟩
set_option maxHeartbeats 4000000 in
set_option maxRecDepth 100000 in
theorem x2_insert {X : mX} {h : mH} (a0 : h 0 = some obC) (t : Int32) (u : Int32) {P : mH → Prop} (hm : CnX X m_X6_insert [.ref 0, .int t, .int u] h 2 P) : CnH X m_L_insert none none 1 6 [.ref 0, .int t, .int u, .ref 283] h (fun o h1 => o = .inl (some (.int (nI 3))) ∧ P h1) := by
  refine cnH_of_ev (L0 := [_, _, _, _, _]) (by decide +kernel) rfl (Nat.le_of_ble_eq_true rfl) rfl ?_
  refine ev_aload_n dL_insert_0 rfl rfl ?_
  refine ev_iconst (nI 0) dL_insert_1 rfl ?_
  refine ev_aload_n dL_insert_2 rfl rfl ?_
  refine ev_iload_n dL_insert_3 rfl rfl ?_
  refine ev_iload_n dL_insert_4 rfl rfl ?_
  refine ev_callVH (as := [.int t, .int u]) dL_insert_5 cal_X6_insert lk_8_19 ⟨(Nat.le_of_ble_eq_true rfl), (Nat.le_of_ble_eq_true rfl)⟩ a0 rfl (Nat.le_of_ble_eq_true rfl) hm (Nat.le_refl _) (Nat.le_refl _) (fun v h1 q => by cases q.1) (fun k h1 q => ?_)
  obtain ⟨q1, q2⟩ := q
  cases q1
  refine ⟨(0, 10, 21, 17), 4, ⟨by decide, [(0, 10, 13, 13), (0, 10, 17, 15)], [], rfl, (fun z hz => by
      rcases List.mem_cons.mp hz with rfl | hz
      · exact ⟨by decide, 0, by decide, by decide, lcl_8_13⟩
      · obtain rfl : z = (0, 10, 17, 15) := by simpa using hz
        exact ⟨by decide, 1, by decide, by decide, lcl_8_15⟩), by decide, by decide, by decide, lcl_8_17⟩, by decide, Or.inr ⟨dL_insert_21, ?_⟩⟩
  refine ev_pc (pc' := 23) rfl ?_
  refine ev_iconst (nI 3) dL_insert_23 rfl ?_
  refine ev_ireturn dL_insert_24 rfl (Or.inl rfl) (Nat.le_refl _) (Nat.le_refl _) ?_
  exact ⟨rfl, q2⟩
set_option maxHeartbeats 4000000 in
set_option maxRecDepth 100000 in
theorem n_takeOut {X : mX} {h : mH} (a0 : h 0 = some obC) (t : Int32) (u : Int32) (w : Int32) {P : Option Value → mH → Prop} (hm : CnU X m_X6_takeOut [.ref 0, .int t, .int u, .int w] h P) (hP : ∀ v h1, P v h1 → ∃ y g, v = some (.int y) ∧ h1 283 = some (aL 1 g)) : CnH X m_L_takeOut none none 1 6 [.ref 0, .int t, .int u, .int w, .ref 283] h (fun o h1 => o = .inl (some (.int (nI 0))) ∧ ∃ h2 y g, P (some (.int y)) h2 ∧ h2 283 = some (aL 1 g) ∧ h1 = mset h2 283 (aL 1 (vp_updL g 0 y.toInt64))) := by
  refine cnH_of_ev (L0 := [_, _, _, _, _, _]) (by decide +kernel) rfl (Nat.le_of_ble_eq_true rfl) rfl ?_
  refine ev_aload dL_takeOut_0 rfl ?_
  refine ev_iconst (nI 0) dL_takeOut_2 rfl ?_
  refine ev_aload_n dL_takeOut_3 rfl rfl ?_
  refine ev_iload_n dL_takeOut_4 rfl rfl ?_
  refine ev_iload_n dL_takeOut_5 rfl rfl ?_
  refine ev_iload_n dL_takeOut_6 rfl rfl ?_
  refine ev_callVH (as := [.int t, .int u, .int w]) dL_takeOut_7 cal_X6_takeOut lk_8_23 ⟨(Nat.le_of_ble_eq_true rfl), (Nat.le_of_ble_eq_true rfl)⟩ a0 rfl (Nat.le_of_ble_eq_true rfl) hm (Nat.zero_le _) (Nat.zero_le _) (fun v h1 q => ?_) (fun k h1 q => by obtain ⟨v, q1, -⟩ := q; cases q1)
  obtain ⟨v1, q1, q2⟩ := q
  cases q1
  obtain ⟨y, g, rfl, hg⟩ := hP _ _ q2
  refine ev_pc (pc' := 10) rfl ?_
  refine ev_i2l dL_takeOut_10 ?_
  refine ev_lastoreN dL_takeOut_11 (hg) (by decide) (by decide) ?_
  refine ev_goto 27 dL_takeOut_12 rfl ?_
  refine ev_iconst (nI 0) dL_takeOut_27 rfl ?_
  refine ev_ireturn dL_takeOut_28 rfl (Or.inl rfl) (Nat.zero_le _) (Nat.zero_le _) ?_
  exact ⟨rfl, _, y, g, q2, hg, rfl⟩
set_option maxHeartbeats 4000000 in
set_option maxRecDepth 100000 in
theorem x0_takeOut {X : mX} {h : mH} (a0 : h 0 = some obC) (t : Int32) (u : Int32) (w : Int32) {P : mH → Prop} (hm : CnX X m_X6_takeOut [.ref 0, .int t, .int u, .int w] h 0 P) : CnH X m_L_takeOut none none 1 6 [.ref 0, .int t, .int u, .int w, .ref 283] h (fun o h1 => o = .inl (some (.int (nI 1))) ∧ P h1) := by
  refine cnH_of_ev (L0 := [_, _, _, _, _, _]) (by decide +kernel) rfl (Nat.le_of_ble_eq_true rfl) rfl ?_
  refine ev_aload dL_takeOut_0 rfl ?_
  refine ev_iconst (nI 0) dL_takeOut_2 rfl ?_
  refine ev_aload_n dL_takeOut_3 rfl rfl ?_
  refine ev_iload_n dL_takeOut_4 rfl rfl ?_
  refine ev_iload_n dL_takeOut_5 rfl rfl ?_
  refine ev_iload_n dL_takeOut_6 rfl rfl ?_
  refine ev_callVH (as := [.int t, .int u, .int w]) dL_takeOut_7 cal_X6_takeOut lk_8_23 ⟨(Nat.le_of_ble_eq_true rfl), (Nat.le_of_ble_eq_true rfl)⟩ a0 rfl (Nat.le_of_ble_eq_true rfl) hm (Nat.le_refl _) (Nat.le_refl _) (fun v h1 q => by cases q.1) (fun k h1 q => ?_)
  obtain ⟨q1, q2⟩ := q
  cases q1
  refine ⟨(0, 12, 15, 13), 5, ⟨by decide, [], [(0, 12, 19, 15), (0, 12, 23, 17)], rfl, (fun z hz => by cases hz), by decide, by decide, by decide, lcl_8_13⟩, by decide, Or.inr ⟨dL_takeOut_15, ?_⟩⟩
  refine ev_pc (pc' := 17) rfl ?_
  refine ev_iconst (nI 1) dL_takeOut_17 rfl ?_
  refine ev_ireturn dL_takeOut_18 rfl (Or.inl rfl) (Nat.le_refl _) (Nat.le_refl _) ?_
  exact ⟨rfl, q2⟩
set_option maxHeartbeats 4000000 in
set_option maxRecDepth 100000 in
theorem x1_takeOut {X : mX} {h : mH} (a0 : h 0 = some obC) (t : Int32) (u : Int32) (w : Int32) {P : mH → Prop} (hm : CnX X m_X6_takeOut [.ref 0, .int t, .int u, .int w] h 1 P) : CnH X m_L_takeOut none none 1 6 [.ref 0, .int t, .int u, .int w, .ref 283] h (fun o h1 => o = .inl (some (.int (nI 2))) ∧ P h1) := by
  refine cnH_of_ev (L0 := [_, _, _, _, _, _]) (by decide +kernel) rfl (Nat.le_of_ble_eq_true rfl) rfl ?_
  refine ev_aload dL_takeOut_0 rfl ?_
  refine ev_iconst (nI 0) dL_takeOut_2 rfl ?_
  refine ev_aload_n dL_takeOut_3 rfl rfl ?_
  refine ev_iload_n dL_takeOut_4 rfl rfl ?_
  refine ev_iload_n dL_takeOut_5 rfl rfl ?_
  refine ev_iload_n dL_takeOut_6 rfl rfl ?_
  refine ev_callVH (as := [.int t, .int u, .int w]) dL_takeOut_7 cal_X6_takeOut lk_8_23 ⟨(Nat.le_of_ble_eq_true rfl), (Nat.le_of_ble_eq_true rfl)⟩ a0 rfl (Nat.le_of_ble_eq_true rfl) hm (Nat.le_refl _) (Nat.le_refl _) (fun v h1 q => by cases q.1) (fun k h1 q => ?_)
  obtain ⟨q1, q2⟩ := q
  cases q1
  refine ⟨(0, 12, 19, 15), 5, ⟨by decide, [(0, 12, 15, 13)], [(0, 12, 23, 17)], rfl, (fun z hz => by obtain rfl : z = (0, 12, 15, 13) := (by simpa using hz); exact ⟨by decide, 0, by decide, by decide, lcl_8_13⟩), by decide, by decide, by decide, lcl_8_15⟩, by decide, Or.inr ⟨dL_takeOut_19, ?_⟩⟩
  refine ev_pc (pc' := 21) rfl ?_
  refine ev_iconst (nI 2) dL_takeOut_21 rfl ?_
  refine ev_ireturn dL_takeOut_22 rfl (Or.inl rfl) (Nat.le_refl _) (Nat.le_refl _) ?_
  exact ⟨rfl, q2⟩
set_option maxHeartbeats 4000000 in
set_option maxRecDepth 100000 in
theorem x2_takeOut {X : mX} {h : mH} (a0 : h 0 = some obC) (t : Int32) (u : Int32) (w : Int32) {P : mH → Prop} (hm : CnX X m_X6_takeOut [.ref 0, .int t, .int u, .int w] h 2 P) : CnH X m_L_takeOut none none 1 6 [.ref 0, .int t, .int u, .int w, .ref 283] h (fun o h1 => o = .inl (some (.int (nI 3))) ∧ P h1) := by
  refine cnH_of_ev (L0 := [_, _, _, _, _, _]) (by decide +kernel) rfl (Nat.le_of_ble_eq_true rfl) rfl ?_
  refine ev_aload dL_takeOut_0 rfl ?_
  refine ev_iconst (nI 0) dL_takeOut_2 rfl ?_
  refine ev_aload_n dL_takeOut_3 rfl rfl ?_
  refine ev_iload_n dL_takeOut_4 rfl rfl ?_
  refine ev_iload_n dL_takeOut_5 rfl rfl ?_
  refine ev_iload_n dL_takeOut_6 rfl rfl ?_
  refine ev_callVH (as := [.int t, .int u, .int w]) dL_takeOut_7 cal_X6_takeOut lk_8_23 ⟨(Nat.le_of_ble_eq_true rfl), (Nat.le_of_ble_eq_true rfl)⟩ a0 rfl (Nat.le_of_ble_eq_true rfl) hm (Nat.le_refl _) (Nat.le_refl _) (fun v h1 q => by cases q.1) (fun k h1 q => ?_)
  obtain ⟨q1, q2⟩ := q
  cases q1
  refine ⟨(0, 12, 23, 17), 5, ⟨by decide, [(0, 12, 15, 13), (0, 12, 19, 15)], [], rfl, (fun z hz => by
      rcases List.mem_cons.mp hz with rfl | hz
      · exact ⟨by decide, 0, by decide, by decide, lcl_8_13⟩
      · obtain rfl : z = (0, 12, 19, 15) := by simpa using hz
        exact ⟨by decide, 1, by decide, by decide, lcl_8_15⟩), by decide, by decide, by decide, lcl_8_17⟩, by decide, Or.inr ⟨dL_takeOut_23, ?_⟩⟩
  refine ev_pc (pc' := 25) rfl ?_
  refine ev_iconst (nI 3) dL_takeOut_25 rfl ?_
  refine ev_ireturn dL_takeOut_26 rfl (Or.inl rfl) (Nat.le_refl _) (Nat.le_refl _) ?_
  exact ⟨rfl, q2⟩
set_option maxHeartbeats 4000000 in
set_option maxRecDepth 100000 in
theorem n_copy {X : mX} {h : mH} (a0 : h 0 = some obC) (t : Int32) (u : Int32) {P : Option Value → mH → Prop} (hm : CnU X m_X6_copy [.ref 0, .int t, .int u] h P) (hP : ∀ v h1, P v h1 → ∃ y g, v = some (.int y) ∧ h1 283 = some (aL 1 g)) : CnH X m_L_copy none none 1 6 [.ref 0, .int t, .int u, .ref 283] h (fun o h1 => o = .inl (some (.int (nI 0))) ∧ ∃ h2 y g, P (some (.int y)) h2 ∧ h2 283 = some (aL 1 g) ∧ h1 = mset h2 283 (aL 1 (vp_updL g 0 y.toInt64))) := by
  refine cnH_of_ev (L0 := [_, _, _, _, _]) (by decide +kernel) rfl (Nat.le_of_ble_eq_true rfl) rfl ?_
  refine ev_aload_n dL_copy_0 rfl rfl ?_
  refine ev_iconst (nI 0) dL_copy_1 rfl ?_
  refine ev_aload_n dL_copy_2 rfl rfl ?_
  refine ev_iload_n dL_copy_3 rfl rfl ?_
  refine ev_iload_n dL_copy_4 rfl rfl ?_
  refine ev_callVH (as := [.int t, .int u]) dL_copy_5 cal_X6_copy lk_8_27 ⟨(Nat.le_of_ble_eq_true rfl), (Nat.le_of_ble_eq_true rfl)⟩ a0 rfl (Nat.le_of_ble_eq_true rfl) hm (Nat.zero_le _) (Nat.zero_le _) (fun v h1 q => ?_) (fun k h1 q => by obtain ⟨v, q1, -⟩ := q; cases q1)
  obtain ⟨v1, q1, q2⟩ := q
  cases q1
  obtain ⟨y, g, rfl, hg⟩ := hP _ _ q2
  refine ev_pc (pc' := 8) rfl ?_
  refine ev_i2l dL_copy_8 ?_
  refine ev_lastoreN dL_copy_9 (hg) (by decide) (by decide) ?_
  refine ev_goto 21 dL_copy_10 rfl ?_
  refine ev_iconst (nI 0) dL_copy_21 rfl ?_
  refine ev_ireturn dL_copy_22 rfl (Or.inl rfl) (Nat.zero_le _) (Nat.zero_le _) ?_
  exact ⟨rfl, _, y, g, q2, hg, rfl⟩
set_option maxHeartbeats 4000000 in
set_option maxRecDepth 100000 in
theorem x0_copy {X : mX} {h : mH} (a0 : h 0 = some obC) (t : Int32) (u : Int32) {P : mH → Prop} (hm : CnX X m_X6_copy [.ref 0, .int t, .int u] h 0 P) : CnH X m_L_copy none none 1 6 [.ref 0, .int t, .int u, .ref 283] h (fun o h1 => o = .inl (some (.int (nI 1))) ∧ P h1) := by
  refine cnH_of_ev (L0 := [_, _, _, _, _]) (by decide +kernel) rfl (Nat.le_of_ble_eq_true rfl) rfl ?_
  refine ev_aload_n dL_copy_0 rfl rfl ?_
  refine ev_iconst (nI 0) dL_copy_1 rfl ?_
  refine ev_aload_n dL_copy_2 rfl rfl ?_
  refine ev_iload_n dL_copy_3 rfl rfl ?_
  refine ev_iload_n dL_copy_4 rfl rfl ?_
  refine ev_callVH (as := [.int t, .int u]) dL_copy_5 cal_X6_copy lk_8_27 ⟨(Nat.le_of_ble_eq_true rfl), (Nat.le_of_ble_eq_true rfl)⟩ a0 rfl (Nat.le_of_ble_eq_true rfl) hm (Nat.le_refl _) (Nat.le_refl _) (fun v h1 q => by cases q.1) (fun k h1 q => ?_)
  obtain ⟨q1, q2⟩ := q
  cases q1
  refine ⟨(0, 10, 13, 13), 4, ⟨by decide, [], [(0, 10, 17, 17)], rfl, (fun z hz => by cases hz), by decide, by decide, by decide, lcl_8_13⟩, by decide, Or.inr ⟨dL_copy_13, ?_⟩⟩
  refine ev_pc (pc' := 15) rfl ?_
  refine ev_iconst (nI 1) dL_copy_15 rfl ?_
  refine ev_ireturn dL_copy_16 rfl (Or.inl rfl) (Nat.le_refl _) (Nat.le_refl _) ?_
  exact ⟨rfl, q2⟩
set_option maxHeartbeats 4000000 in
set_option maxRecDepth 100000 in
theorem x2_copy {X : mX} {h : mH} (a0 : h 0 = some obC) (t : Int32) (u : Int32) {P : mH → Prop} (hm : CnX X m_X6_copy [.ref 0, .int t, .int u] h 2 P) : CnH X m_L_copy none none 1 6 [.ref 0, .int t, .int u, .ref 283] h (fun o h1 => o = .inl (some (.int (nI 2))) ∧ P h1) := by
  refine cnH_of_ev (L0 := [_, _, _, _, _]) (by decide +kernel) rfl (Nat.le_of_ble_eq_true rfl) rfl ?_
  refine ev_aload_n dL_copy_0 rfl rfl ?_
  refine ev_iconst (nI 0) dL_copy_1 rfl ?_
  refine ev_aload_n dL_copy_2 rfl rfl ?_
  refine ev_iload_n dL_copy_3 rfl rfl ?_
  refine ev_iload_n dL_copy_4 rfl rfl ?_
  refine ev_callVH (as := [.int t, .int u]) dL_copy_5 cal_X6_copy lk_8_27 ⟨(Nat.le_of_ble_eq_true rfl), (Nat.le_of_ble_eq_true rfl)⟩ a0 rfl (Nat.le_of_ble_eq_true rfl) hm (Nat.le_refl _) (Nat.le_refl _) (fun v h1 q => by cases q.1) (fun k h1 q => ?_)
  obtain ⟨q1, q2⟩ := q
  cases q1
  refine ⟨(0, 10, 17, 17), 4, ⟨by decide, [(0, 10, 13, 13)], [], rfl, (fun z hz => by obtain rfl : z = (0, 10, 13, 13) := (by simpa using hz); exact ⟨by decide, 0, by decide, by decide, lcl_8_13⟩), by decide, by decide, by decide, lcl_8_17⟩, by decide, Or.inr ⟨dL_copy_17, ?_⟩⟩
  refine ev_pc (pc' := 19) rfl ?_
  refine ev_iconst (nI 2) dL_copy_19 rfl ?_
  refine ev_ireturn dL_copy_20 rfl (Or.inl rfl) (Nat.le_refl _) (Nat.le_refl _) ?_
  exact ⟨rfl, q2⟩
set_option maxHeartbeats 4000000 in
set_option maxRecDepth 100000 in
theorem n_rotate {X : mX} {h : mH} (a0 : h 0 = some obC) (t : Int32) (u : Int32) {P : Option Value → mH → Prop} (hm : CnU X m_X6_rotate [.ref 0, .int t, .int u] h P) (hP : ∀ v h1, P v h1 → ∃ y g, v = some (.int y) ∧ h1 283 = some (aL 1 g)) : CnH X m_L_rotate none none 1 6 [.ref 0, .int t, .int u, .ref 283] h (fun o h1 => o = .inl (some (.int (nI 0))) ∧ ∃ h2 y g, P (some (.int y)) h2 ∧ h2 283 = some (aL 1 g) ∧ h1 = mset h2 283 (aL 1 (vp_updL g 0 y.toInt64))) := by
  refine cnH_of_ev (L0 := [_, _, _, _, _]) (by decide +kernel) rfl (Nat.le_of_ble_eq_true rfl) rfl ?_
  refine ev_aload_n dL_rotate_0 rfl rfl ?_
  refine ev_iconst (nI 0) dL_rotate_1 rfl ?_
  refine ev_aload_n dL_rotate_2 rfl rfl ?_
  refine ev_iload_n dL_rotate_3 rfl rfl ?_
  refine ev_iload_n dL_rotate_4 rfl rfl ?_
  refine ev_callVH (as := [.int t, .int u]) dL_rotate_5 cal_X6_rotate lk_8_30 ⟨(Nat.le_of_ble_eq_true rfl), (Nat.le_of_ble_eq_true rfl)⟩ a0 rfl (Nat.le_of_ble_eq_true rfl) hm (Nat.zero_le _) (Nat.zero_le _) (fun v h1 q => ?_) (fun k h1 q => by obtain ⟨v, q1, -⟩ := q; cases q1)
  obtain ⟨v1, q1, q2⟩ := q
  cases q1
  obtain ⟨y, g, rfl, hg⟩ := hP _ _ q2
  refine ev_pc (pc' := 8) rfl ?_
  refine ev_i2l dL_rotate_8 ?_
  refine ev_lastoreN dL_rotate_9 (hg) (by decide) (by decide) ?_
  refine ev_goto 25 dL_rotate_10 rfl ?_
  refine ev_iconst (nI 0) dL_rotate_25 rfl ?_
  refine ev_ireturn dL_rotate_26 rfl (Or.inl rfl) (Nat.zero_le _) (Nat.zero_le _) ?_
  exact ⟨rfl, _, y, g, q2, hg, rfl⟩
set_option maxHeartbeats 4000000 in
set_option maxRecDepth 100000 in
theorem x0_rotate {X : mX} {h : mH} (a0 : h 0 = some obC) (t : Int32) (u : Int32) {P : mH → Prop} (hm : CnX X m_X6_rotate [.ref 0, .int t, .int u] h 0 P) : CnH X m_L_rotate none none 1 6 [.ref 0, .int t, .int u, .ref 283] h (fun o h1 => o = .inl (some (.int (nI 1))) ∧ P h1) := by
  refine cnH_of_ev (L0 := [_, _, _, _, _]) (by decide +kernel) rfl (Nat.le_of_ble_eq_true rfl) rfl ?_
  refine ev_aload_n dL_rotate_0 rfl rfl ?_
  refine ev_iconst (nI 0) dL_rotate_1 rfl ?_
  refine ev_aload_n dL_rotate_2 rfl rfl ?_
  refine ev_iload_n dL_rotate_3 rfl rfl ?_
  refine ev_iload_n dL_rotate_4 rfl rfl ?_
  refine ev_callVH (as := [.int t, .int u]) dL_rotate_5 cal_X6_rotate lk_8_30 ⟨(Nat.le_of_ble_eq_true rfl), (Nat.le_of_ble_eq_true rfl)⟩ a0 rfl (Nat.le_of_ble_eq_true rfl) hm (Nat.le_refl _) (Nat.le_refl _) (fun v h1 q => by cases q.1) (fun k h1 q => ?_)
  obtain ⟨q1, q2⟩ := q
  cases q1
  refine ⟨(0, 10, 13, 13), 4, ⟨by decide, [], [(0, 10, 17, 15), (0, 10, 21, 17)], rfl, (fun z hz => by cases hz), by decide, by decide, by decide, lcl_8_13⟩, by decide, Or.inr ⟨dL_rotate_13, ?_⟩⟩
  refine ev_pc (pc' := 15) rfl ?_
  refine ev_iconst (nI 1) dL_rotate_15 rfl ?_
  refine ev_ireturn dL_rotate_16 rfl (Or.inl rfl) (Nat.le_refl _) (Nat.le_refl _) ?_
  exact ⟨rfl, q2⟩
set_option maxHeartbeats 4000000 in
set_option maxRecDepth 100000 in
theorem x1_rotate {X : mX} {h : mH} (a0 : h 0 = some obC) (t : Int32) (u : Int32) {P : mH → Prop} (hm : CnX X m_X6_rotate [.ref 0, .int t, .int u] h 1 P) : CnH X m_L_rotate none none 1 6 [.ref 0, .int t, .int u, .ref 283] h (fun o h1 => o = .inl (some (.int (nI 2))) ∧ P h1) := by
  refine cnH_of_ev (L0 := [_, _, _, _, _]) (by decide +kernel) rfl (Nat.le_of_ble_eq_true rfl) rfl ?_
  refine ev_aload_n dL_rotate_0 rfl rfl ?_
  refine ev_iconst (nI 0) dL_rotate_1 rfl ?_
  refine ev_aload_n dL_rotate_2 rfl rfl ?_
  refine ev_iload_n dL_rotate_3 rfl rfl ?_
  refine ev_iload_n dL_rotate_4 rfl rfl ?_
  refine ev_callVH (as := [.int t, .int u]) dL_rotate_5 cal_X6_rotate lk_8_30 ⟨(Nat.le_of_ble_eq_true rfl), (Nat.le_of_ble_eq_true rfl)⟩ a0 rfl (Nat.le_of_ble_eq_true rfl) hm (Nat.le_refl _) (Nat.le_refl _) (fun v h1 q => by cases q.1) (fun k h1 q => ?_)
  obtain ⟨q1, q2⟩ := q
  cases q1
  refine ⟨(0, 10, 17, 15), 4, ⟨by decide, [(0, 10, 13, 13)], [(0, 10, 21, 17)], rfl, (fun z hz => by obtain rfl : z = (0, 10, 13, 13) := (by simpa using hz); exact ⟨by decide, 0, by decide, by decide, lcl_8_13⟩), by decide, by decide, by decide, lcl_8_15⟩, by decide, Or.inr ⟨dL_rotate_17, ?_⟩⟩
  refine ev_pc (pc' := 19) rfl ?_
  refine ev_iconst (nI 2) dL_rotate_19 rfl ?_
  refine ev_ireturn dL_rotate_20 rfl (Or.inl rfl) (Nat.le_refl _) (Nat.le_refl _) ?_
  exact ⟨rfl, q2⟩
set_option maxHeartbeats 4000000 in
set_option maxRecDepth 100000 in
theorem x2_rotate {X : mX} {h : mH} (a0 : h 0 = some obC) (t : Int32) (u : Int32) {P : mH → Prop} (hm : CnX X m_X6_rotate [.ref 0, .int t, .int u] h 2 P) : CnH X m_L_rotate none none 1 6 [.ref 0, .int t, .int u, .ref 283] h (fun o h1 => o = .inl (some (.int (nI 3))) ∧ P h1) := by
  refine cnH_of_ev (L0 := [_, _, _, _, _]) (by decide +kernel) rfl (Nat.le_of_ble_eq_true rfl) rfl ?_
  refine ev_aload_n dL_rotate_0 rfl rfl ?_
  refine ev_iconst (nI 0) dL_rotate_1 rfl ?_
  refine ev_aload_n dL_rotate_2 rfl rfl ?_
  refine ev_iload_n dL_rotate_3 rfl rfl ?_
  refine ev_iload_n dL_rotate_4 rfl rfl ?_
  refine ev_callVH (as := [.int t, .int u]) dL_rotate_5 cal_X6_rotate lk_8_30 ⟨(Nat.le_of_ble_eq_true rfl), (Nat.le_of_ble_eq_true rfl)⟩ a0 rfl (Nat.le_of_ble_eq_true rfl) hm (Nat.le_refl _) (Nat.le_refl _) (fun v h1 q => by cases q.1) (fun k h1 q => ?_)
  obtain ⟨q1, q2⟩ := q
  cases q1
  refine ⟨(0, 10, 21, 17), 4, ⟨by decide, [(0, 10, 13, 13), (0, 10, 17, 15)], [], rfl, (fun z hz => by
      rcases List.mem_cons.mp hz with rfl | hz
      · exact ⟨by decide, 0, by decide, by decide, lcl_8_13⟩
      · obtain rfl : z = (0, 10, 17, 15) := by simpa using hz
        exact ⟨by decide, 1, by decide, by decide, lcl_8_15⟩), by decide, by decide, by decide, lcl_8_17⟩, by decide, Or.inr ⟨dL_rotate_21, ?_⟩⟩
  refine ev_pc (pc' := 23) rfl ?_
  refine ev_iconst (nI 3) dL_rotate_23 rfl ?_
  refine ev_ireturn dL_rotate_24 rfl (Or.inl rfl) (Nat.le_refl _) (Nat.le_refl _) ?_
  exact ⟨rfl, q2⟩
set_option maxHeartbeats 4000000 in
set_option maxRecDepth 100000 in
theorem n_drop {X : mX} {h : mH} (a0 : h 0 = some obC) (t : Int32) {P : Option Value → mH → Prop} (hm : CnU X m_X6_drop [.ref 0, .int t] h P) (hP : ∀ v h1, P v h1 → ∃ y g, v = some (.int y) ∧ h1 283 = some (aL 1 g)) : CnH X m_L_drop none none 1 6 [.ref 0, .int t, .ref 283] h (fun o h1 => o = .inl (some (.int (nI 0))) ∧ ∃ h2 y g, P (some (.int y)) h2 ∧ h2 283 = some (aL 1 g) ∧ h1 = mset h2 283 (aL 1 (vp_updL g 0 y.toInt64))) := by
  refine cnH_of_ev (L0 := [_, _, _, _]) (by decide +kernel) rfl (Nat.le_of_ble_eq_true rfl) rfl ?_
  refine ev_aload_n dL_drop_0 rfl rfl ?_
  refine ev_iconst (nI 0) dL_drop_1 rfl ?_
  refine ev_aload_n dL_drop_2 rfl rfl ?_
  refine ev_iload_n dL_drop_3 rfl rfl ?_
  refine ev_callVH (as := [.int t]) dL_drop_4 cal_X6_drop lk_8_33 ⟨(Nat.le_of_ble_eq_true rfl), (Nat.le_of_ble_eq_true rfl)⟩ a0 rfl (Nat.le_of_ble_eq_true rfl) hm (Nat.zero_le _) (Nat.zero_le _) (fun v h1 q => ?_) (fun k h1 q => by obtain ⟨v, q1, -⟩ := q; cases q1)
  obtain ⟨v1, q1, q2⟩ := q
  cases q1
  obtain ⟨y, g, rfl, hg⟩ := hP _ _ q2
  refine ev_pc (pc' := 7) rfl ?_
  refine ev_i2l dL_drop_7 ?_
  refine ev_lastoreN dL_drop_8 (hg) (by decide) (by decide) ?_
  refine ev_goto 15 dL_drop_9 rfl ?_
  refine ev_iconst (nI 0) dL_drop_15 rfl ?_
  refine ev_ireturn dL_drop_16 rfl (Or.inl rfl) (Nat.zero_le _) (Nat.zero_le _) ?_
  exact ⟨rfl, _, y, g, q2, hg, rfl⟩
set_option maxHeartbeats 4000000 in
set_option maxRecDepth 100000 in
theorem x0_drop {X : mX} {h : mH} (a0 : h 0 = some obC) (t : Int32) {P : mH → Prop} (hm : CnX X m_X6_drop [.ref 0, .int t] h 0 P) : CnH X m_L_drop none none 1 6 [.ref 0, .int t, .ref 283] h (fun o h1 => o = .inl (some (.int (nI 1))) ∧ P h1) := by
  refine cnH_of_ev (L0 := [_, _, _, _]) (by decide +kernel) rfl (Nat.le_of_ble_eq_true rfl) rfl ?_
  refine ev_aload_n dL_drop_0 rfl rfl ?_
  refine ev_iconst (nI 0) dL_drop_1 rfl ?_
  refine ev_aload_n dL_drop_2 rfl rfl ?_
  refine ev_iload_n dL_drop_3 rfl rfl ?_
  refine ev_callVH (as := [.int t]) dL_drop_4 cal_X6_drop lk_8_33 ⟨(Nat.le_of_ble_eq_true rfl), (Nat.le_of_ble_eq_true rfl)⟩ a0 rfl (Nat.le_of_ble_eq_true rfl) hm (Nat.le_refl _) (Nat.le_refl _) (fun v h1 q => by cases q.1) (fun k h1 q => ?_)
  obtain ⟨q1, q2⟩ := q
  cases q1
  refine ⟨(0, 9, 12, 13), 3, ⟨by decide, [], [], rfl, (fun z hz => by cases hz), by decide, by decide, by decide, lcl_8_13⟩, by decide, Or.inl ⟨3, dL_drop_12, rfl, ?_⟩⟩
  refine ev_pc (pc' := 13) rfl ?_
  refine ev_iconst (nI 1) dL_drop_13 rfl ?_
  refine ev_ireturn dL_drop_14 rfl (Or.inl rfl) (Nat.le_refl _) (Nat.le_refl _) ?_
  exact ⟨rfl, q2⟩
set_option maxHeartbeats 4000000 in
set_option maxRecDepth 100000 in
theorem n_set {X : mX} {h : mH} (a0 : h 0 = some obC) (t : Int32) (u : Int32) {P : Option Value → mH → Prop} (hm : CnU X m_X6_set [.ref 0, .int t, .int u] h P) (hP : ∀ v h1, P v h1 → ∃ y g, v = some (.int y) ∧ h1 283 = some (aL 1 g)) : CnH X m_L_set none none 1 6 [.ref 0, .int t, .int u, .ref 283] h (fun o h1 => o = .inl (some (.int (nI 0))) ∧ ∃ h2 y g, P (some (.int y)) h2 ∧ h2 283 = some (aL 1 g) ∧ h1 = mset h2 283 (aL 1 (vp_updL g 0 y.toInt64))) := by
  refine cnH_of_ev (L0 := [_, _, _, _, _]) (by decide +kernel) rfl (Nat.le_of_ble_eq_true rfl) rfl ?_
  refine ev_aload_n dL_set_0 rfl rfl ?_
  refine ev_iconst (nI 0) dL_set_1 rfl ?_
  refine ev_aload_n dL_set_2 rfl rfl ?_
  refine ev_iload_n dL_set_3 rfl rfl ?_
  refine ev_iload_n dL_set_4 rfl rfl ?_
  refine ev_callVH (as := [.int t, .int u]) dL_set_5 cal_X6_set lk_8_36 ⟨(Nat.le_of_ble_eq_true rfl), (Nat.le_of_ble_eq_true rfl)⟩ a0 rfl (Nat.le_of_ble_eq_true rfl) hm (Nat.zero_le _) (Nat.zero_le _) (fun v h1 q => ?_) (fun k h1 q => by obtain ⟨v, q1, -⟩ := q; cases q1)
  obtain ⟨v1, q1, q2⟩ := q
  cases q1
  obtain ⟨y, g, rfl, hg⟩ := hP _ _ q2
  refine ev_pc (pc' := 8) rfl ?_
  refine ev_i2l dL_set_8 ?_
  refine ev_lastoreN dL_set_9 (hg) (by decide) (by decide) ?_
  refine ev_goto 21 dL_set_10 rfl ?_
  refine ev_iconst (nI 0) dL_set_21 rfl ?_
  refine ev_ireturn dL_set_22 rfl (Or.inl rfl) (Nat.zero_le _) (Nat.zero_le _) ?_
  exact ⟨rfl, _, y, g, q2, hg, rfl⟩
set_option maxHeartbeats 4000000 in
set_option maxRecDepth 100000 in
theorem x0_set {X : mX} {h : mH} (a0 : h 0 = some obC) (t : Int32) (u : Int32) {P : mH → Prop} (hm : CnX X m_X6_set [.ref 0, .int t, .int u] h 0 P) : CnH X m_L_set none none 1 6 [.ref 0, .int t, .int u, .ref 283] h (fun o h1 => o = .inl (some (.int (nI 1))) ∧ P h1) := by
  refine cnH_of_ev (L0 := [_, _, _, _, _]) (by decide +kernel) rfl (Nat.le_of_ble_eq_true rfl) rfl ?_
  refine ev_aload_n dL_set_0 rfl rfl ?_
  refine ev_iconst (nI 0) dL_set_1 rfl ?_
  refine ev_aload_n dL_set_2 rfl rfl ?_
  refine ev_iload_n dL_set_3 rfl rfl ?_
  refine ev_iload_n dL_set_4 rfl rfl ?_
  refine ev_callVH (as := [.int t, .int u]) dL_set_5 cal_X6_set lk_8_36 ⟨(Nat.le_of_ble_eq_true rfl), (Nat.le_of_ble_eq_true rfl)⟩ a0 rfl (Nat.le_of_ble_eq_true rfl) hm (Nat.le_refl _) (Nat.le_refl _) (fun v h1 q => by cases q.1) (fun k h1 q => ?_)
  obtain ⟨q1, q2⟩ := q
  cases q1
  refine ⟨(0, 10, 13, 13), 4, ⟨by decide, [], [(0, 10, 17, 15)], rfl, (fun z hz => by cases hz), by decide, by decide, by decide, lcl_8_13⟩, by decide, Or.inr ⟨dL_set_13, ?_⟩⟩
  refine ev_pc (pc' := 15) rfl ?_
  refine ev_iconst (nI 1) dL_set_15 rfl ?_
  refine ev_ireturn dL_set_16 rfl (Or.inl rfl) (Nat.le_refl _) (Nat.le_refl _) ?_
  exact ⟨rfl, q2⟩
set_option maxHeartbeats 4000000 in
set_option maxRecDepth 100000 in
theorem x1_set {X : mX} {h : mH} (a0 : h 0 = some obC) (t : Int32) (u : Int32) {P : mH → Prop} (hm : CnX X m_X6_set [.ref 0, .int t, .int u] h 1 P) : CnH X m_L_set none none 1 6 [.ref 0, .int t, .int u, .ref 283] h (fun o h1 => o = .inl (some (.int (nI 2))) ∧ P h1) := by
  refine cnH_of_ev (L0 := [_, _, _, _, _]) (by decide +kernel) rfl (Nat.le_of_ble_eq_true rfl) rfl ?_
  refine ev_aload_n dL_set_0 rfl rfl ?_
  refine ev_iconst (nI 0) dL_set_1 rfl ?_
  refine ev_aload_n dL_set_2 rfl rfl ?_
  refine ev_iload_n dL_set_3 rfl rfl ?_
  refine ev_iload_n dL_set_4 rfl rfl ?_
  refine ev_callVH (as := [.int t, .int u]) dL_set_5 cal_X6_set lk_8_36 ⟨(Nat.le_of_ble_eq_true rfl), (Nat.le_of_ble_eq_true rfl)⟩ a0 rfl (Nat.le_of_ble_eq_true rfl) hm (Nat.le_refl _) (Nat.le_refl _) (fun v h1 q => by cases q.1) (fun k h1 q => ?_)
  obtain ⟨q1, q2⟩ := q
  cases q1
  refine ⟨(0, 10, 17, 15), 4, ⟨by decide, [(0, 10, 13, 13)], [], rfl, (fun z hz => by obtain rfl : z = (0, 10, 13, 13) := (by simpa using hz); exact ⟨by decide, 0, by decide, by decide, lcl_8_13⟩), by decide, by decide, by decide, lcl_8_15⟩, by decide, Or.inr ⟨dL_set_17, ?_⟩⟩
  refine ev_pc (pc' := 19) rfl ?_
  refine ev_iconst (nI 2) dL_set_19 rfl ?_
  refine ev_ireturn dL_set_20 rfl (Or.inl rfl) (Nat.le_refl _) (Nat.le_refl _) ?_
  exact ⟨rfl, q2⟩
set_option maxHeartbeats 4000000 in
set_option maxRecDepth 100000 in
theorem n_append {X : mX} {h : mH} (a0 : h 0 = some obC) (t : Int32) {P : Option Value → mH → Prop} (hm : CnU X m_X6_append [.ref 0, .int t] h P) (hP : ∀ v h1, P v h1 → ∃ y g, v = some (.int y) ∧ h1 283 = some (aL 1 g)) : CnH X m_L_append none none 1 6 [.ref 0, .int t, .ref 283] h (fun o h1 => o = .inl (some (.int (nI 0))) ∧ ∃ h2 y g, P (some (.int y)) h2 ∧ h2 283 = some (aL 1 g) ∧ h1 = mset h2 283 (aL 1 (vp_updL g 0 y.toInt64))) := by
  refine cnH_of_ev (L0 := [_, _, _, _]) (by decide +kernel) rfl (Nat.le_of_ble_eq_true rfl) rfl ?_
  refine ev_aload_n dL_append_0 rfl rfl ?_
  refine ev_iconst (nI 0) dL_append_1 rfl ?_
  refine ev_aload_n dL_append_2 rfl rfl ?_
  refine ev_iload_n dL_append_3 rfl rfl ?_
  refine ev_callVH (as := [.int t]) dL_append_4 cal_X6_append lk_8_39 ⟨(Nat.le_of_ble_eq_true rfl), (Nat.le_of_ble_eq_true rfl)⟩ a0 rfl (Nat.le_of_ble_eq_true rfl) hm (Nat.zero_le _) (Nat.zero_le _) (fun v h1 q => ?_) (fun k h1 q => by obtain ⟨v, q1, -⟩ := q; cases q1)
  obtain ⟨v1, q1, q2⟩ := q
  cases q1
  obtain ⟨y, g, rfl, hg⟩ := hP _ _ q2
  refine ev_pc (pc' := 7) rfl ?_
  refine ev_i2l dL_append_7 ?_
  refine ev_lastoreN dL_append_8 (hg) (by decide) (by decide) ?_
  refine ev_goto 18 dL_append_9 rfl ?_
  refine ev_iconst (nI 0) dL_append_18 rfl ?_
  refine ev_ireturn dL_append_19 rfl (Or.inl rfl) (Nat.zero_le _) (Nat.zero_le _) ?_
  exact ⟨rfl, _, y, g, q2, hg, rfl⟩
set_option maxHeartbeats 4000000 in
set_option maxRecDepth 100000 in
theorem x1_append {X : mX} {h : mH} (a0 : h 0 = some obC) (t : Int32) {P : mH → Prop} (hm : CnX X m_X6_append [.ref 0, .int t] h 1 P) : CnH X m_L_append none none 1 6 [.ref 0, .int t, .ref 283] h (fun o h1 => o = .inl (some (.int (nI 1))) ∧ P h1) := by
  refine cnH_of_ev (L0 := [_, _, _, _]) (by decide +kernel) rfl (Nat.le_of_ble_eq_true rfl) rfl ?_
  refine ev_aload_n dL_append_0 rfl rfl ?_
  refine ev_iconst (nI 0) dL_append_1 rfl ?_
  refine ev_aload_n dL_append_2 rfl rfl ?_
  refine ev_iload_n dL_append_3 rfl rfl ?_
  refine ev_callVH (as := [.int t]) dL_append_4 cal_X6_append lk_8_39 ⟨(Nat.le_of_ble_eq_true rfl), (Nat.le_of_ble_eq_true rfl)⟩ a0 rfl (Nat.le_of_ble_eq_true rfl) hm (Nat.le_refl _) (Nat.le_refl _) (fun v h1 q => by cases q.1) (fun k h1 q => ?_)
  obtain ⟨q1, q2⟩ := q
  cases q1
  refine ⟨(0, 9, 12, 15), 3, ⟨by decide, [], [(0, 9, 15, 17)], rfl, (fun z hz => by cases hz), by decide, by decide, by decide, lcl_8_15⟩, by decide, Or.inl ⟨3, dL_append_12, rfl, ?_⟩⟩
  refine ev_pc (pc' := 13) rfl ?_
  refine ev_iconst (nI 1) dL_append_13 rfl ?_
  refine ev_ireturn dL_append_14 rfl (Or.inl rfl) (Nat.le_refl _) (Nat.le_refl _) ?_
  exact ⟨rfl, q2⟩
set_option maxHeartbeats 4000000 in
set_option maxRecDepth 100000 in
theorem x2_append {X : mX} {h : mH} (a0 : h 0 = some obC) (t : Int32) {P : mH → Prop} (hm : CnX X m_X6_append [.ref 0, .int t] h 2 P) : CnH X m_L_append none none 1 6 [.ref 0, .int t, .ref 283] h (fun o h1 => o = .inl (some (.int (nI 2))) ∧ P h1) := by
  refine cnH_of_ev (L0 := [_, _, _, _]) (by decide +kernel) rfl (Nat.le_of_ble_eq_true rfl) rfl ?_
  refine ev_aload_n dL_append_0 rfl rfl ?_
  refine ev_iconst (nI 0) dL_append_1 rfl ?_
  refine ev_aload_n dL_append_2 rfl rfl ?_
  refine ev_iload_n dL_append_3 rfl rfl ?_
  refine ev_callVH (as := [.int t]) dL_append_4 cal_X6_append lk_8_39 ⟨(Nat.le_of_ble_eq_true rfl), (Nat.le_of_ble_eq_true rfl)⟩ a0 rfl (Nat.le_of_ble_eq_true rfl) hm (Nat.le_refl _) (Nat.le_refl _) (fun v h1 q => by cases q.1) (fun k h1 q => ?_)
  obtain ⟨q1, q2⟩ := q
  cases q1
  refine ⟨(0, 9, 15, 17), 3, ⟨by decide, [(0, 9, 12, 15)], [], rfl, (fun z hz => by obtain rfl : z = (0, 9, 12, 15) := (by simpa using hz); exact ⟨by decide, 1, by decide, by decide, lcl_8_15⟩), by decide, by decide, by decide, lcl_8_17⟩, by decide, Or.inl ⟨3, dL_append_15, rfl, ?_⟩⟩
  refine ev_pc (pc' := 16) rfl ?_
  refine ev_iconst (nI 2) dL_append_16 rfl ?_
  refine ev_ireturn dL_append_17 rfl (Or.inl rfl) (Nat.le_refl _) (Nat.le_refl _) ?_
  exact ⟨rfl, q2⟩
set_option maxHeartbeats 4000000 in
set_option maxRecDepth 100000 in
theorem n_undo {X : mX} {h : mH} (a0 : h 0 = some obC)  {P : Option Value → mH → Prop} (hm : CnU X m_X6_undo [.ref 0] h P) (hP : ∀ v h1, P v h1 → ∃ y g, v = some (.int y) ∧ h1 283 = some (aL 1 g)) : CnH X m_L_undo none none 1 6 [.ref 0, .ref 283] h (fun o h1 => o = .inl (some (.int (nI 0))) ∧ ∃ h2 y g, P (some (.int y)) h2 ∧ h2 283 = some (aL 1 g) ∧ h1 = mset h2 283 (aL 1 (vp_updL g 0 y.toInt64))) := by
  refine cnH_of_ev (L0 := [_, _, _]) (by decide +kernel) rfl (Nat.le_of_ble_eq_true rfl) rfl ?_
  refine ev_aload_n dL_undo_0 rfl rfl ?_
  refine ev_iconst (nI 0) dL_undo_1 rfl ?_
  refine ev_aload_n dL_undo_2 rfl rfl ?_
  refine ev_callVH (as := []) dL_undo_3 cal_X6_undo lk_8_42 ⟨(Nat.le_of_ble_eq_true rfl), (Nat.le_of_ble_eq_true rfl)⟩ a0 rfl (Nat.le_of_ble_eq_true rfl) hm (Nat.zero_le _) (Nat.zero_le _) (fun v h1 q => ?_) (fun k h1 q => by obtain ⟨v, q1, -⟩ := q; cases q1)
  obtain ⟨v1, q1, q2⟩ := q
  cases q1
  obtain ⟨y, g, rfl, hg⟩ := hP _ _ q2
  refine ev_pc (pc' := 6) rfl ?_
  refine ev_i2l dL_undo_6 ?_
  refine ev_lastoreN dL_undo_7 (hg) (by decide) (by decide) ?_
  refine ev_goto 14 dL_undo_8 rfl ?_
  refine ev_iconst (nI 0) dL_undo_14 rfl ?_
  refine ev_ireturn dL_undo_15 rfl (Or.inl rfl) (Nat.zero_le _) (Nat.zero_le _) ?_
  exact ⟨rfl, _, y, g, q2, hg, rfl⟩
set_option maxHeartbeats 4000000 in
set_option maxRecDepth 100000 in
theorem x2_undo {X : mX} {h : mH} (a0 : h 0 = some obC)  {P : mH → Prop} (hm : CnX X m_X6_undo [.ref 0] h 2 P) : CnH X m_L_undo none none 1 6 [.ref 0, .ref 283] h (fun o h1 => o = .inl (some (.int (nI 1))) ∧ P h1) := by
  refine cnH_of_ev (L0 := [_, _, _]) (by decide +kernel) rfl (Nat.le_of_ble_eq_true rfl) rfl ?_
  refine ev_aload_n dL_undo_0 rfl rfl ?_
  refine ev_iconst (nI 0) dL_undo_1 rfl ?_
  refine ev_aload_n dL_undo_2 rfl rfl ?_
  refine ev_callVH (as := []) dL_undo_3 cal_X6_undo lk_8_42 ⟨(Nat.le_of_ble_eq_true rfl), (Nat.le_of_ble_eq_true rfl)⟩ a0 rfl (Nat.le_of_ble_eq_true rfl) hm (Nat.le_refl _) (Nat.le_refl _) (fun v h1 q => by cases q.1) (fun k h1 q => ?_)
  obtain ⟨q1, q2⟩ := q
  cases q1
  refine ⟨(0, 8, 11, 17), 2, ⟨by decide, [], [], rfl, (fun z hz => by cases hz), by decide, by decide, by decide, lcl_8_17⟩, by decide, Or.inl ⟨2, dL_undo_11, rfl, ?_⟩⟩
  refine ev_pc (pc' := 12) rfl ?_
  refine ev_iconst (nI 1) dL_undo_12 rfl ?_
  refine ev_ireturn dL_undo_13 rfl (Or.inl rfl) (Nat.le_refl _) (Nat.le_refl _) ?_
  exact ⟨rfl, q2⟩
set_option maxHeartbeats 4000000 in
set_option maxRecDepth 100000 in
theorem n_sign {X : mX} {h : mH} (a0 : h 0 = some obC) (t : Int32) (u : Int32) (w : Int32) {P : Option Value → mH → Prop} (hm : CnU X m_X6_sign [.ref 0, .int t, .int u, .int w] h P) (hP : ∀ v h1, P v h1 → ∃ y g, v = some (.int y) ∧ h1 283 = some (aL 1 g)) : CnH X m_L_sign none none 1 6 [.ref 0, .int t, .int u, .int w, .ref 283] h (fun o h1 => o = .inl (some (.int (nI 0))) ∧ ∃ h2 y g, P (some (.int y)) h2 ∧ h2 283 = some (aL 1 g) ∧ h1 = mset h2 283 (aL 1 (vp_updL g 0 y.toInt64))) := by
  refine cnH_of_ev (L0 := [_, _, _, _, _, _]) (by decide +kernel) rfl (Nat.le_of_ble_eq_true rfl) rfl ?_
  refine ev_aload dL_sign_0 rfl ?_
  refine ev_iconst (nI 0) dL_sign_2 rfl ?_
  refine ev_aload_n dL_sign_3 rfl rfl ?_
  refine ev_iload_n dL_sign_4 rfl rfl ?_
  refine ev_iload_n dL_sign_5 rfl rfl ?_
  refine ev_iload_n dL_sign_6 rfl rfl ?_
  refine ev_callVH (as := [.int t, .int u, .int w]) dL_sign_7 cal_X6_sign lk_8_46 ⟨(Nat.le_of_ble_eq_true rfl), (Nat.le_of_ble_eq_true rfl)⟩ a0 rfl (Nat.le_of_ble_eq_true rfl) hm (Nat.zero_le _) (Nat.zero_le _) (fun v h1 q => ?_) (fun k h1 q => by obtain ⟨v, q1, -⟩ := q; cases q1)
  obtain ⟨v1, q1, q2⟩ := q
  cases q1
  obtain ⟨y, g, rfl, hg⟩ := hP _ _ q2
  refine ev_pc (pc' := 10) rfl ?_
  refine ev_i2l dL_sign_10 ?_
  refine ev_lastoreN dL_sign_11 (hg) (by decide) (by decide) ?_
  refine ev_goto 23 dL_sign_12 rfl ?_
  refine ev_iconst (nI 0) dL_sign_23 rfl ?_
  refine ev_ireturn dL_sign_24 rfl (Or.inl rfl) (Nat.zero_le _) (Nat.zero_le _) ?_
  exact ⟨rfl, _, y, g, q2, hg, rfl⟩
set_option maxHeartbeats 4000000 in
set_option maxRecDepth 100000 in
theorem x0_sign {X : mX} {h : mH} (a0 : h 0 = some obC) (t : Int32) (u : Int32) (w : Int32) {P : mH → Prop} (hm : CnX X m_X6_sign [.ref 0, .int t, .int u, .int w] h 0 P) : CnH X m_L_sign none none 1 6 [.ref 0, .int t, .int u, .int w, .ref 283] h (fun o h1 => o = .inl (some (.int (nI 1))) ∧ P h1) := by
  refine cnH_of_ev (L0 := [_, _, _, _, _, _]) (by decide +kernel) rfl (Nat.le_of_ble_eq_true rfl) rfl ?_
  refine ev_aload dL_sign_0 rfl ?_
  refine ev_iconst (nI 0) dL_sign_2 rfl ?_
  refine ev_aload_n dL_sign_3 rfl rfl ?_
  refine ev_iload_n dL_sign_4 rfl rfl ?_
  refine ev_iload_n dL_sign_5 rfl rfl ?_
  refine ev_iload_n dL_sign_6 rfl rfl ?_
  refine ev_callVH (as := [.int t, .int u, .int w]) dL_sign_7 cal_X6_sign lk_8_46 ⟨(Nat.le_of_ble_eq_true rfl), (Nat.le_of_ble_eq_true rfl)⟩ a0 rfl (Nat.le_of_ble_eq_true rfl) hm (Nat.le_refl _) (Nat.le_refl _) (fun v h1 q => by cases q.1) (fun k h1 q => ?_)
  obtain ⟨q1, q2⟩ := q
  cases q1
  refine ⟨(0, 12, 15, 13), 5, ⟨by decide, [], [(0, 12, 19, 15)], rfl, (fun z hz => by cases hz), by decide, by decide, by decide, lcl_8_13⟩, by decide, Or.inr ⟨dL_sign_15, ?_⟩⟩
  refine ev_pc (pc' := 17) rfl ?_
  refine ev_iconst (nI 1) dL_sign_17 rfl ?_
  refine ev_ireturn dL_sign_18 rfl (Or.inl rfl) (Nat.le_refl _) (Nat.le_refl _) ?_
  exact ⟨rfl, q2⟩
set_option maxHeartbeats 4000000 in
set_option maxRecDepth 100000 in
theorem x1_sign {X : mX} {h : mH} (a0 : h 0 = some obC) (t : Int32) (u : Int32) (w : Int32) {P : mH → Prop} (hm : CnX X m_X6_sign [.ref 0, .int t, .int u, .int w] h 1 P) : CnH X m_L_sign none none 1 6 [.ref 0, .int t, .int u, .int w, .ref 283] h (fun o h1 => o = .inl (some (.int (nI 2))) ∧ P h1) := by
  refine cnH_of_ev (L0 := [_, _, _, _, _, _]) (by decide +kernel) rfl (Nat.le_of_ble_eq_true rfl) rfl ?_
  refine ev_aload dL_sign_0 rfl ?_
  refine ev_iconst (nI 0) dL_sign_2 rfl ?_
  refine ev_aload_n dL_sign_3 rfl rfl ?_
  refine ev_iload_n dL_sign_4 rfl rfl ?_
  refine ev_iload_n dL_sign_5 rfl rfl ?_
  refine ev_iload_n dL_sign_6 rfl rfl ?_
  refine ev_callVH (as := [.int t, .int u, .int w]) dL_sign_7 cal_X6_sign lk_8_46 ⟨(Nat.le_of_ble_eq_true rfl), (Nat.le_of_ble_eq_true rfl)⟩ a0 rfl (Nat.le_of_ble_eq_true rfl) hm (Nat.le_refl _) (Nat.le_refl _) (fun v h1 q => by cases q.1) (fun k h1 q => ?_)
  obtain ⟨q1, q2⟩ := q
  cases q1
  refine ⟨(0, 12, 19, 15), 5, ⟨by decide, [(0, 12, 15, 13)], [], rfl, (fun z hz => by obtain rfl : z = (0, 12, 15, 13) := (by simpa using hz); exact ⟨by decide, 0, by decide, by decide, lcl_8_13⟩), by decide, by decide, by decide, lcl_8_15⟩, by decide, Or.inr ⟨dL_sign_19, ?_⟩⟩
  refine ev_pc (pc' := 21) rfl ?_
  refine ev_iconst (nI 2) dL_sign_21 rfl ?_
  refine ev_ireturn dL_sign_22 rfl (Or.inl rfl) (Nat.le_refl _) (Nat.le_refl _) ?_
  exact ⟨rfl, q2⟩
set_option maxHeartbeats 4000000 in
set_option maxRecDepth 100000 in
theorem n_piece {X : mX} {h : mH} (a0 : h 0 = some obC) (t : Int32) (u : Int32) (w : Int32) {P : Option Value → mH → Prop} (hm : CnU X m_X6_piece [.ref 0, .int t, .int u, .int w] h P) (hP : ∀ v h1, P v h1 → ∃ y g, v = some (.int y) ∧ h1 283 = some (aL 1 g)) : CnH X m_L_piece none none 1 6 [.ref 0, .int t, .int u, .int w, .ref 283] h (fun o h1 => o = .inl (some (.int (nI 0))) ∧ ∃ h2 y g, P (some (.int y)) h2 ∧ h2 283 = some (aL 1 g) ∧ h1 = mset h2 283 (aL 1 (vp_updL g 0 y.toInt64))) := by
  refine cnH_of_ev (L0 := [_, _, _, _, _, _]) (by decide +kernel) rfl (Nat.le_of_ble_eq_true rfl) rfl ?_
  refine ev_aload dL_piece_0 rfl ?_
  refine ev_iconst (nI 0) dL_piece_2 rfl ?_
  refine ev_aload_n dL_piece_3 rfl rfl ?_
  refine ev_iload_n dL_piece_4 rfl rfl ?_
  refine ev_iload_n dL_piece_5 rfl rfl ?_
  refine ev_iload_n dL_piece_6 rfl rfl ?_
  refine ev_callVH (as := [.int t, .int u, .int w]) dL_piece_7 cal_X6_piece lk_8_49 ⟨(Nat.le_of_ble_eq_true rfl), (Nat.le_of_ble_eq_true rfl)⟩ a0 rfl (Nat.le_of_ble_eq_true rfl) hm (Nat.zero_le _) (Nat.zero_le _) (fun v h1 q => ?_) (fun k h1 q => by obtain ⟨v, q1, -⟩ := q; cases q1)
  obtain ⟨v1, q1, q2⟩ := q
  cases q1
  obtain ⟨y, g, rfl, hg⟩ := hP _ _ q2
  refine ev_pc (pc' := 10) rfl ?_
  refine ev_i2l dL_piece_10 ?_
  refine ev_lastoreN dL_piece_11 (hg) (by decide) (by decide) ?_
  refine ev_goto 23 dL_piece_12 rfl ?_
  refine ev_iconst (nI 0) dL_piece_23 rfl ?_
  refine ev_ireturn dL_piece_24 rfl (Or.inl rfl) (Nat.zero_le _) (Nat.zero_le _) ?_
  exact ⟨rfl, _, y, g, q2, hg, rfl⟩
set_option maxHeartbeats 4000000 in
set_option maxRecDepth 100000 in
theorem x0_piece {X : mX} {h : mH} (a0 : h 0 = some obC) (t : Int32) (u : Int32) (w : Int32) {P : mH → Prop} (hm : CnX X m_X6_piece [.ref 0, .int t, .int u, .int w] h 0 P) : CnH X m_L_piece none none 1 6 [.ref 0, .int t, .int u, .int w, .ref 283] h (fun o h1 => o = .inl (some (.int (nI 1))) ∧ P h1) := by
  refine cnH_of_ev (L0 := [_, _, _, _, _, _]) (by decide +kernel) rfl (Nat.le_of_ble_eq_true rfl) rfl ?_
  refine ev_aload dL_piece_0 rfl ?_
  refine ev_iconst (nI 0) dL_piece_2 rfl ?_
  refine ev_aload_n dL_piece_3 rfl rfl ?_
  refine ev_iload_n dL_piece_4 rfl rfl ?_
  refine ev_iload_n dL_piece_5 rfl rfl ?_
  refine ev_iload_n dL_piece_6 rfl rfl ?_
  refine ev_callVH (as := [.int t, .int u, .int w]) dL_piece_7 cal_X6_piece lk_8_49 ⟨(Nat.le_of_ble_eq_true rfl), (Nat.le_of_ble_eq_true rfl)⟩ a0 rfl (Nat.le_of_ble_eq_true rfl) hm (Nat.le_refl _) (Nat.le_refl _) (fun v h1 q => by cases q.1) (fun k h1 q => ?_)
  obtain ⟨q1, q2⟩ := q
  cases q1
  refine ⟨(0, 12, 15, 13), 5, ⟨by decide, [], [(0, 12, 19, 15)], rfl, (fun z hz => by cases hz), by decide, by decide, by decide, lcl_8_13⟩, by decide, Or.inr ⟨dL_piece_15, ?_⟩⟩
  refine ev_pc (pc' := 17) rfl ?_
  refine ev_iconst (nI 1) dL_piece_17 rfl ?_
  refine ev_ireturn dL_piece_18 rfl (Or.inl rfl) (Nat.le_refl _) (Nat.le_refl _) ?_
  exact ⟨rfl, q2⟩
set_option maxHeartbeats 4000000 in
set_option maxRecDepth 100000 in
theorem x1_piece {X : mX} {h : mH} (a0 : h 0 = some obC) (t : Int32) (u : Int32) (w : Int32) {P : mH → Prop} (hm : CnX X m_X6_piece [.ref 0, .int t, .int u, .int w] h 1 P) : CnH X m_L_piece none none 1 6 [.ref 0, .int t, .int u, .int w, .ref 283] h (fun o h1 => o = .inl (some (.int (nI 2))) ∧ P h1) := by
  refine cnH_of_ev (L0 := [_, _, _, _, _, _]) (by decide +kernel) rfl (Nat.le_of_ble_eq_true rfl) rfl ?_
  refine ev_aload dL_piece_0 rfl ?_
  refine ev_iconst (nI 0) dL_piece_2 rfl ?_
  refine ev_aload_n dL_piece_3 rfl rfl ?_
  refine ev_iload_n dL_piece_4 rfl rfl ?_
  refine ev_iload_n dL_piece_5 rfl rfl ?_
  refine ev_iload_n dL_piece_6 rfl rfl ?_
  refine ev_callVH (as := [.int t, .int u, .int w]) dL_piece_7 cal_X6_piece lk_8_49 ⟨(Nat.le_of_ble_eq_true rfl), (Nat.le_of_ble_eq_true rfl)⟩ a0 rfl (Nat.le_of_ble_eq_true rfl) hm (Nat.le_refl _) (Nat.le_refl _) (fun v h1 q => by cases q.1) (fun k h1 q => ?_)
  obtain ⟨q1, q2⟩ := q
  cases q1
  refine ⟨(0, 12, 19, 15), 5, ⟨by decide, [(0, 12, 15, 13)], [], rfl, (fun z hz => by obtain rfl : z = (0, 12, 15, 13) := (by simpa using hz); exact ⟨by decide, 0, by decide, by decide, lcl_8_13⟩), by decide, by decide, by decide, lcl_8_15⟩, by decide, Or.inr ⟨dL_piece_19, ?_⟩⟩
  refine ev_pc (pc' := 21) rfl ?_
  refine ev_iconst (nI 2) dL_piece_21 rfl ?_
  refine ev_ireturn dL_piece_22 rfl (Or.inl rfl) (Nat.le_refl _) (Nat.le_refl _) ?_
  exact ⟨rfl, q2⟩
set_option maxHeartbeats 4000000 in
set_option maxRecDepth 100000 in
theorem n_slot {X : mX} {h : mH} (a0 : h 0 = some obC) (t : Int32) (u : Int32) {P : Option Value → mH → Prop} (hm : CnU X m_X6_slot [.ref 0, .int t, .int u] h P) (hP : ∀ v h1, P v h1 → ∃ y g, v = some (.int y) ∧ h1 283 = some (aL 1 g)) : CnH X m_L_slot none none 1 6 [.ref 0, .int t, .int u, .ref 283] h (fun o h1 => o = .inl (some (.int (nI 0))) ∧ ∃ h2 y g, P (some (.int y)) h2 ∧ h2 283 = some (aL 1 g) ∧ h1 = mset h2 283 (aL 1 (vp_updL g 0 y.toInt64))) := by
  refine cnH_of_ev (L0 := [_, _, _, _, _]) (by decide +kernel) rfl (Nat.le_of_ble_eq_true rfl) rfl ?_
  refine ev_aload_n dL_slot_0 rfl rfl ?_
  refine ev_iconst (nI 0) dL_slot_1 rfl ?_
  refine ev_aload_n dL_slot_2 rfl rfl ?_
  refine ev_iload_n dL_slot_3 rfl rfl ?_
  refine ev_iload_n dL_slot_4 rfl rfl ?_
  refine ev_callVH (as := [.int t, .int u]) dL_slot_5 cal_X6_slot lk_8_52 ⟨(Nat.le_of_ble_eq_true rfl), (Nat.le_of_ble_eq_true rfl)⟩ a0 rfl (Nat.le_of_ble_eq_true rfl) hm (Nat.zero_le _) (Nat.zero_le _) (fun v h1 q => ?_) (fun k h1 q => by obtain ⟨v, q1, -⟩ := q; cases q1)
  obtain ⟨v1, q1, q2⟩ := q
  cases q1
  obtain ⟨y, g, rfl, hg⟩ := hP _ _ q2
  refine ev_pc (pc' := 8) rfl ?_
  refine ev_i2l dL_slot_8 ?_
  refine ev_lastoreN dL_slot_9 (hg) (by decide) (by decide) ?_
  refine ev_goto 21 dL_slot_10 rfl ?_
  refine ev_iconst (nI 0) dL_slot_21 rfl ?_
  refine ev_ireturn dL_slot_22 rfl (Or.inl rfl) (Nat.zero_le _) (Nat.zero_le _) ?_
  exact ⟨rfl, _, y, g, q2, hg, rfl⟩
set_option maxHeartbeats 4000000 in
set_option maxRecDepth 100000 in
theorem x0_slot {X : mX} {h : mH} (a0 : h 0 = some obC) (t : Int32) (u : Int32) {P : mH → Prop} (hm : CnX X m_X6_slot [.ref 0, .int t, .int u] h 0 P) : CnH X m_L_slot none none 1 6 [.ref 0, .int t, .int u, .ref 283] h (fun o h1 => o = .inl (some (.int (nI 1))) ∧ P h1) := by
  refine cnH_of_ev (L0 := [_, _, _, _, _]) (by decide +kernel) rfl (Nat.le_of_ble_eq_true rfl) rfl ?_
  refine ev_aload_n dL_slot_0 rfl rfl ?_
  refine ev_iconst (nI 0) dL_slot_1 rfl ?_
  refine ev_aload_n dL_slot_2 rfl rfl ?_
  refine ev_iload_n dL_slot_3 rfl rfl ?_
  refine ev_iload_n dL_slot_4 rfl rfl ?_
  refine ev_callVH (as := [.int t, .int u]) dL_slot_5 cal_X6_slot lk_8_52 ⟨(Nat.le_of_ble_eq_true rfl), (Nat.le_of_ble_eq_true rfl)⟩ a0 rfl (Nat.le_of_ble_eq_true rfl) hm (Nat.le_refl _) (Nat.le_refl _) (fun v h1 q => by cases q.1) (fun k h1 q => ?_)
  obtain ⟨q1, q2⟩ := q
  cases q1
  refine ⟨(0, 10, 13, 13), 4, ⟨by decide, [], [(0, 10, 17, 15)], rfl, (fun z hz => by cases hz), by decide, by decide, by decide, lcl_8_13⟩, by decide, Or.inr ⟨dL_slot_13, ?_⟩⟩
  refine ev_pc (pc' := 15) rfl ?_
  refine ev_iconst (nI 1) dL_slot_15 rfl ?_
  refine ev_ireturn dL_slot_16 rfl (Or.inl rfl) (Nat.le_refl _) (Nat.le_refl _) ?_
  exact ⟨rfl, q2⟩
set_option maxHeartbeats 4000000 in
set_option maxRecDepth 100000 in
theorem x1_slot {X : mX} {h : mH} (a0 : h 0 = some obC) (t : Int32) (u : Int32) {P : mH → Prop} (hm : CnX X m_X6_slot [.ref 0, .int t, .int u] h 1 P) : CnH X m_L_slot none none 1 6 [.ref 0, .int t, .int u, .ref 283] h (fun o h1 => o = .inl (some (.int (nI 2))) ∧ P h1) := by
  refine cnH_of_ev (L0 := [_, _, _, _, _]) (by decide +kernel) rfl (Nat.le_of_ble_eq_true rfl) rfl ?_
  refine ev_aload_n dL_slot_0 rfl rfl ?_
  refine ev_iconst (nI 0) dL_slot_1 rfl ?_
  refine ev_aload_n dL_slot_2 rfl rfl ?_
  refine ev_iload_n dL_slot_3 rfl rfl ?_
  refine ev_iload_n dL_slot_4 rfl rfl ?_
  refine ev_callVH (as := [.int t, .int u]) dL_slot_5 cal_X6_slot lk_8_52 ⟨(Nat.le_of_ble_eq_true rfl), (Nat.le_of_ble_eq_true rfl)⟩ a0 rfl (Nat.le_of_ble_eq_true rfl) hm (Nat.le_refl _) (Nat.le_refl _) (fun v h1 q => by cases q.1) (fun k h1 q => ?_)
  obtain ⟨q1, q2⟩ := q
  cases q1
  refine ⟨(0, 10, 17, 15), 4, ⟨by decide, [(0, 10, 13, 13)], [], rfl, (fun z hz => by obtain rfl : z = (0, 10, 13, 13) := (by simpa using hz); exact ⟨by decide, 0, by decide, by decide, lcl_8_13⟩), by decide, by decide, by decide, lcl_8_15⟩, by decide, Or.inr ⟨dL_slot_17, ?_⟩⟩
  refine ev_pc (pc' := 19) rfl ?_
  refine ev_iconst (nI 2) dL_slot_19 rfl ?_
  refine ev_ireturn dL_slot_20 rfl (Or.inl rfl) (Nat.le_refl _) (Nat.le_refl _) ?_
  exact ⟨rfl, q2⟩
set_option maxHeartbeats 4000000 in
set_option maxRecDepth 100000 in
theorem n_text {X : mX} {h : mH} (a0 : h 0 = some obC) (t : Int32) (u : Int32) {P : Option Value → mH → Prop} (hm : CnU X m_X6_text [.ref 0, .int t, .int u] h P) (hP : ∀ v h1, P v h1 → ∃ y g, v = some (.int y) ∧ h1 283 = some (aL 1 g)) : CnH X m_L_text none none 1 6 [.ref 0, .int t, .int u, .ref 283] h (fun o h1 => o = .inl (some (.int (nI 0))) ∧ ∃ h2 y g, P (some (.int y)) h2 ∧ h2 283 = some (aL 1 g) ∧ h1 = mset h2 283 (aL 1 (vp_updL g 0 y.toInt64))) := by
  refine cnH_of_ev (L0 := [_, _, _, _, _]) (by decide +kernel) rfl (Nat.le_of_ble_eq_true rfl) rfl ?_
  refine ev_aload_n dL_text_0 rfl rfl ?_
  refine ev_iconst (nI 0) dL_text_1 rfl ?_
  refine ev_aload_n dL_text_2 rfl rfl ?_
  refine ev_iload_n dL_text_3 rfl rfl ?_
  refine ev_iload_n dL_text_4 rfl rfl ?_
  refine ev_callVH (as := [.int t, .int u]) dL_text_5 cal_X6_text lk_8_55 ⟨(Nat.le_of_ble_eq_true rfl), (Nat.le_of_ble_eq_true rfl)⟩ a0 rfl (Nat.le_of_ble_eq_true rfl) hm (Nat.zero_le _) (Nat.zero_le _) (fun v h1 q => ?_) (fun k h1 q => by obtain ⟨v, q1, -⟩ := q; cases q1)
  obtain ⟨v1, q1, q2⟩ := q
  cases q1
  obtain ⟨y, g, rfl, hg⟩ := hP _ _ q2
  refine ev_pc (pc' := 8) rfl ?_
  refine ev_i2l dL_text_8 ?_
  refine ev_lastoreN dL_text_9 (hg) (by decide) (by decide) ?_
  refine ev_goto 21 dL_text_10 rfl ?_
  refine ev_iconst (nI 0) dL_text_21 rfl ?_
  refine ev_ireturn dL_text_22 rfl (Or.inl rfl) (Nat.zero_le _) (Nat.zero_le _) ?_
  exact ⟨rfl, _, y, g, q2, hg, rfl⟩
set_option maxHeartbeats 4000000 in
set_option maxRecDepth 100000 in
theorem x0_text {X : mX} {h : mH} (a0 : h 0 = some obC) (t : Int32) (u : Int32) {P : mH → Prop} (hm : CnX X m_X6_text [.ref 0, .int t, .int u] h 0 P) : CnH X m_L_text none none 1 6 [.ref 0, .int t, .int u, .ref 283] h (fun o h1 => o = .inl (some (.int (nI 1))) ∧ P h1) := by
  refine cnH_of_ev (L0 := [_, _, _, _, _]) (by decide +kernel) rfl (Nat.le_of_ble_eq_true rfl) rfl ?_
  refine ev_aload_n dL_text_0 rfl rfl ?_
  refine ev_iconst (nI 0) dL_text_1 rfl ?_
  refine ev_aload_n dL_text_2 rfl rfl ?_
  refine ev_iload_n dL_text_3 rfl rfl ?_
  refine ev_iload_n dL_text_4 rfl rfl ?_
  refine ev_callVH (as := [.int t, .int u]) dL_text_5 cal_X6_text lk_8_55 ⟨(Nat.le_of_ble_eq_true rfl), (Nat.le_of_ble_eq_true rfl)⟩ a0 rfl (Nat.le_of_ble_eq_true rfl) hm (Nat.le_refl _) (Nat.le_refl _) (fun v h1 q => by cases q.1) (fun k h1 q => ?_)
  obtain ⟨q1, q2⟩ := q
  cases q1
  refine ⟨(0, 10, 13, 13), 4, ⟨by decide, [], [(0, 10, 17, 15)], rfl, (fun z hz => by cases hz), by decide, by decide, by decide, lcl_8_13⟩, by decide, Or.inr ⟨dL_text_13, ?_⟩⟩
  refine ev_pc (pc' := 15) rfl ?_
  refine ev_iconst (nI 1) dL_text_15 rfl ?_
  refine ev_ireturn dL_text_16 rfl (Or.inl rfl) (Nat.le_refl _) (Nat.le_refl _) ?_
  exact ⟨rfl, q2⟩
set_option maxHeartbeats 4000000 in
set_option maxRecDepth 100000 in
theorem x1_text {X : mX} {h : mH} (a0 : h 0 = some obC) (t : Int32) (u : Int32) {P : mH → Prop} (hm : CnX X m_X6_text [.ref 0, .int t, .int u] h 1 P) : CnH X m_L_text none none 1 6 [.ref 0, .int t, .int u, .ref 283] h (fun o h1 => o = .inl (some (.int (nI 2))) ∧ P h1) := by
  refine cnH_of_ev (L0 := [_, _, _, _, _]) (by decide +kernel) rfl (Nat.le_of_ble_eq_true rfl) rfl ?_
  refine ev_aload_n dL_text_0 rfl rfl ?_
  refine ev_iconst (nI 0) dL_text_1 rfl ?_
  refine ev_aload_n dL_text_2 rfl rfl ?_
  refine ev_iload_n dL_text_3 rfl rfl ?_
  refine ev_iload_n dL_text_4 rfl rfl ?_
  refine ev_callVH (as := [.int t, .int u]) dL_text_5 cal_X6_text lk_8_55 ⟨(Nat.le_of_ble_eq_true rfl), (Nat.le_of_ble_eq_true rfl)⟩ a0 rfl (Nat.le_of_ble_eq_true rfl) hm (Nat.le_refl _) (Nat.le_refl _) (fun v h1 q => by cases q.1) (fun k h1 q => ?_)
  obtain ⟨q1, q2⟩ := q
  cases q1
  refine ⟨(0, 10, 17, 15), 4, ⟨by decide, [(0, 10, 13, 13)], [], rfl, (fun z hz => by obtain rfl : z = (0, 10, 13, 13) := (by simpa using hz); exact ⟨by decide, 0, by decide, by decide, lcl_8_13⟩), by decide, by decide, by decide, lcl_8_15⟩, by decide, Or.inr ⟨dL_text_17, ?_⟩⟩
  refine ev_pc (pc' := 19) rfl ?_
  refine ev_iconst (nI 2) dL_text_19 rfl ?_
  refine ev_ireturn dL_text_20 rfl (Or.inl rfl) (Nat.le_refl _) (Nat.le_refl _) ?_
  exact ⟨rfl, q2⟩
set_option maxHeartbeats 4000000 in
set_option maxRecDepth 100000 in
theorem n_common {X : mX} {h : mH} (a0 : h 0 = some obC) (t : Int32) (u : Int32) (w : Int32) {P : Option Value → mH → Prop} (hm : CnU X m_X6_common [.ref 0, .int t, .int u, .int w] h P) (hP : ∀ v h1, P v h1 → ∃ y g, v = some (.int y) ∧ h1 283 = some (aL 1 g)) : CnH X m_L_common none none 1 6 [.ref 0, .int t, .int u, .int w, .ref 283] h (fun o h1 => o = .inl (some (.int (nI 0))) ∧ ∃ h2 y g, P (some (.int y)) h2 ∧ h2 283 = some (aL 1 g) ∧ h1 = mset h2 283 (aL 1 (vp_updL g 0 y.toInt64))) := by
  refine cnH_of_ev (L0 := [_, _, _, _, _, _]) (by decide +kernel) rfl (Nat.le_of_ble_eq_true rfl) rfl ?_
  refine ev_aload dL_common_0 rfl ?_
  refine ev_iconst (nI 0) dL_common_2 rfl ?_
  refine ev_aload_n dL_common_3 rfl rfl ?_
  refine ev_iload_n dL_common_4 rfl rfl ?_
  refine ev_iload_n dL_common_5 rfl rfl ?_
  refine ev_iload_n dL_common_6 rfl rfl ?_
  refine ev_callVH (as := [.int t, .int u, .int w]) dL_common_7 cal_X6_common lk_8_58 ⟨(Nat.le_of_ble_eq_true rfl), (Nat.le_of_ble_eq_true rfl)⟩ a0 rfl (Nat.le_of_ble_eq_true rfl) hm (Nat.zero_le _) (Nat.zero_le _) (fun v h1 q => ?_) (fun k h1 q => by obtain ⟨v, q1, -⟩ := q; cases q1)
  obtain ⟨v1, q1, q2⟩ := q
  cases q1
  obtain ⟨y, g, rfl, hg⟩ := hP _ _ q2
  refine ev_pc (pc' := 10) rfl ?_
  refine ev_i2l dL_common_10 ?_
  refine ev_lastoreN dL_common_11 (hg) (by decide) (by decide) ?_
  refine ev_goto 23 dL_common_12 rfl ?_
  refine ev_iconst (nI 0) dL_common_23 rfl ?_
  refine ev_ireturn dL_common_24 rfl (Or.inl rfl) (Nat.zero_le _) (Nat.zero_le _) ?_
  exact ⟨rfl, _, y, g, q2, hg, rfl⟩
set_option maxHeartbeats 4000000 in
set_option maxRecDepth 100000 in
theorem x0_common {X : mX} {h : mH} (a0 : h 0 = some obC) (t : Int32) (u : Int32) (w : Int32) {P : mH → Prop} (hm : CnX X m_X6_common [.ref 0, .int t, .int u, .int w] h 0 P) : CnH X m_L_common none none 1 6 [.ref 0, .int t, .int u, .int w, .ref 283] h (fun o h1 => o = .inl (some (.int (nI 1))) ∧ P h1) := by
  refine cnH_of_ev (L0 := [_, _, _, _, _, _]) (by decide +kernel) rfl (Nat.le_of_ble_eq_true rfl) rfl ?_
  refine ev_aload dL_common_0 rfl ?_
  refine ev_iconst (nI 0) dL_common_2 rfl ?_
  refine ev_aload_n dL_common_3 rfl rfl ?_
  refine ev_iload_n dL_common_4 rfl rfl ?_
  refine ev_iload_n dL_common_5 rfl rfl ?_
  refine ev_iload_n dL_common_6 rfl rfl ?_
  refine ev_callVH (as := [.int t, .int u, .int w]) dL_common_7 cal_X6_common lk_8_58 ⟨(Nat.le_of_ble_eq_true rfl), (Nat.le_of_ble_eq_true rfl)⟩ a0 rfl (Nat.le_of_ble_eq_true rfl) hm (Nat.le_refl _) (Nat.le_refl _) (fun v h1 q => by cases q.1) (fun k h1 q => ?_)
  obtain ⟨q1, q2⟩ := q
  cases q1
  refine ⟨(0, 12, 15, 13), 5, ⟨by decide, [], [(0, 12, 19, 15)], rfl, (fun z hz => by cases hz), by decide, by decide, by decide, lcl_8_13⟩, by decide, Or.inr ⟨dL_common_15, ?_⟩⟩
  refine ev_pc (pc' := 17) rfl ?_
  refine ev_iconst (nI 1) dL_common_17 rfl ?_
  refine ev_ireturn dL_common_18 rfl (Or.inl rfl) (Nat.le_refl _) (Nat.le_refl _) ?_
  exact ⟨rfl, q2⟩
set_option maxHeartbeats 4000000 in
set_option maxRecDepth 100000 in
theorem x1_common {X : mX} {h : mH} (a0 : h 0 = some obC) (t : Int32) (u : Int32) (w : Int32) {P : mH → Prop} (hm : CnX X m_X6_common [.ref 0, .int t, .int u, .int w] h 1 P) : CnH X m_L_common none none 1 6 [.ref 0, .int t, .int u, .int w, .ref 283] h (fun o h1 => o = .inl (some (.int (nI 2))) ∧ P h1) := by
  refine cnH_of_ev (L0 := [_, _, _, _, _, _]) (by decide +kernel) rfl (Nat.le_of_ble_eq_true rfl) rfl ?_
  refine ev_aload dL_common_0 rfl ?_
  refine ev_iconst (nI 0) dL_common_2 rfl ?_
  refine ev_aload_n dL_common_3 rfl rfl ?_
  refine ev_iload_n dL_common_4 rfl rfl ?_
  refine ev_iload_n dL_common_5 rfl rfl ?_
  refine ev_iload_n dL_common_6 rfl rfl ?_
  refine ev_callVH (as := [.int t, .int u, .int w]) dL_common_7 cal_X6_common lk_8_58 ⟨(Nat.le_of_ble_eq_true rfl), (Nat.le_of_ble_eq_true rfl)⟩ a0 rfl (Nat.le_of_ble_eq_true rfl) hm (Nat.le_refl _) (Nat.le_refl _) (fun v h1 q => by cases q.1) (fun k h1 q => ?_)
  obtain ⟨q1, q2⟩ := q
  cases q1
  refine ⟨(0, 12, 19, 15), 5, ⟨by decide, [(0, 12, 15, 13)], [], rfl, (fun z hz => by obtain rfl : z = (0, 12, 15, 13) := (by simpa using hz); exact ⟨by decide, 0, by decide, by decide, lcl_8_13⟩), by decide, by decide, by decide, lcl_8_15⟩, by decide, Or.inr ⟨dL_common_19, ?_⟩⟩
  refine ev_pc (pc' := 21) rfl ?_
  refine ev_iconst (nI 2) dL_common_21 rfl ?_
  refine ev_ireturn dL_common_22 rfl (Or.inl rfl) (Nat.le_refl _) (Nat.le_refl _) ?_
  exact ⟨rfl, q2⟩
set_option maxHeartbeats 4000000 in
set_option maxRecDepth 100000 in
theorem n_count {X : mX} {h : mH} (a0 : h 0 = some obC) (t : Int32) {P : Option Value → mH → Prop} (hm : CnU X m_X6_count [.ref 0, .int t] h P) (hP : ∀ v h1, P v h1 → ∃ y g, v = some (.int y) ∧ h1 283 = some (aL 1 g)) : CnH X m_L_count none none 1 6 [.ref 0, .int t, .ref 283] h (fun o h1 => o = .inl (some (.int (nI 0))) ∧ ∃ h2 y g, P (some (.int y)) h2 ∧ h2 283 = some (aL 1 g) ∧ h1 = mset h2 283 (aL 1 (vp_updL g 0 y.toInt64))) := by
  refine cnH_of_ev (L0 := [_, _, _, _]) (by decide +kernel) rfl (Nat.le_of_ble_eq_true rfl) rfl ?_
  refine ev_aload_n dL_count_0 rfl rfl ?_
  refine ev_iconst (nI 0) dL_count_1 rfl ?_
  refine ev_aload_n dL_count_2 rfl rfl ?_
  refine ev_iload_n dL_count_3 rfl rfl ?_
  refine ev_callVH (as := [.int t]) dL_count_4 cal_X6_count lk_8_61 ⟨(Nat.le_of_ble_eq_true rfl), (Nat.le_of_ble_eq_true rfl)⟩ a0 rfl (Nat.le_of_ble_eq_true rfl) hm (Nat.zero_le _) (Nat.zero_le _) (fun v h1 q => ?_) (fun k h1 q => by obtain ⟨v, q1, -⟩ := q; cases q1)
  obtain ⟨v1, q1, q2⟩ := q
  cases q1
  obtain ⟨y, g, rfl, hg⟩ := hP _ _ q2
  refine ev_pc (pc' := 7) rfl ?_
  refine ev_i2l dL_count_7 ?_
  refine ev_lastoreN dL_count_8 (hg) (by decide) (by decide) ?_
  refine ev_goto 15 dL_count_9 rfl ?_
  refine ev_iconst (nI 0) dL_count_15 rfl ?_
  refine ev_ireturn dL_count_16 rfl (Or.inl rfl) (Nat.zero_le _) (Nat.zero_le _) ?_
  exact ⟨rfl, _, y, g, q2, hg, rfl⟩
set_option maxHeartbeats 4000000 in
set_option maxRecDepth 100000 in
theorem x1_count {X : mX} {h : mH} (a0 : h 0 = some obC) (t : Int32) {P : mH → Prop} (hm : CnX X m_X6_count [.ref 0, .int t] h 1 P) : CnH X m_L_count none none 1 6 [.ref 0, .int t, .ref 283] h (fun o h1 => o = .inl (some (.int (nI 1))) ∧ P h1) := by
  refine cnH_of_ev (L0 := [_, _, _, _]) (by decide +kernel) rfl (Nat.le_of_ble_eq_true rfl) rfl ?_
  refine ev_aload_n dL_count_0 rfl rfl ?_
  refine ev_iconst (nI 0) dL_count_1 rfl ?_
  refine ev_aload_n dL_count_2 rfl rfl ?_
  refine ev_iload_n dL_count_3 rfl rfl ?_
  refine ev_callVH (as := [.int t]) dL_count_4 cal_X6_count lk_8_61 ⟨(Nat.le_of_ble_eq_true rfl), (Nat.le_of_ble_eq_true rfl)⟩ a0 rfl (Nat.le_of_ble_eq_true rfl) hm (Nat.le_refl _) (Nat.le_refl _) (fun v h1 q => by cases q.1) (fun k h1 q => ?_)
  obtain ⟨q1, q2⟩ := q
  cases q1
  refine ⟨(0, 9, 12, 15), 3, ⟨by decide, [], [], rfl, (fun z hz => by cases hz), by decide, by decide, by decide, lcl_8_15⟩, by decide, Or.inl ⟨3, dL_count_12, rfl, ?_⟩⟩
  refine ev_pc (pc' := 13) rfl ?_
  refine ev_iconst (nI 1) dL_count_13 rfl ?_
  refine ev_ireturn dL_count_14 rfl (Or.inl rfl) (Nat.le_refl _) (Nat.le_refl _) ?_
  exact ⟨rfl, q2⟩
set_option maxHeartbeats 4000000 in
set_option maxRecDepth 100000 in
theorem n_setting {X : mX} {h : mH} (a0 : h 0 = some obC) (t : Int32) {P : Option Value → mH → Prop} (hm : CnU X m_X6_setting [.ref 0, .int t] h P) (hP : ∀ v h1, P v h1 → ∃ y g, v = some (.int y) ∧ h1 283 = some (aL 1 g)) : CnH X m_L_setting none none 1 6 [.ref 0, .int t, .ref 283] h (fun o h1 => o = .inl (some (.int (nI 0))) ∧ ∃ h2 y g, P (some (.int y)) h2 ∧ h2 283 = some (aL 1 g) ∧ h1 = mset h2 283 (aL 1 (vp_updL g 0 y.toInt64))) := by
  refine cnH_of_ev (L0 := [_, _, _, _]) (by decide +kernel) rfl (Nat.le_of_ble_eq_true rfl) rfl ?_
  refine ev_aload_n dL_setting_0 rfl rfl ?_
  refine ev_iconst (nI 0) dL_setting_1 rfl ?_
  refine ev_aload_n dL_setting_2 rfl rfl ?_
  refine ev_iload_n dL_setting_3 rfl rfl ?_
  refine ev_callVH (as := [.int t]) dL_setting_4 cal_X6_setting lk_8_64 ⟨(Nat.le_of_ble_eq_true rfl), (Nat.le_of_ble_eq_true rfl)⟩ a0 rfl (Nat.le_of_ble_eq_true rfl) hm (Nat.zero_le _) (Nat.zero_le _) (fun v h1 q => ?_) (fun k h1 q => by obtain ⟨v, q1, -⟩ := q; cases q1)
  obtain ⟨v1, q1, q2⟩ := q
  cases q1
  obtain ⟨y, g, rfl, hg⟩ := hP _ _ q2
  refine ev_pc (pc' := 7) rfl ?_
  refine ev_i2l dL_setting_7 ?_
  refine ev_lastoreN dL_setting_8 (hg) (by decide) (by decide) ?_
  refine ev_goto 15 dL_setting_9 rfl ?_
  refine ev_iconst (nI 0) dL_setting_15 rfl ?_
  refine ev_ireturn dL_setting_16 rfl (Or.inl rfl) (Nat.zero_le _) (Nat.zero_le _) ?_
  exact ⟨rfl, _, y, g, q2, hg, rfl⟩
set_option maxHeartbeats 4000000 in
set_option maxRecDepth 100000 in
theorem x0_setting {X : mX} {h : mH} (a0 : h 0 = some obC) (t : Int32) {P : mH → Prop} (hm : CnX X m_X6_setting [.ref 0, .int t] h 0 P) : CnH X m_L_setting none none 1 6 [.ref 0, .int t, .ref 283] h (fun o h1 => o = .inl (some (.int (nI 1))) ∧ P h1) := by
  refine cnH_of_ev (L0 := [_, _, _, _]) (by decide +kernel) rfl (Nat.le_of_ble_eq_true rfl) rfl ?_
  refine ev_aload_n dL_setting_0 rfl rfl ?_
  refine ev_iconst (nI 0) dL_setting_1 rfl ?_
  refine ev_aload_n dL_setting_2 rfl rfl ?_
  refine ev_iload_n dL_setting_3 rfl rfl ?_
  refine ev_callVH (as := [.int t]) dL_setting_4 cal_X6_setting lk_8_64 ⟨(Nat.le_of_ble_eq_true rfl), (Nat.le_of_ble_eq_true rfl)⟩ a0 rfl (Nat.le_of_ble_eq_true rfl) hm (Nat.le_refl _) (Nat.le_refl _) (fun v h1 q => by cases q.1) (fun k h1 q => ?_)
  obtain ⟨q1, q2⟩ := q
  cases q1
  refine ⟨(0, 9, 12, 13), 3, ⟨by decide, [], [], rfl, (fun z hz => by cases hz), by decide, by decide, by decide, lcl_8_13⟩, by decide, Or.inl ⟨3, dL_setting_12, rfl, ?_⟩⟩
  refine ev_pc (pc' := 13) rfl ?_
  refine ev_iconst (nI 1) dL_setting_13 rfl ?_
  refine ev_ireturn dL_setting_14 rfl (Or.inl rfl) (Nat.le_refl _) (Nat.le_refl _) ?_
  exact ⟨rfl, q2⟩
set_option maxHeartbeats 4000000 in
set_option maxRecDepth 100000 in
theorem n_ifPut {X : mX} {h : mH} (a0 : h 0 = some obC) (t : Int32) (u : Int32) {P : Option Value → mH → Prop} (hm : CnU X m_X6_ifPut [.ref 0, .int t, .int u] h P) (hP : ∀ v h1, P v h1 → ∃ y g, v = some (.int y) ∧ h1 283 = some (aL 1 g)) : CnH X m_L_ifPut none none 1 6 [.ref 0, .int t, .int u, .ref 283] h (fun o h1 => o = .inl (some (.int (nI 0))) ∧ ∃ h2 y g, P (some (.int y)) h2 ∧ h2 283 = some (aL 1 g) ∧ h1 = mset h2 283 (aL 1 (vp_updL g 0 y.toInt64))) := by
  refine cnH_of_ev (L0 := [_, _, _, _, _]) (by decide +kernel) rfl (Nat.le_of_ble_eq_true rfl) rfl ?_
  refine ev_aload_n dL_ifPut_0 rfl rfl ?_
  refine ev_iconst (nI 0) dL_ifPut_1 rfl ?_
  refine ev_aload_n dL_ifPut_2 rfl rfl ?_
  refine ev_iload_n dL_ifPut_3 rfl rfl ?_
  refine ev_iload_n dL_ifPut_4 rfl rfl ?_
  refine ev_callVH (as := [.int t, .int u]) dL_ifPut_5 cal_X6_ifPut lk_8_67 ⟨(Nat.le_of_ble_eq_true rfl), (Nat.le_of_ble_eq_true rfl)⟩ a0 rfl (Nat.le_of_ble_eq_true rfl) hm (Nat.zero_le _) (Nat.zero_le _) (fun v h1 q => ?_) (fun k h1 q => by obtain ⟨v, q1, -⟩ := q; cases q1)
  obtain ⟨v1, q1, q2⟩ := q
  cases q1
  obtain ⟨y, g, rfl, hg⟩ := hP _ _ q2
  refine ev_pc (pc' := 8) rfl ?_
  refine ev_i2l dL_ifPut_8 ?_
  refine ev_lastoreN dL_ifPut_9 (hg) (by decide) (by decide) ?_
  refine ev_goto 21 dL_ifPut_10 rfl ?_
  refine ev_iconst (nI 0) dL_ifPut_21 rfl ?_
  refine ev_ireturn dL_ifPut_22 rfl (Or.inl rfl) (Nat.zero_le _) (Nat.zero_le _) ?_
  exact ⟨rfl, _, y, g, q2, hg, rfl⟩
set_option maxHeartbeats 4000000 in
set_option maxRecDepth 100000 in
theorem x0_ifPut {X : mX} {h : mH} (a0 : h 0 = some obC) (t : Int32) (u : Int32) {P : mH → Prop} (hm : CnX X m_X6_ifPut [.ref 0, .int t, .int u] h 0 P) : CnH X m_L_ifPut none none 1 6 [.ref 0, .int t, .int u, .ref 283] h (fun o h1 => o = .inl (some (.int (nI 1))) ∧ P h1) := by
  refine cnH_of_ev (L0 := [_, _, _, _, _]) (by decide +kernel) rfl (Nat.le_of_ble_eq_true rfl) rfl ?_
  refine ev_aload_n dL_ifPut_0 rfl rfl ?_
  refine ev_iconst (nI 0) dL_ifPut_1 rfl ?_
  refine ev_aload_n dL_ifPut_2 rfl rfl ?_
  refine ev_iload_n dL_ifPut_3 rfl rfl ?_
  refine ev_iload_n dL_ifPut_4 rfl rfl ?_
  refine ev_callVH (as := [.int t, .int u]) dL_ifPut_5 cal_X6_ifPut lk_8_67 ⟨(Nat.le_of_ble_eq_true rfl), (Nat.le_of_ble_eq_true rfl)⟩ a0 rfl (Nat.le_of_ble_eq_true rfl) hm (Nat.le_refl _) (Nat.le_refl _) (fun v h1 q => by cases q.1) (fun k h1 q => ?_)
  obtain ⟨q1, q2⟩ := q
  cases q1
  refine ⟨(0, 10, 13, 13), 4, ⟨by decide, [], [(0, 10, 17, 15)], rfl, (fun z hz => by cases hz), by decide, by decide, by decide, lcl_8_13⟩, by decide, Or.inr ⟨dL_ifPut_13, ?_⟩⟩
  refine ev_pc (pc' := 15) rfl ?_
  refine ev_iconst (nI 1) dL_ifPut_15 rfl ?_
  refine ev_ireturn dL_ifPut_16 rfl (Or.inl rfl) (Nat.le_refl _) (Nat.le_refl _) ?_
  exact ⟨rfl, q2⟩
set_option maxHeartbeats 4000000 in
set_option maxRecDepth 100000 in
theorem x1_ifPut {X : mX} {h : mH} (a0 : h 0 = some obC) (t : Int32) (u : Int32) {P : mH → Prop} (hm : CnX X m_X6_ifPut [.ref 0, .int t, .int u] h 1 P) : CnH X m_L_ifPut none none 1 6 [.ref 0, .int t, .int u, .ref 283] h (fun o h1 => o = .inl (some (.int (nI 2))) ∧ P h1) := by
  refine cnH_of_ev (L0 := [_, _, _, _, _]) (by decide +kernel) rfl (Nat.le_of_ble_eq_true rfl) rfl ?_
  refine ev_aload_n dL_ifPut_0 rfl rfl ?_
  refine ev_iconst (nI 0) dL_ifPut_1 rfl ?_
  refine ev_aload_n dL_ifPut_2 rfl rfl ?_
  refine ev_iload_n dL_ifPut_3 rfl rfl ?_
  refine ev_iload_n dL_ifPut_4 rfl rfl ?_
  refine ev_callVH (as := [.int t, .int u]) dL_ifPut_5 cal_X6_ifPut lk_8_67 ⟨(Nat.le_of_ble_eq_true rfl), (Nat.le_of_ble_eq_true rfl)⟩ a0 rfl (Nat.le_of_ble_eq_true rfl) hm (Nat.le_refl _) (Nat.le_refl _) (fun v h1 q => by cases q.1) (fun k h1 q => ?_)
  obtain ⟨q1, q2⟩ := q
  cases q1
  refine ⟨(0, 10, 17, 15), 4, ⟨by decide, [(0, 10, 13, 13)], [], rfl, (fun z hz => by obtain rfl : z = (0, 10, 13, 13) := (by simpa using hz); exact ⟨by decide, 0, by decide, by decide, lcl_8_13⟩), by decide, by decide, by decide, lcl_8_15⟩, by decide, Or.inr ⟨dL_ifPut_17, ?_⟩⟩
  refine ev_pc (pc' := 19) rfl ?_
  refine ev_iconst (nI 2) dL_ifPut_19 rfl ?_
  refine ev_ireturn dL_ifPut_20 rfl (Or.inl rfl) (Nat.le_refl _) (Nat.le_refl _) ?_
  exact ⟨rfl, q2⟩
set_option maxHeartbeats 4000000 in
set_option maxRecDepth 100000 in
theorem n_ifSet {X : mX} {h : mH} (a0 : h 0 = some obC) (t : Int32) (u : Int32) (w : Int32) {P : Option Value → mH → Prop} (hm : CnU X m_X6_ifSet [.ref 0, .int t, .int u, .int w] h P) (hP : ∀ v h1, P v h1 → ∃ y g, v = some (.int y) ∧ h1 283 = some (aL 1 g)) : CnH X m_L_ifSet none none 1 6 [.ref 0, .int t, .int u, .int w, .ref 283] h (fun o h1 => o = .inl (some (.int (nI 0))) ∧ ∃ h2 y g, P (some (.int y)) h2 ∧ h2 283 = some (aL 1 g) ∧ h1 = mset h2 283 (aL 1 (vp_updL g 0 y.toInt64))) := by
  refine cnH_of_ev (L0 := [_, _, _, _, _, _]) (by decide +kernel) rfl (Nat.le_of_ble_eq_true rfl) rfl ?_
  refine ev_aload dL_ifSet_0 rfl ?_
  refine ev_iconst (nI 0) dL_ifSet_2 rfl ?_
  refine ev_aload_n dL_ifSet_3 rfl rfl ?_
  refine ev_iload_n dL_ifSet_4 rfl rfl ?_
  refine ev_iload_n dL_ifSet_5 rfl rfl ?_
  refine ev_iload_n dL_ifSet_6 rfl rfl ?_
  refine ev_callVH (as := [.int t, .int u, .int w]) dL_ifSet_7 cal_X6_ifSet lk_8_70 ⟨(Nat.le_of_ble_eq_true rfl), (Nat.le_of_ble_eq_true rfl)⟩ a0 rfl (Nat.le_of_ble_eq_true rfl) hm (Nat.zero_le _) (Nat.zero_le _) (fun v h1 q => ?_) (fun k h1 q => by obtain ⟨v, q1, -⟩ := q; cases q1)
  obtain ⟨v1, q1, q2⟩ := q
  cases q1
  obtain ⟨y, g, rfl, hg⟩ := hP _ _ q2
  refine ev_pc (pc' := 10) rfl ?_
  refine ev_i2l dL_ifSet_10 ?_
  refine ev_lastoreN dL_ifSet_11 (hg) (by decide) (by decide) ?_
  refine ev_goto 23 dL_ifSet_12 rfl ?_
  refine ev_iconst (nI 0) dL_ifSet_23 rfl ?_
  refine ev_ireturn dL_ifSet_24 rfl (Or.inl rfl) (Nat.zero_le _) (Nat.zero_le _) ?_
  exact ⟨rfl, _, y, g, q2, hg, rfl⟩
set_option maxHeartbeats 4000000 in
set_option maxRecDepth 100000 in
theorem x0_ifSet {X : mX} {h : mH} (a0 : h 0 = some obC) (t : Int32) (u : Int32) (w : Int32) {P : mH → Prop} (hm : CnX X m_X6_ifSet [.ref 0, .int t, .int u, .int w] h 0 P) : CnH X m_L_ifSet none none 1 6 [.ref 0, .int t, .int u, .int w, .ref 283] h (fun o h1 => o = .inl (some (.int (nI 1))) ∧ P h1) := by
  refine cnH_of_ev (L0 := [_, _, _, _, _, _]) (by decide +kernel) rfl (Nat.le_of_ble_eq_true rfl) rfl ?_
  refine ev_aload dL_ifSet_0 rfl ?_
  refine ev_iconst (nI 0) dL_ifSet_2 rfl ?_
  refine ev_aload_n dL_ifSet_3 rfl rfl ?_
  refine ev_iload_n dL_ifSet_4 rfl rfl ?_
  refine ev_iload_n dL_ifSet_5 rfl rfl ?_
  refine ev_iload_n dL_ifSet_6 rfl rfl ?_
  refine ev_callVH (as := [.int t, .int u, .int w]) dL_ifSet_7 cal_X6_ifSet lk_8_70 ⟨(Nat.le_of_ble_eq_true rfl), (Nat.le_of_ble_eq_true rfl)⟩ a0 rfl (Nat.le_of_ble_eq_true rfl) hm (Nat.le_refl _) (Nat.le_refl _) (fun v h1 q => by cases q.1) (fun k h1 q => ?_)
  obtain ⟨q1, q2⟩ := q
  cases q1
  refine ⟨(0, 12, 15, 13), 5, ⟨by decide, [], [(0, 12, 19, 15)], rfl, (fun z hz => by cases hz), by decide, by decide, by decide, lcl_8_13⟩, by decide, Or.inr ⟨dL_ifSet_15, ?_⟩⟩
  refine ev_pc (pc' := 17) rfl ?_
  refine ev_iconst (nI 1) dL_ifSet_17 rfl ?_
  refine ev_ireturn dL_ifSet_18 rfl (Or.inl rfl) (Nat.le_refl _) (Nat.le_refl _) ?_
  exact ⟨rfl, q2⟩
set_option maxHeartbeats 4000000 in
set_option maxRecDepth 100000 in
theorem x1_ifSet {X : mX} {h : mH} (a0 : h 0 = some obC) (t : Int32) (u : Int32) (w : Int32) {P : mH → Prop} (hm : CnX X m_X6_ifSet [.ref 0, .int t, .int u, .int w] h 1 P) : CnH X m_L_ifSet none none 1 6 [.ref 0, .int t, .int u, .int w, .ref 283] h (fun o h1 => o = .inl (some (.int (nI 2))) ∧ P h1) := by
  refine cnH_of_ev (L0 := [_, _, _, _, _, _]) (by decide +kernel) rfl (Nat.le_of_ble_eq_true rfl) rfl ?_
  refine ev_aload dL_ifSet_0 rfl ?_
  refine ev_iconst (nI 0) dL_ifSet_2 rfl ?_
  refine ev_aload_n dL_ifSet_3 rfl rfl ?_
  refine ev_iload_n dL_ifSet_4 rfl rfl ?_
  refine ev_iload_n dL_ifSet_5 rfl rfl ?_
  refine ev_iload_n dL_ifSet_6 rfl rfl ?_
  refine ev_callVH (as := [.int t, .int u, .int w]) dL_ifSet_7 cal_X6_ifSet lk_8_70 ⟨(Nat.le_of_ble_eq_true rfl), (Nat.le_of_ble_eq_true rfl)⟩ a0 rfl (Nat.le_of_ble_eq_true rfl) hm (Nat.le_refl _) (Nat.le_refl _) (fun v h1 q => by cases q.1) (fun k h1 q => ?_)
  obtain ⟨q1, q2⟩ := q
  cases q1
  refine ⟨(0, 12, 19, 15), 5, ⟨by decide, [(0, 12, 15, 13)], [], rfl, (fun z hz => by obtain rfl : z = (0, 12, 15, 13) := (by simpa using hz); exact ⟨by decide, 0, by decide, by decide, lcl_8_13⟩), by decide, by decide, by decide, lcl_8_15⟩, by decide, Or.inr ⟨dL_ifSet_19, ?_⟩⟩
  refine ev_pc (pc' := 21) rfl ?_
  refine ev_iconst (nI 2) dL_ifSet_21 rfl ?_
  refine ev_ireturn dL_ifSet_22 rfl (Or.inl rfl) (Nat.le_refl _) (Nat.le_refl _) ?_
  exact ⟨rfl, q2⟩
