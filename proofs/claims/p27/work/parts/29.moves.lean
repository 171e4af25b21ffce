def dropF (s : Nat → Nat) (p m : Nat) : Nat → Nat := fun j => if j < p then s j else s (j + m)
def rotF (s : Nat → Nat) (n m : Nat) : Nat → Nat := fun j => if j < n - m then s (m + j) else s (j - (n - m))
def insF (s tl : Nat → Nat) (p b : Nat) : Nat → Nat := fun j => if j < p then s j else if j < p + b then tl (j - p) else s (j - b)
set_option maxHeartbeats 4000000 in
set_option maxRecDepth 100000 in
theorem x_takeOut {X : mX} {h : mH} (t u w : Int32) (ht : inX t 0 4 = false) : CnX X m_X6_takeOut [.ref 0, .int t, .int u, .int w] h 0 (fun h1 => h1 = h) := by
  refine cn_of_ev (L0 := [_, _, _, _, _]) (by decide +kernel) rfl rfl (Nat.le_of_ble_eq_true rfl) rfl ?_
  refine ev_iload_n dX6_takeOut_0 rfl rfl ?_
  refine ev_callSX1 dX6_takeOut_1 cal_X6_requireText lk_6_51 ⟨(Nat.le_of_ble_eq_true rfl), (Nat.le_of_ble_eq_true rfl)⟩ rfl (Nat.le_of_ble_eq_true rfl) (x_requireText t ht) (fun h1 hq1 => ?_)
  exact ⟨rfl, hq1⟩
set_option maxHeartbeats 4000000 in
set_option maxRecDepth 100000 in
theorem x_takeOut2 {X : mX} {h : mH} {A : mAs} (hA : ClsN h A) (t : Nat) (u w : Int32) (ht : t < 4) (hu : inX u 0 (kL (tC (aT A) t)) = false) : CnX X m_X6_takeOut [.ref 0, .int (nI t), .int u, .int w] h 0 (fun h1 => h1 = h) := by
  obtain ⟨a0, hT, hH, hBf, hW⟩ := id hA
  obtain ⟨t0, ⟨f, t1, t2⟩, hcs, hsto, hset⟩ := id hT
  obtain ⟨m0, hm6, -⟩ := id hH
  obtain ⟨⟨b0, bf, b1, hbf⟩, hb60, hbd⟩ := id hBf
  obtain ⟨sg, st, le, fo, rk, ⟨c0, c1, c2, c3, c4, c5⟩, hL, hN, hS, hP⟩ := id (hcs t ht)
  refine cn_of_ev (L0 := [_, _, _, _, _]) (by decide +kernel) rfl rfl (Nat.le_of_ble_eq_true rfl) rfl ?_
  refine ev_iload_n dX6_takeOut_0 rfl rfl ?_
  refine ev_callSP1 dX6_takeOut_1 cal_X6_requireText lk_6_51 ⟨(Nat.le_of_ble_eq_true rfl), (Nat.le_of_ble_eq_true rfl)⟩ rfl (Nat.le_of_ble_eq_true rfl) (c_requireText t ht) ?_
  refine ev_aload_n dX6_takeOut_4 rfl rfl ?_
  first | refine ev_getfield dX6_takeOut_5 lf_6_10 (a0) rfl ?_ | refine ev_getfield dX6_takeOut_5 lf_6_10 (t0) rfl ?_
  first | refine ev_getfield dX6_takeOut_8 lf_6_70 (a0) rfl ?_ | refine ev_getfield dX6_takeOut_8 lf_6_70 (t0) rfl ?_
  refine ev_iload_n dX6_takeOut_11 rfl rfl ?_
  refine ev_aaloadN dX6_takeOut_12 (Or.inl rfl) t1 (by omega) (by decide) (t2 t ht) ?_
  refine ev_astore (L' := [_, _, _, _, _]) dX6_takeOut_13 (Nat.le_of_ble_eq_true rfl) rfl ?_
  refine ev_aload dX6_takeOut_15 rfl ?_
  refine ev_iload_n dX6_takeOut_17 rfl rfl ?_
  refine ev_callSX2 dX6_takeOut_18 cal_X6_requirePlace lk_6_98 ⟨(Nat.le_of_ble_eq_true rfl), (Nat.le_of_ble_eq_true rfl)⟩ rfl (Nat.le_of_ble_eq_true rfl) (x_requirePlace (hcs t ht) u hu) (fun h18 hq18 => ?_)
  exact ⟨rfl, hq18⟩
set_option maxHeartbeats 4000000 in
set_option maxRecDepth 100000 in
theorem x_takeOut3 {X : mX} {h : mH} {A : mAs} (hA : ClsN h A) (t p : Nat) (w : Int32) (ht : t < 4) (hp : p < kL (tC (aT A) t)) (hw : inX w 1 (kL (tC (aT A) t) - p + 1) = false) : CnX X m_X6_takeOut [.ref 0, .int (nI t), .int (nI p), .int w] h 1 (fun h1 => h1 = h) := by
  obtain ⟨a0, hT, hH, hBf, hW⟩ := id hA
  obtain ⟨t0, ⟨f, t1, t2⟩, hcs, hsto, hset⟩ := id hT
  obtain ⟨m0, hm6, -⟩ := id hH
  obtain ⟨⟨b0, bf, b1, hbf⟩, hb60, hbd⟩ := id hBf
  obtain ⟨sg, st, le, fo, rk, ⟨c0, c1, c2, c3, c4, c5⟩, hL, hN, hS, hP⟩ := id (hcs t ht)
  refine cn_of_ev (L0 := [_, _, _, _, _]) (by decide +kernel) rfl rfl (Nat.le_of_ble_eq_true rfl) rfl ?_
  refine ev_iload_n dX6_takeOut_0 rfl rfl ?_
  refine ev_callSP1 dX6_takeOut_1 cal_X6_requireText lk_6_51 ⟨(Nat.le_of_ble_eq_true rfl), (Nat.le_of_ble_eq_true rfl)⟩ rfl (Nat.le_of_ble_eq_true rfl) (c_requireText t ht) ?_
  refine ev_aload_n dX6_takeOut_4 rfl rfl ?_
  first | refine ev_getfield dX6_takeOut_5 lf_6_10 (a0) rfl ?_ | refine ev_getfield dX6_takeOut_5 lf_6_10 (t0) rfl ?_ | refine ev_getfield dX6_takeOut_5 lf_6_10 (c0) rfl ?_
  first | refine ev_getfield dX6_takeOut_8 lf_6_70 (a0) rfl ?_ | refine ev_getfield dX6_takeOut_8 lf_6_70 (t0) rfl ?_ | refine ev_getfield dX6_takeOut_8 lf_6_70 (c0) rfl ?_
  refine ev_iload_n dX6_takeOut_11 rfl rfl ?_
  refine ev_aaloadN dX6_takeOut_12 (Or.inl rfl) t1 (by omega) (by decide) (t2 t ht) ?_
  refine ev_astore (L' := [_, _, _, _, _]) dX6_takeOut_13 (Nat.le_of_ble_eq_true rfl) rfl ?_
  refine ev_aload dX6_takeOut_15 rfl ?_
  refine ev_iload_n dX6_takeOut_17 rfl rfl ?_
  refine ev_callSP2 dX6_takeOut_18 cal_X6_requirePlace lk_6_98 ⟨(Nat.le_of_ble_eq_true rfl), (Nat.le_of_ble_eq_true rfl)⟩ rfl (Nat.le_of_ble_eq_true rfl) (c_requirePlace (hcs t ht) p hp) ?_
  refine ev_iload_n dX6_takeOut_21 rfl rfl ?_
  refine ev_iconst (nI 1) dX6_takeOut_22 rfl ?_
  refine ev_icmp_lt 37 dX6_takeOut_23 rfl (fun hc23 => ?_) (fun hc23 => ?_)
  · refine ev_throwS (M' := m_X6_takeOut) (f1 := none) (mc1 := 0) (ms1 := 0) (Q1 := fun _ _ => True) 1 "many is out of range" (by decide) rfl (by decide) rfl (by decide) (Nat.le_of_ble_eq_true rfl) dX6_takeOut_37 dX6_takeOut_40 dX6_takeOut_41 dX6_takeOut_43 dX6_takeOut_46 (Nat.le_refl _) (Nat.le_refl _) ?_
    exact ⟨rfl, rfl⟩
  · refine ev_iload_n dX6_takeOut_26 rfl rfl ?_
    refine ev_aload dX6_takeOut_27 rfl ?_
    first | refine ev_getfield dX6_takeOut_29 lf_6_74 (a0) rfl ?_ | refine ev_getfield dX6_takeOut_29 lf_6_74 (t0) rfl ?_ | refine ev_getfield dX6_takeOut_29 lf_6_74 (c0) rfl ?_
    refine ev_iload_n dX6_takeOut_32 rfl rfl ?_
    refine ev_isubN dX6_takeOut_33 (by omega) ?_
    refine ev_icmp_le 47 dX6_takeOut_34 rfl (fun hc34 => ?_) (fun hc34 => ?_)
    · refine ev_pc (pc' := 47) rfl ?_
      exact absurd (inX_val (a := 1) hc23 hc34 (by decide) (by omega)) (by rw [hw]; decide)
    · refine ev_throwS (M' := m_X6_takeOut) (f1 := none) (mc1 := 0) (ms1 := 0) (Q1 := fun _ _ => True) 1 "many is out of range" (by decide) rfl (by decide) rfl (by decide) (Nat.le_of_ble_eq_true rfl) dX6_takeOut_37 dX6_takeOut_40 dX6_takeOut_41 dX6_takeOut_43 dX6_takeOut_46 (Nat.le_refl _) (Nat.le_refl _) ?_
      exact ⟨rfl, rfl⟩
set_option maxHeartbeats 4000000 in
set_option maxRecDepth 100000 in
theorem c_takeOut {X : mX} {h : mH} {A : mAs} (hA : ClsN h A) (t : Nat) (ht : t < 4) (p m : Nat) (hp : p < kL (tC (aT A) t)) (hm1 : 1 ≤ m) (hm : m ≤ kL (tC (aT A) t) - p) (h1 : ∀ j, j < (kL (tC (aT A) t) - m) → 1 ≤ (dropF (kS (tC (aT A) t)) p m) j) (hk : ChOK (aT A) t (cutK (tV (aT A)) (kL (tC (aT A) t) - m) (dropF (kS (tC (aT A) t)) p m))) (hok : okS (aT A) t (cutK (tV (aT A)) (kL (tC (aT A) t) - m) (dropF (kS (tC (aT A) t)) p m)) = true) : CnU X m_X6_takeOut [.ref 0, .int (nI t), .int (nI p), .int (nI m)] h (fun v h1 => v = some (.int (nI (kN (cutK (tV (aT A)) (kL (tC (aT A) t) - m) (dropF (kS (tC (aT A) t)) p m))))) ∧ ClsN h1 (chgA A t (kL (tC (aT A) t) - m) (dropF (kS (tC (aT A) t)) p m)) ∧ Out h h1 0 270) := by
  obtain ⟨a0, hT, hH, hBf, hW⟩ := id hA
  obtain ⟨t0, ⟨f, t1, t2⟩, hcs, hsto, hset⟩ := id hT
  obtain ⟨m0, hm6, -⟩ := id hH
  obtain ⟨⟨b0, bf, b1, hbf⟩, hb60, hbd⟩ := id hBf
  obtain ⟨-, ⟨K1, wc⟩, -, -⟩ := id hW
  obtain ⟨_, _, _, _, _, ⟨c0, -, -, -, -, -⟩, -⟩ := id wc
  have hcK := hcs t ht
  obtain ⟨_, _, _, _, _, ⟨k0, -, -, -, -, -⟩, hL40, -⟩ := id hcK
  have hLL : kL (tC (aT A) t) ≤ 40 := hL40
  refine cn_of_ev (L0 := [_, _, _, _, _]) (by decide +kernel) rfl rfl (Nat.le_of_ble_eq_true rfl) rfl ?_
  refine ev_iload_n dX6_takeOut_0 rfl rfl ?_
  refine ev_callSP1 dX6_takeOut_1 cal_X6_requireText lk_6_51 ⟨(Nat.le_of_ble_eq_true rfl), (Nat.le_of_ble_eq_true rfl)⟩ rfl (Nat.le_of_ble_eq_true rfl) (c_requireText t ht) ?_
  refine ev_aload_n dX6_takeOut_4 rfl rfl ?_
  first | refine ev_getfield dX6_takeOut_5 lf_6_10 (a0) rfl ?_ | refine ev_getfield dX6_takeOut_5 lf_6_10 (t0) rfl ?_ | refine ev_getfield dX6_takeOut_5 lf_6_10 (k0) rfl ?_
  first | refine ev_getfield dX6_takeOut_8 lf_6_70 (a0) rfl ?_ | refine ev_getfield dX6_takeOut_8 lf_6_70 (t0) rfl ?_ | refine ev_getfield dX6_takeOut_8 lf_6_70 (k0) rfl ?_
  refine ev_iload_n dX6_takeOut_11 rfl rfl ?_
  refine ev_aaloadN dX6_takeOut_12 (Or.inl rfl) t1 (by omega) (by decide) (t2 t ht) ?_
  refine ev_astore (L' := [_, _, _, _, _]) dX6_takeOut_13 (Nat.le_of_ble_eq_true rfl) rfl ?_
  refine ev_aload dX6_takeOut_15 rfl ?_
  refine ev_iload_n dX6_takeOut_17 rfl rfl ?_
  refine ev_callSP2 dX6_takeOut_18 cal_X6_requirePlace lk_6_98 ⟨(Nat.le_of_ble_eq_true rfl), (Nat.le_of_ble_eq_true rfl)⟩ rfl (Nat.le_of_ble_eq_true rfl) (c_requirePlace hcK p hp) ?_
  refine ev_iload_n dX6_takeOut_21 rfl rfl ?_
  refine ev_iconst (nI 1) dX6_takeOut_22 rfl ?_
  refine ev_icmp_ltN 37 dX6_takeOut_23 rfl (by omega) (by omega) (fun hc23 => ?_) (fun hc23 => ?_)
  · refine ev_pc (pc' := 37) rfl ?_
    omega
  · refine ev_iload_n dX6_takeOut_26 rfl rfl ?_
    refine ev_aload dX6_takeOut_27 rfl ?_
    first | refine ev_getfield dX6_takeOut_29 lf_6_74 (a0) rfl ?_ | refine ev_getfield dX6_takeOut_29 lf_6_74 (t0) rfl ?_ | refine ev_getfield dX6_takeOut_29 lf_6_74 (k0) rfl ?_
    refine ev_iload_n dX6_takeOut_32 rfl rfl ?_
    refine ev_isubN dX6_takeOut_33 (by omega) ?_
    refine ev_icmp_leN 47 dX6_takeOut_34 rfl (by omega) (by omega) (fun hc34 => ?_) (fun hc34 => ?_)
    · refine ev_pc (pc' := 47) rfl ?_
      refine ev_aload_n dX6_takeOut_47 rfl rfl ?_
      first | refine ev_getfield dX6_takeOut_48 lf_6_36 (a0) rfl ?_ | refine ev_getfield dX6_takeOut_48 lf_6_36 (c0) rfl ?_
      first | refine ev_callVU0 dX6_takeOut_51 cal_X1_clear lk_6_58 ⟨(Nat.le_of_ble_eq_true rfl), (Nat.le_of_ble_eq_true rfl)⟩ rfl (a0) (Nat.le_of_ble_eq_true rfl) (c_Cut_clear wc) (fun v h51 hq51 => ?_) | refine ev_callVU0 dX6_takeOut_51 cal_X1_clear lk_6_58 ⟨(Nat.le_of_ble_eq_true rfl), (Nat.le_of_ble_eq_true rfl)⟩ rfl (c0) (Nat.le_of_ble_eq_true rfl) (c_Cut_clear wc) (fun v h51 hq51 => ?_)
      refine ev_pc (pc' := 54) rfl ?_
      obtain ⟨rfl, hc2, o2⟩ := hq51
      have a2 := (o2 0 (by omega)).trans a0
      have hK2 := hcK.go o2 (by omega)
      obtain ⟨_, _, _, _, _, ⟨c2, -, -, -, -, -⟩, -⟩ := id hc2
      refine ev_aload_n dX6_takeOut_54 rfl rfl ?_
      first | refine ev_getfield dX6_takeOut_55 lf_6_36 (a2) rfl ?_ | refine ev_getfield dX6_takeOut_55 lf_6_36 (c2) rfl ?_
      refine ev_aload dX6_takeOut_58 rfl ?_
      refine ev_iconst (nI 0) dX6_takeOut_60 rfl ?_
      refine ev_iload_n dX6_takeOut_61 rfl rfl ?_
      first | refine ev_callVU3 dX6_takeOut_62 cal_X1_addSigns lk_6_94 ⟨(Nat.le_of_ble_eq_true rfl), (Nat.le_of_ble_eq_true rfl)⟩ rfl (a2) (Nat.le_of_ble_eq_true rfl) (c_addSigns hc2 hK2 (by omega) 0 p (Nat.zero_le _) (by omega) (by omega)) (fun v h62 hq62 => ?_) | refine ev_callVU3 dX6_takeOut_62 cal_X1_addSigns lk_6_94 ⟨(Nat.le_of_ble_eq_true rfl), (Nat.le_of_ble_eq_true rfl)⟩ rfl (c2) (Nat.le_of_ble_eq_true rfl) (c_addSigns hc2 hK2 (by omega) 0 p (Nat.zero_le _) (by omega) (by omega)) (fun v h62 hq62 => ?_)
      refine ev_pc (pc' := 65) rfl ?_
      obtain ⟨rfl, hc3, o3⟩ := hq62
      have a3 := (o3 0 (by omega)).trans a2
      have hK3 := hK2.go o3 (by omega)
      obtain ⟨_, _, _, _, _, ⟨c3, -, -, -, -, -⟩, -⟩ := id hc3
      obtain ⟨_, _, _, _, _, ⟨k3, -, -, -, -, -⟩, -⟩ := id hK3
      refine ev_aload_n dX6_takeOut_65 rfl rfl ?_
      first | refine ev_getfield dX6_takeOut_66 lf_6_36 (a3) rfl ?_ | refine ev_getfield dX6_takeOut_66 lf_6_36 (c3) rfl ?_ | refine ev_getfield dX6_takeOut_66 lf_6_36 (k3) rfl ?_
      refine ev_aload dX6_takeOut_69 rfl ?_
      refine ev_iload_n dX6_takeOut_71 rfl rfl ?_
      refine ev_iload_n dX6_takeOut_72 rfl rfl ?_
      refine ev_iaddN dX6_takeOut_73 ?_
      refine ev_aload dX6_takeOut_74 rfl ?_
      first | refine ev_getfield dX6_takeOut_76 lf_6_74 (a3) rfl ?_ | refine ev_getfield dX6_takeOut_76 lf_6_74 (c3) rfl ?_ | refine ev_getfield dX6_takeOut_76 lf_6_74 (k3) rfl ?_
      first | refine ev_callVU3 dX6_takeOut_79 cal_X1_addSigns lk_6_94 ⟨(Nat.le_of_ble_eq_true rfl), (Nat.le_of_ble_eq_true rfl)⟩ rfl (a3) (Nat.le_of_ble_eq_true rfl) (c_addSigns hc3 hK3 (by omega) (p + m) (kL (tC (aT A) t)) (by omega) (Nat.le_refl _) (by omega)) (fun v h79 hq79 => ?_) | refine ev_callVU3 dX6_takeOut_79 cal_X1_addSigns lk_6_94 ⟨(Nat.le_of_ble_eq_true rfl), (Nat.le_of_ble_eq_true rfl)⟩ rfl (c3) (Nat.le_of_ble_eq_true rfl) (c_addSigns hc3 hK3 (by omega) (p + m) (kL (tC (aT A) t)) (by omega) (Nat.le_refl _) (by omega)) (fun v h79 hq79 => ?_) | refine ev_callVU3 dX6_takeOut_79 cal_X1_addSigns lk_6_94 ⟨(Nat.le_of_ble_eq_true rfl), (Nat.le_of_ble_eq_true rfl)⟩ rfl (k3) (Nat.le_of_ble_eq_true rfl) (c_addSigns hc3 hK3 (by omega) (p + m) (kL (tC (aT A) t)) (by omega) (Nat.le_refl _) (by omega)) (fun v h79 hq79 => ?_)
      refine ev_pc (pc' := 82) rfl ?_
      obtain ⟨rfl, hc4, o4⟩ := hq79
      have ho := (o2.tr o3).tr o4
      have hc5 : CutN h79 261 (rawK (kL (tC (aT A) t) - m) (dropF (kS (tC (aT A) t)) p m)) := by
        have e : 0 + (p - 0) + (kL (tC (aT A) t) - (p + m)) = (kL (tC (aT A) t) - m) := by omega
        rw [e] at hc4
        refine hc4.ext (fun j hj => ?_)
        unfold dropF
        by_cases z : j < p
        · rw [if_pos z, catF_lt (by omega), catF_ge (by omega), Nat.zero_add, Nat.sub_zero]
        · rw [if_neg z, catF_ge (by omega)]
          congr 1
          omega
      have hA3 : ClsN h79 A := Tri.clear hA ho hc5
      have aa := hA3.1
      have hr : TriN h79 A (kL (tC (aT A) t) - m) (dropF (kS (tC (aT A) t)) p m) := ⟨hA3, hc5, h1⟩
      refine ev_aload_n dX6_takeOut_82 rfl rfl ?_
      refine ev_iload_n dX6_takeOut_83 rfl rfl ?_
      refine ev_callVU1 dX6_takeOut_84 cal_X6_changeToTrial lk_6_65 ⟨(Nat.le_of_ble_eq_true rfl), (Nat.le_of_ble_eq_true rfl)⟩ rfl (aa) (Nat.le_of_ble_eq_true rfl) (c_changeToTrial hr t ht hk hok) (fun v h84 hq84 => ?_)
      refine ev_pc (pc' := 87) rfl ?_
      obtain ⟨rfl, hA2, oo⟩ := hq84
      refine ev_ireturn dX6_takeOut_87 rfl (Or.inl rfl) (Nat.zero_le _) (Nat.zero_le _) ?_
      exact ⟨_, rfl, rfl, hA2, (ho.up (by omega) (by omega)).tr oo⟩
    · refine ev_pc (pc' := 37) rfl ?_
      omega
set_option maxHeartbeats 4000000 in
set_option maxRecDepth 100000 in
theorem x_takeOut9 {X : mX} {h : mH} {A : mAs} (hA : ClsN h A) (t : Nat) (ht : t < 4) (p m : Nat) (hp : p < kL (tC (aT A) t)) (hm1 : 1 ≤ m) (hm : m ≤ kL (tC (aT A) t) - p) (h1 : ∀ j, j < (kL (tC (aT A) t) - m) → 1 ≤ (dropF (kS (tC (aT A) t)) p m) j) (hk : ChOK (aT A) t (cutK (tV (aT A)) (kL (tC (aT A) t) - m) (dropF (kS (tC (aT A) t)) p m))) (hok : okS (aT A) t (cutK (tV (aT A)) (kL (tC (aT A) t) - m) (dropF (kS (tC (aT A) t)) p m)) = false) : CnX X m_X6_takeOut [.ref 0, .int (nI t), .int (nI p), .int (nI m)] h 2 (fun h1 => ClsN h1 A ∧ Out h h1 0 270) := by
  obtain ⟨a0, hT, hH, hBf, hW⟩ := id hA
  obtain ⟨t0, ⟨f, t1, t2⟩, hcs, hsto, hset⟩ := id hT
  obtain ⟨m0, hm6, -⟩ := id hH
  obtain ⟨⟨b0, bf, b1, hbf⟩, hb60, hbd⟩ := id hBf
  obtain ⟨-, ⟨K1, wc⟩, -, -⟩ := id hW
  obtain ⟨_, _, _, _, _, ⟨c0, -, -, -, -, -⟩, -⟩ := id wc
  have hcK := hcs t ht
  obtain ⟨_, _, _, _, _, ⟨k0, -, -, -, -, -⟩, hL40, -⟩ := id hcK
  have hLL : kL (tC (aT A) t) ≤ 40 := hL40
  refine cn_of_ev (L0 := [_, _, _, _, _]) (by decide +kernel) rfl rfl (Nat.le_of_ble_eq_true rfl) rfl ?_
  refine ev_iload_n dX6_takeOut_0 rfl rfl ?_
  refine ev_callSP1 dX6_takeOut_1 cal_X6_requireText lk_6_51 ⟨(Nat.le_of_ble_eq_true rfl), (Nat.le_of_ble_eq_true rfl)⟩ rfl (Nat.le_of_ble_eq_true rfl) (c_requireText t ht) ?_
  refine ev_aload_n dX6_takeOut_4 rfl rfl ?_
  first | refine ev_getfield dX6_takeOut_5 lf_6_10 (a0) rfl ?_ | refine ev_getfield dX6_takeOut_5 lf_6_10 (t0) rfl ?_ | refine ev_getfield dX6_takeOut_5 lf_6_10 (k0) rfl ?_
  first | refine ev_getfield dX6_takeOut_8 lf_6_70 (a0) rfl ?_ | refine ev_getfield dX6_takeOut_8 lf_6_70 (t0) rfl ?_ | refine ev_getfield dX6_takeOut_8 lf_6_70 (k0) rfl ?_
  refine ev_iload_n dX6_takeOut_11 rfl rfl ?_
  refine ev_aaloadN dX6_takeOut_12 (Or.inl rfl) t1 (by omega) (by decide) (t2 t ht) ?_
  refine ev_astore (L' := [_, _, _, _, _]) dX6_takeOut_13 (Nat.le_of_ble_eq_true rfl) rfl ?_
  refine ev_aload dX6_takeOut_15 rfl ?_
  refine ev_iload_n dX6_takeOut_17 rfl rfl ?_
  refine ev_callSP2 dX6_takeOut_18 cal_X6_requirePlace lk_6_98 ⟨(Nat.le_of_ble_eq_true rfl), (Nat.le_of_ble_eq_true rfl)⟩ rfl (Nat.le_of_ble_eq_true rfl) (c_requirePlace hcK p hp) ?_
  refine ev_iload_n dX6_takeOut_21 rfl rfl ?_
  refine ev_iconst (nI 1) dX6_takeOut_22 rfl ?_
  refine ev_icmp_ltN 37 dX6_takeOut_23 rfl (by omega) (by omega) (fun hc23 => ?_) (fun hc23 => ?_)
  · refine ev_pc (pc' := 37) rfl ?_
    omega
  · refine ev_iload_n dX6_takeOut_26 rfl rfl ?_
    refine ev_aload dX6_takeOut_27 rfl ?_
    first | refine ev_getfield dX6_takeOut_29 lf_6_74 (a0) rfl ?_ | refine ev_getfield dX6_takeOut_29 lf_6_74 (t0) rfl ?_ | refine ev_getfield dX6_takeOut_29 lf_6_74 (k0) rfl ?_
    refine ev_iload_n dX6_takeOut_32 rfl rfl ?_
    refine ev_isubN dX6_takeOut_33 (by omega) ?_
    refine ev_icmp_leN 47 dX6_takeOut_34 rfl (by omega) (by omega) (fun hc34 => ?_) (fun hc34 => ?_)
    · refine ev_pc (pc' := 47) rfl ?_
      refine ev_aload_n dX6_takeOut_47 rfl rfl ?_
      first | refine ev_getfield dX6_takeOut_48 lf_6_36 (a0) rfl ?_ | refine ev_getfield dX6_takeOut_48 lf_6_36 (c0) rfl ?_
      first | refine ev_callVU0 dX6_takeOut_51 cal_X1_clear lk_6_58 ⟨(Nat.le_of_ble_eq_true rfl), (Nat.le_of_ble_eq_true rfl)⟩ rfl (a0) (Nat.le_of_ble_eq_true rfl) (c_Cut_clear wc) (fun v h51 hq51 => ?_) | refine ev_callVU0 dX6_takeOut_51 cal_X1_clear lk_6_58 ⟨(Nat.le_of_ble_eq_true rfl), (Nat.le_of_ble_eq_true rfl)⟩ rfl (c0) (Nat.le_of_ble_eq_true rfl) (c_Cut_clear wc) (fun v h51 hq51 => ?_)
      refine ev_pc (pc' := 54) rfl ?_
      obtain ⟨rfl, hc2, o2⟩ := hq51
      have a2 := (o2 0 (by omega)).trans a0
      have hK2 := hcK.go o2 (by omega)
      obtain ⟨_, _, _, _, _, ⟨c2, -, -, -, -, -⟩, -⟩ := id hc2
      refine ev_aload_n dX6_takeOut_54 rfl rfl ?_
      first | refine ev_getfield dX6_takeOut_55 lf_6_36 (a2) rfl ?_ | refine ev_getfield dX6_takeOut_55 lf_6_36 (c2) rfl ?_
      refine ev_aload dX6_takeOut_58 rfl ?_
      refine ev_iconst (nI 0) dX6_takeOut_60 rfl ?_
      refine ev_iload_n dX6_takeOut_61 rfl rfl ?_
      first | refine ev_callVU3 dX6_takeOut_62 cal_X1_addSigns lk_6_94 ⟨(Nat.le_of_ble_eq_true rfl), (Nat.le_of_ble_eq_true rfl)⟩ rfl (a2) (Nat.le_of_ble_eq_true rfl) (c_addSigns hc2 hK2 (by omega) 0 p (Nat.zero_le _) (by omega) (by omega)) (fun v h62 hq62 => ?_) | refine ev_callVU3 dX6_takeOut_62 cal_X1_addSigns lk_6_94 ⟨(Nat.le_of_ble_eq_true rfl), (Nat.le_of_ble_eq_true rfl)⟩ rfl (c2) (Nat.le_of_ble_eq_true rfl) (c_addSigns hc2 hK2 (by omega) 0 p (Nat.zero_le _) (by omega) (by omega)) (fun v h62 hq62 => ?_)
      refine ev_pc (pc' := 65) rfl ?_
      obtain ⟨rfl, hc3, o3⟩ := hq62
      have a3 := (o3 0 (by omega)).trans a2
      have hK3 := hK2.go o3 (by omega)
      obtain ⟨_, _, _, _, _, ⟨c3, -, -, -, -, -⟩, -⟩ := id hc3
      obtain ⟨_, _, _, _, _, ⟨k3, -, -, -, -, -⟩, -⟩ := id hK3
      refine ev_aload_n dX6_takeOut_65 rfl rfl ?_
      first | refine ev_getfield dX6_takeOut_66 lf_6_36 (a3) rfl ?_ | refine ev_getfield dX6_takeOut_66 lf_6_36 (c3) rfl ?_ | refine ev_getfield dX6_takeOut_66 lf_6_36 (k3) rfl ?_
      refine ev_aload dX6_takeOut_69 rfl ?_
      refine ev_iload_n dX6_takeOut_71 rfl rfl ?_
      refine ev_iload_n dX6_takeOut_72 rfl rfl ?_
      refine ev_iaddN dX6_takeOut_73 ?_
      refine ev_aload dX6_takeOut_74 rfl ?_
      first | refine ev_getfield dX6_takeOut_76 lf_6_74 (a3) rfl ?_ | refine ev_getfield dX6_takeOut_76 lf_6_74 (c3) rfl ?_ | refine ev_getfield dX6_takeOut_76 lf_6_74 (k3) rfl ?_
      first | refine ev_callVU3 dX6_takeOut_79 cal_X1_addSigns lk_6_94 ⟨(Nat.le_of_ble_eq_true rfl), (Nat.le_of_ble_eq_true rfl)⟩ rfl (a3) (Nat.le_of_ble_eq_true rfl) (c_addSigns hc3 hK3 (by omega) (p + m) (kL (tC (aT A) t)) (by omega) (Nat.le_refl _) (by omega)) (fun v h79 hq79 => ?_) | refine ev_callVU3 dX6_takeOut_79 cal_X1_addSigns lk_6_94 ⟨(Nat.le_of_ble_eq_true rfl), (Nat.le_of_ble_eq_true rfl)⟩ rfl (c3) (Nat.le_of_ble_eq_true rfl) (c_addSigns hc3 hK3 (by omega) (p + m) (kL (tC (aT A) t)) (by omega) (Nat.le_refl _) (by omega)) (fun v h79 hq79 => ?_) | refine ev_callVU3 dX6_takeOut_79 cal_X1_addSigns lk_6_94 ⟨(Nat.le_of_ble_eq_true rfl), (Nat.le_of_ble_eq_true rfl)⟩ rfl (k3) (Nat.le_of_ble_eq_true rfl) (c_addSigns hc3 hK3 (by omega) (p + m) (kL (tC (aT A) t)) (by omega) (Nat.le_refl _) (by omega)) (fun v h79 hq79 => ?_)
      refine ev_pc (pc' := 82) rfl ?_
      obtain ⟨rfl, hc4, o4⟩ := hq79
      have ho := (o2.tr o3).tr o4
      have hc5 : CutN h79 261 (rawK (kL (tC (aT A) t) - m) (dropF (kS (tC (aT A) t)) p m)) := by
        have e : 0 + (p - 0) + (kL (tC (aT A) t) - (p + m)) = (kL (tC (aT A) t) - m) := by omega
        rw [e] at hc4
        refine hc4.ext (fun j hj => ?_)
        unfold dropF
        by_cases z : j < p
        · rw [if_pos z, catF_lt (by omega), catF_ge (by omega), Nat.zero_add, Nat.sub_zero]
        · rw [if_neg z, catF_ge (by omega)]
          congr 1
          omega
      have hA3 : ClsN h79 A := Tri.clear hA ho hc5
      have aa := hA3.1
      have hr : TriN h79 A (kL (tC (aT A) t) - m) (dropF (kS (tC (aT A) t)) p m) := ⟨hA3, hc5, h1⟩
      refine ev_aload_n dX6_takeOut_82 rfl rfl ?_
      refine ev_iload_n dX6_takeOut_83 rfl rfl ?_
      refine ev_callVX1 dX6_takeOut_84 cal_X6_changeToTrial lk_6_65 ⟨(Nat.le_of_ble_eq_true rfl), (Nat.le_of_ble_eq_true rfl)⟩ rfl (aa) (Nat.le_of_ble_eq_true rfl) (x_changeToTrial hr t ht hk hok) (fun h84 hq84 => ?_)
      exact ⟨rfl, hq84.1, (ho.up (by omega) (by omega)).tr hq84.2⟩
    · refine ev_pc (pc' := 37) rfl ?_
      omega
set_option maxHeartbeats 4000000 in
set_option maxRecDepth 100000 in
theorem x_rotate {X : mX} {h : mH} (t w : Int32) (ht : inX t 0 4 = false) : CnX X m_X6_rotate [.ref 0, .int t, .int w] h 0 (fun h1 => h1 = h) := by
  refine cn_of_ev (L0 := [_, _, _, _]) (by decide +kernel) rfl rfl (Nat.le_of_ble_eq_true rfl) rfl ?_
  refine ev_iload_n dX6_rotate_0 rfl rfl ?_
  refine ev_callSX1 dX6_rotate_1 cal_X6_requireText lk_6_51 ⟨(Nat.le_of_ble_eq_true rfl), (Nat.le_of_ble_eq_true rfl)⟩ rfl (Nat.le_of_ble_eq_true rfl) (x_requireText t ht) (fun h1 hq1 => ?_)
  exact ⟨rfl, hq1⟩
set_option maxHeartbeats 4000000 in
set_option maxRecDepth 100000 in
theorem x_rotate2 {X : mX} {h : mH} {A : mAs} (hA : ClsN h A) (t : Nat) (w : Int32) (ht : t < 4) (hw : inX w 1 (kL (tC (aT A) t) + 1) = false) : CnX X m_X6_rotate [.ref 0, .int (nI t), .int w] h 1 (fun h1 => h1 = h) := by
  obtain ⟨a0, hT, hH, hBf, hW⟩ := id hA
  obtain ⟨t0, ⟨f, t1, t2⟩, hcs, hsto, hset⟩ := id hT
  obtain ⟨m0, hm6, -⟩ := id hH
  obtain ⟨⟨b0, bf, b1, hbf⟩, hb60, hbd⟩ := id hBf
  obtain ⟨sg, st, le, fo, rk, ⟨c0, c1, c2, c3, c4, c5⟩, hL, hN, hS, hP⟩ := id (hcs t ht)
  refine cn_of_ev (L0 := [_, _, _, _]) (by decide +kernel) rfl rfl (Nat.le_of_ble_eq_true rfl) rfl ?_
  refine ev_iload_n dX6_rotate_0 rfl rfl ?_
  refine ev_callSP1 dX6_rotate_1 cal_X6_requireText lk_6_51 ⟨(Nat.le_of_ble_eq_true rfl), (Nat.le_of_ble_eq_true rfl)⟩ rfl (Nat.le_of_ble_eq_true rfl) (c_requireText t ht) ?_
  refine ev_aload_n dX6_rotate_4 rfl rfl ?_
  first | refine ev_getfield dX6_rotate_5 lf_6_10 (a0) rfl ?_ | refine ev_getfield dX6_rotate_5 lf_6_10 (t0) rfl ?_ | refine ev_getfield dX6_rotate_5 lf_6_10 (c0) rfl ?_
  first | refine ev_getfield dX6_rotate_8 lf_6_70 (a0) rfl ?_ | refine ev_getfield dX6_rotate_8 lf_6_70 (t0) rfl ?_ | refine ev_getfield dX6_rotate_8 lf_6_70 (c0) rfl ?_
  refine ev_iload_n dX6_rotate_11 rfl rfl ?_
  refine ev_aaloadN dX6_rotate_12 (Or.inl rfl) t1 (by omega) (by decide) (t2 t ht) ?_
  refine ev_astore_n (L' := [_, _, _, _]) dX6_rotate_13 rfl (Nat.le_of_ble_eq_true rfl) rfl ?_
  refine ev_iload_n dX6_rotate_14 rfl rfl ?_
  refine ev_iconst (nI 1) dX6_rotate_15 rfl ?_
  refine ev_icmp_lt 27 dX6_rotate_16 rfl (fun hc16 => ?_) (fun hc16 => ?_)
  · refine ev_throwS (M' := m_X6_rotate) (f1 := none) (mc1 := 0) (ms1 := 0) (Q1 := fun _ _ => True) 1 "many is out of range" (by decide) rfl (by decide) rfl (by decide) (Nat.le_of_ble_eq_true rfl) dX6_rotate_27 dX6_rotate_30 dX6_rotate_31 dX6_rotate_33 dX6_rotate_36 (Nat.le_refl _) (Nat.le_refl _) ?_
    exact ⟨rfl, rfl⟩
  · refine ev_iload_n dX6_rotate_19 rfl rfl ?_
    refine ev_aload_n dX6_rotate_20 rfl rfl ?_
    first | refine ev_getfield dX6_rotate_21 lf_6_74 (a0) rfl ?_ | refine ev_getfield dX6_rotate_21 lf_6_74 (t0) rfl ?_ | refine ev_getfield dX6_rotate_21 lf_6_74 (c0) rfl ?_
    refine ev_icmp_le 37 dX6_rotate_24 rfl (fun hc24 => ?_) (fun hc24 => ?_)
    · refine ev_pc (pc' := 37) rfl ?_
      exact absurd (inX_val (a := 1) hc16 hc24 (by decide) (by omega)) (by rw [hw]; decide)
    · refine ev_throwS (M' := m_X6_rotate) (f1 := none) (mc1 := 0) (ms1 := 0) (Q1 := fun _ _ => True) 1 "many is out of range" (by decide) rfl (by decide) rfl (by decide) (Nat.le_of_ble_eq_true rfl) dX6_rotate_27 dX6_rotate_30 dX6_rotate_31 dX6_rotate_33 dX6_rotate_36 (Nat.le_refl _) (Nat.le_refl _) ?_
      exact ⟨rfl, rfl⟩
set_option maxHeartbeats 4000000 in
set_option maxRecDepth 100000 in
theorem c_rotate {X : mX} {h : mH} {A : mAs} (hA : ClsN h A) (t : Nat) (ht : t < 4) (m : Nat) (hm1 : 1 ≤ m) (hm : m ≤ kL (tC (aT A) t)) (h1 : ∀ j, j < (kL (tC (aT A) t)) → 1 ≤ (rotF (kS (tC (aT A) t)) (kL (tC (aT A) t)) m) j) (hk : ChOK (aT A) t (cutK (tV (aT A)) (kL (tC (aT A) t)) (rotF (kS (tC (aT A) t)) (kL (tC (aT A) t)) m))) (hok : okS (aT A) t (cutK (tV (aT A)) (kL (tC (aT A) t)) (rotF (kS (tC (aT A) t)) (kL (tC (aT A) t)) m)) = true) : CnU X m_X6_rotate [.ref 0, .int (nI t), .int (nI m)] h (fun v h1 => v = some (.int (nI (kN (cutK (tV (aT A)) (kL (tC (aT A) t)) (rotF (kS (tC (aT A) t)) (kL (tC (aT A) t)) m))))) ∧ ClsN h1 (chgA A t (kL (tC (aT A) t)) (rotF (kS (tC (aT A) t)) (kL (tC (aT A) t)) m)) ∧ Out h h1 0 270) := by
  obtain ⟨a0, hT, hH, hBf, hW⟩ := id hA
  obtain ⟨t0, ⟨f, t1, t2⟩, hcs, hsto, hset⟩ := id hT
  obtain ⟨m0, hm6, -⟩ := id hH
  obtain ⟨⟨b0, bf, b1, hbf⟩, hb60, hbd⟩ := id hBf
  obtain ⟨-, ⟨K1, wc⟩, -, -⟩ := id hW
  obtain ⟨_, _, _, _, _, ⟨c0, -, -, -, -, -⟩, -⟩ := id wc
  have hcK := hcs t ht
  obtain ⟨_, _, _, _, _, ⟨k0, -, -, -, -, -⟩, hL40, -⟩ := id hcK
  have hLL : kL (tC (aT A) t) ≤ 40 := hL40
  refine cn_of_ev (L0 := [_, _, _, _]) (by decide +kernel) rfl rfl (Nat.le_of_ble_eq_true rfl) rfl ?_
  refine ev_iload_n dX6_rotate_0 rfl rfl ?_
  refine ev_callSP1 dX6_rotate_1 cal_X6_requireText lk_6_51 ⟨(Nat.le_of_ble_eq_true rfl), (Nat.le_of_ble_eq_true rfl)⟩ rfl (Nat.le_of_ble_eq_true rfl) (c_requireText t ht) ?_
  refine ev_aload_n dX6_rotate_4 rfl rfl ?_
  first | refine ev_getfield dX6_rotate_5 lf_6_10 (a0) rfl ?_ | refine ev_getfield dX6_rotate_5 lf_6_10 (t0) rfl ?_ | refine ev_getfield dX6_rotate_5 lf_6_10 (k0) rfl ?_
  first | refine ev_getfield dX6_rotate_8 lf_6_70 (a0) rfl ?_ | refine ev_getfield dX6_rotate_8 lf_6_70 (t0) rfl ?_ | refine ev_getfield dX6_rotate_8 lf_6_70 (k0) rfl ?_
  refine ev_iload_n dX6_rotate_11 rfl rfl ?_
  refine ev_aaloadN dX6_rotate_12 (Or.inl rfl) t1 (by omega) (by decide) (t2 t ht) ?_
  refine ev_astore_n (L' := [_, _, _, _]) dX6_rotate_13 rfl (Nat.le_of_ble_eq_true rfl) rfl ?_
  refine ev_iload_n dX6_rotate_14 rfl rfl ?_
  refine ev_iconst (nI 1) dX6_rotate_15 rfl ?_
  refine ev_icmp_ltN 27 dX6_rotate_16 rfl (by omega) (by omega) (fun hc16 => ?_) (fun hc16 => ?_)
  · refine ev_pc (pc' := 27) rfl ?_
    omega
  · refine ev_iload_n dX6_rotate_19 rfl rfl ?_
    refine ev_aload_n dX6_rotate_20 rfl rfl ?_
    first | refine ev_getfield dX6_rotate_21 lf_6_74 (a0) rfl ?_ | refine ev_getfield dX6_rotate_21 lf_6_74 (t0) rfl ?_ | refine ev_getfield dX6_rotate_21 lf_6_74 (k0) rfl ?_
    refine ev_icmp_leN 37 dX6_rotate_24 rfl (by omega) (by omega) (fun hc24 => ?_) (fun hc24 => ?_)
    · refine ev_pc (pc' := 37) rfl ?_
      refine ev_aload_n dX6_rotate_37 rfl rfl ?_
      first | refine ev_getfield dX6_rotate_38 lf_6_36 (a0) rfl ?_ | refine ev_getfield dX6_rotate_38 lf_6_36 (c0) rfl ?_
      first | refine ev_callVU0 dX6_rotate_41 cal_X1_clear lk_6_58 ⟨(Nat.le_of_ble_eq_true rfl), (Nat.le_of_ble_eq_true rfl)⟩ rfl (a0) (Nat.le_of_ble_eq_true rfl) (c_Cut_clear wc) (fun v h41 hq41 => ?_) | refine ev_callVU0 dX6_rotate_41 cal_X1_clear lk_6_58 ⟨(Nat.le_of_ble_eq_true rfl), (Nat.le_of_ble_eq_true rfl)⟩ rfl (c0) (Nat.le_of_ble_eq_true rfl) (c_Cut_clear wc) (fun v h41 hq41 => ?_)
      refine ev_pc (pc' := 44) rfl ?_
      obtain ⟨rfl, hc2, o2⟩ := hq41
      have a2 := (o2 0 (by omega)).trans a0
      have hK2 := hcK.go o2 (by omega)
      obtain ⟨_, _, _, _, _, ⟨c2, -, -, -, -, -⟩, -⟩ := id hc2
      obtain ⟨_, _, _, _, _, ⟨k2, -, -, -, -, -⟩, -⟩ := id hK2
      refine ev_aload_n dX6_rotate_44 rfl rfl ?_
      first | refine ev_getfield dX6_rotate_45 lf_6_36 (a2) rfl ?_ | refine ev_getfield dX6_rotate_45 lf_6_36 (c2) rfl ?_ | refine ev_getfield dX6_rotate_45 lf_6_36 (k2) rfl ?_
      refine ev_aload_n dX6_rotate_48 rfl rfl ?_
      refine ev_iload_n dX6_rotate_49 rfl rfl ?_
      refine ev_aload_n dX6_rotate_50 rfl rfl ?_
      first | refine ev_getfield dX6_rotate_51 lf_6_74 (a2) rfl ?_ | refine ev_getfield dX6_rotate_51 lf_6_74 (c2) rfl ?_ | refine ev_getfield dX6_rotate_51 lf_6_74 (k2) rfl ?_
      first | refine ev_callVU3 dX6_rotate_54 cal_X1_addSigns lk_6_94 ⟨(Nat.le_of_ble_eq_true rfl), (Nat.le_of_ble_eq_true rfl)⟩ rfl (a2) (Nat.le_of_ble_eq_true rfl) (c_addSigns hc2 hK2 (by omega) m (kL (tC (aT A) t)) (by omega) (Nat.le_refl _) (by omega)) (fun v h54 hq54 => ?_) | refine ev_callVU3 dX6_rotate_54 cal_X1_addSigns lk_6_94 ⟨(Nat.le_of_ble_eq_true rfl), (Nat.le_of_ble_eq_true rfl)⟩ rfl (c2) (Nat.le_of_ble_eq_true rfl) (c_addSigns hc2 hK2 (by omega) m (kL (tC (aT A) t)) (by omega) (Nat.le_refl _) (by omega)) (fun v h54 hq54 => ?_) | refine ev_callVU3 dX6_rotate_54 cal_X1_addSigns lk_6_94 ⟨(Nat.le_of_ble_eq_true rfl), (Nat.le_of_ble_eq_true rfl)⟩ rfl (k2) (Nat.le_of_ble_eq_true rfl) (c_addSigns hc2 hK2 (by omega) m (kL (tC (aT A) t)) (by omega) (Nat.le_refl _) (by omega)) (fun v h54 hq54 => ?_)
      refine ev_pc (pc' := 57) rfl ?_
      obtain ⟨rfl, hc3, o3⟩ := hq54
      have a3 := (o3 0 (by omega)).trans a2
      have hK3 := hK2.go o3 (by omega)
      obtain ⟨_, _, _, _, _, ⟨c3, -, -, -, -, -⟩, -⟩ := id hc3
      refine ev_aload_n dX6_rotate_57 rfl rfl ?_
      first | refine ev_getfield dX6_rotate_58 lf_6_36 (a3) rfl ?_ | refine ev_getfield dX6_rotate_58 lf_6_36 (c3) rfl ?_
      refine ev_aload_n dX6_rotate_61 rfl rfl ?_
      refine ev_iconst (nI 0) dX6_rotate_62 rfl ?_
      refine ev_iload_n dX6_rotate_63 rfl rfl ?_
      first | refine ev_callVU3 dX6_rotate_64 cal_X1_addSigns lk_6_94 ⟨(Nat.le_of_ble_eq_true rfl), (Nat.le_of_ble_eq_true rfl)⟩ rfl (a3) (Nat.le_of_ble_eq_true rfl) (c_addSigns hc3 hK3 (by omega) 0 m (Nat.zero_le _) (by omega) (by omega)) (fun v h64 hq64 => ?_) | refine ev_callVU3 dX6_rotate_64 cal_X1_addSigns lk_6_94 ⟨(Nat.le_of_ble_eq_true rfl), (Nat.le_of_ble_eq_true rfl)⟩ rfl (c3) (Nat.le_of_ble_eq_true rfl) (c_addSigns hc3 hK3 (by omega) 0 m (Nat.zero_le _) (by omega) (by omega)) (fun v h64 hq64 => ?_)
      refine ev_pc (pc' := 67) rfl ?_
      obtain ⟨rfl, hc4, o4⟩ := hq64
      have ho := (o2.tr o3).tr o4
      have hc5 : CutN h64 261 (rawK (kL (tC (aT A) t)) (rotF (kS (tC (aT A) t)) (kL (tC (aT A) t)) m)) := by
        have e : 0 + (kL (tC (aT A) t) - m) + (m - 0) = (kL (tC (aT A) t)) := by omega
        rw [e] at hc4
        refine hc4.ext (fun j hj => ?_)
        unfold rotF
        by_cases z : j < kL (tC (aT A) t) - m
        · rw [if_pos z, catF_lt (by omega), catF_ge (by omega), Nat.sub_zero]
        · rw [if_neg z, catF_ge (by omega)]
          congr 1
          omega
      have hA3 : ClsN h64 A := Tri.clear hA ho hc5
      have aa := hA3.1
      have hr : TriN h64 A (kL (tC (aT A) t)) (rotF (kS (tC (aT A) t)) (kL (tC (aT A) t)) m) := ⟨hA3, hc5, h1⟩
      refine ev_aload_n dX6_rotate_67 rfl rfl ?_
      refine ev_iload_n dX6_rotate_68 rfl rfl ?_
      refine ev_callVU1 dX6_rotate_69 cal_X6_changeToTrial lk_6_65 ⟨(Nat.le_of_ble_eq_true rfl), (Nat.le_of_ble_eq_true rfl)⟩ rfl (aa) (Nat.le_of_ble_eq_true rfl) (c_changeToTrial hr t ht hk hok) (fun v h69 hq69 => ?_)
      refine ev_pc (pc' := 72) rfl ?_
      obtain ⟨rfl, hA2, oo⟩ := hq69
      refine ev_ireturn dX6_rotate_72 rfl (Or.inl rfl) (Nat.zero_le _) (Nat.zero_le _) ?_
      exact ⟨_, rfl, rfl, hA2, (ho.up (by omega) (by omega)).tr oo⟩
    · refine ev_pc (pc' := 27) rfl ?_
      omega
set_option maxHeartbeats 4000000 in
set_option maxRecDepth 100000 in
theorem x_rotate9 {X : mX} {h : mH} {A : mAs} (hA : ClsN h A) (t : Nat) (ht : t < 4) (m : Nat) (hm1 : 1 ≤ m) (hm : m ≤ kL (tC (aT A) t)) (h1 : ∀ j, j < (kL (tC (aT A) t)) → 1 ≤ (rotF (kS (tC (aT A) t)) (kL (tC (aT A) t)) m) j) (hk : ChOK (aT A) t (cutK (tV (aT A)) (kL (tC (aT A) t)) (rotF (kS (tC (aT A) t)) (kL (tC (aT A) t)) m))) (hok : okS (aT A) t (cutK (tV (aT A)) (kL (tC (aT A) t)) (rotF (kS (tC (aT A) t)) (kL (tC (aT A) t)) m)) = false) : CnX X m_X6_rotate [.ref 0, .int (nI t), .int (nI m)] h 2 (fun h1 => ClsN h1 A ∧ Out h h1 0 270) := by
  obtain ⟨a0, hT, hH, hBf, hW⟩ := id hA
  obtain ⟨t0, ⟨f, t1, t2⟩, hcs, hsto, hset⟩ := id hT
  obtain ⟨m0, hm6, -⟩ := id hH
  obtain ⟨⟨b0, bf, b1, hbf⟩, hb60, hbd⟩ := id hBf
  obtain ⟨-, ⟨K1, wc⟩, -, -⟩ := id hW
  obtain ⟨_, _, _, _, _, ⟨c0, -, -, -, -, -⟩, -⟩ := id wc
  have hcK := hcs t ht
  obtain ⟨_, _, _, _, _, ⟨k0, -, -, -, -, -⟩, hL40, -⟩ := id hcK
  have hLL : kL (tC (aT A) t) ≤ 40 := hL40
  refine cn_of_ev (L0 := [_, _, _, _]) (by decide +kernel) rfl rfl (Nat.le_of_ble_eq_true rfl) rfl ?_
  refine ev_iload_n dX6_rotate_0 rfl rfl ?_
  refine ev_callSP1 dX6_rotate_1 cal_X6_requireText lk_6_51 ⟨(Nat.le_of_ble_eq_true rfl), (Nat.le_of_ble_eq_true rfl)⟩ rfl (Nat.le_of_ble_eq_true rfl) (c_requireText t ht) ?_
  refine ev_aload_n dX6_rotate_4 rfl rfl ?_
  first | refine ev_getfield dX6_rotate_5 lf_6_10 (a0) rfl ?_ | refine ev_getfield dX6_rotate_5 lf_6_10 (t0) rfl ?_ | refine ev_getfield dX6_rotate_5 lf_6_10 (k0) rfl ?_
  first | refine ev_getfield dX6_rotate_8 lf_6_70 (a0) rfl ?_ | refine ev_getfield dX6_rotate_8 lf_6_70 (t0) rfl ?_ | refine ev_getfield dX6_rotate_8 lf_6_70 (k0) rfl ?_
  refine ev_iload_n dX6_rotate_11 rfl rfl ?_
  refine ev_aaloadN dX6_rotate_12 (Or.inl rfl) t1 (by omega) (by decide) (t2 t ht) ?_
  refine ev_astore_n (L' := [_, _, _, _]) dX6_rotate_13 rfl (Nat.le_of_ble_eq_true rfl) rfl ?_
  refine ev_iload_n dX6_rotate_14 rfl rfl ?_
  refine ev_iconst (nI 1) dX6_rotate_15 rfl ?_
  refine ev_icmp_ltN 27 dX6_rotate_16 rfl (by omega) (by omega) (fun hc16 => ?_) (fun hc16 => ?_)
  · refine ev_pc (pc' := 27) rfl ?_
    omega
  · refine ev_iload_n dX6_rotate_19 rfl rfl ?_
    refine ev_aload_n dX6_rotate_20 rfl rfl ?_
    first | refine ev_getfield dX6_rotate_21 lf_6_74 (a0) rfl ?_ | refine ev_getfield dX6_rotate_21 lf_6_74 (t0) rfl ?_ | refine ev_getfield dX6_rotate_21 lf_6_74 (k0) rfl ?_
    refine ev_icmp_leN 37 dX6_rotate_24 rfl (by omega) (by omega) (fun hc24 => ?_) (fun hc24 => ?_)
    · refine ev_pc (pc' := 37) rfl ?_
      refine ev_aload_n dX6_rotate_37 rfl rfl ?_
      first | refine ev_getfield dX6_rotate_38 lf_6_36 (a0) rfl ?_ | refine ev_getfield dX6_rotate_38 lf_6_36 (c0) rfl ?_
      first | refine ev_callVU0 dX6_rotate_41 cal_X1_clear lk_6_58 ⟨(Nat.le_of_ble_eq_true rfl), (Nat.le_of_ble_eq_true rfl)⟩ rfl (a0) (Nat.le_of_ble_eq_true rfl) (c_Cut_clear wc) (fun v h41 hq41 => ?_) | refine ev_callVU0 dX6_rotate_41 cal_X1_clear lk_6_58 ⟨(Nat.le_of_ble_eq_true rfl), (Nat.le_of_ble_eq_true rfl)⟩ rfl (c0) (Nat.le_of_ble_eq_true rfl) (c_Cut_clear wc) (fun v h41 hq41 => ?_)
      refine ev_pc (pc' := 44) rfl ?_
      obtain ⟨rfl, hc2, o2⟩ := hq41
      have a2 := (o2 0 (by omega)).trans a0
      have hK2 := hcK.go o2 (by omega)
      obtain ⟨_, _, _, _, _, ⟨c2, -, -, -, -, -⟩, -⟩ := id hc2
      obtain ⟨_, _, _, _, _, ⟨k2, -, -, -, -, -⟩, -⟩ := id hK2
      refine ev_aload_n dX6_rotate_44 rfl rfl ?_
      first | refine ev_getfield dX6_rotate_45 lf_6_36 (a2) rfl ?_ | refine ev_getfield dX6_rotate_45 lf_6_36 (c2) rfl ?_ | refine ev_getfield dX6_rotate_45 lf_6_36 (k2) rfl ?_
      refine ev_aload_n dX6_rotate_48 rfl rfl ?_
      refine ev_iload_n dX6_rotate_49 rfl rfl ?_
      refine ev_aload_n dX6_rotate_50 rfl rfl ?_
      first | refine ev_getfield dX6_rotate_51 lf_6_74 (a2) rfl ?_ | refine ev_getfield dX6_rotate_51 lf_6_74 (c2) rfl ?_ | refine ev_getfield dX6_rotate_51 lf_6_74 (k2) rfl ?_
      first | refine ev_callVU3 dX6_rotate_54 cal_X1_addSigns lk_6_94 ⟨(Nat.le_of_ble_eq_true rfl), (Nat.le_of_ble_eq_true rfl)⟩ rfl (a2) (Nat.le_of_ble_eq_true rfl) (c_addSigns hc2 hK2 (by omega) m (kL (tC (aT A) t)) (by omega) (Nat.le_refl _) (by omega)) (fun v h54 hq54 => ?_) | refine ev_callVU3 dX6_rotate_54 cal_X1_addSigns lk_6_94 ⟨(Nat.le_of_ble_eq_true rfl), (Nat.le_of_ble_eq_true rfl)⟩ rfl (c2) (Nat.le_of_ble_eq_true rfl) (c_addSigns hc2 hK2 (by omega) m (kL (tC (aT A) t)) (by omega) (Nat.le_refl _) (by omega)) (fun v h54 hq54 => ?_) | refine ev_callVU3 dX6_rotate_54 cal_X1_addSigns lk_6_94 ⟨(Nat.le_of_ble_eq_true rfl), (Nat.le_of_ble_eq_true rfl)⟩ rfl (k2) (Nat.le_of_ble_eq_true rfl) (c_addSigns hc2 hK2 (by omega) m (kL (tC (aT A) t)) (by omega) (Nat.le_refl _) (by omega)) (fun v h54 hq54 => ?_)
      refine ev_pc (pc' := 57) rfl ?_
      obtain ⟨rfl, hc3, o3⟩ := hq54
      have a3 := (o3 0 (by omega)).trans a2
      have hK3 := hK2.go o3 (by omega)
      obtain ⟨_, _, _, _, _, ⟨c3, -, -, -, -, -⟩, -⟩ := id hc3
      refine ev_aload_n dX6_rotate_57 rfl rfl ?_
      first | refine ev_getfield dX6_rotate_58 lf_6_36 (a3) rfl ?_ | refine ev_getfield dX6_rotate_58 lf_6_36 (c3) rfl ?_
      refine ev_aload_n dX6_rotate_61 rfl rfl ?_
      refine ev_iconst (nI 0) dX6_rotate_62 rfl ?_
      refine ev_iload_n dX6_rotate_63 rfl rfl ?_
      first | refine ev_callVU3 dX6_rotate_64 cal_X1_addSigns lk_6_94 ⟨(Nat.le_of_ble_eq_true rfl), (Nat.le_of_ble_eq_true rfl)⟩ rfl (a3) (Nat.le_of_ble_eq_true rfl) (c_addSigns hc3 hK3 (by omega) 0 m (Nat.zero_le _) (by omega) (by omega)) (fun v h64 hq64 => ?_) | refine ev_callVU3 dX6_rotate_64 cal_X1_addSigns lk_6_94 ⟨(Nat.le_of_ble_eq_true rfl), (Nat.le_of_ble_eq_true rfl)⟩ rfl (c3) (Nat.le_of_ble_eq_true rfl) (c_addSigns hc3 hK3 (by omega) 0 m (Nat.zero_le _) (by omega) (by omega)) (fun v h64 hq64 => ?_)
      refine ev_pc (pc' := 67) rfl ?_
      obtain ⟨rfl, hc4, o4⟩ := hq64
      have ho := (o2.tr o3).tr o4
      have hc5 : CutN h64 261 (rawK (kL (tC (aT A) t)) (rotF (kS (tC (aT A) t)) (kL (tC (aT A) t)) m)) := by
        have e : 0 + (kL (tC (aT A) t) - m) + (m - 0) = (kL (tC (aT A) t)) := by omega
        rw [e] at hc4
        refine hc4.ext (fun j hj => ?_)
        unfold rotF
        by_cases z : j < kL (tC (aT A) t) - m
        · rw [if_pos z, catF_lt (by omega), catF_ge (by omega), Nat.sub_zero]
        · rw [if_neg z, catF_ge (by omega)]
          congr 1
          omega
      have hA3 : ClsN h64 A := Tri.clear hA ho hc5
      have aa := hA3.1
      have hr : TriN h64 A (kL (tC (aT A) t)) (rotF (kS (tC (aT A) t)) (kL (tC (aT A) t)) m) := ⟨hA3, hc5, h1⟩
      refine ev_aload_n dX6_rotate_67 rfl rfl ?_
      refine ev_iload_n dX6_rotate_68 rfl rfl ?_
      refine ev_callVX1 dX6_rotate_69 cal_X6_changeToTrial lk_6_65 ⟨(Nat.le_of_ble_eq_true rfl), (Nat.le_of_ble_eq_true rfl)⟩ rfl (aa) (Nat.le_of_ble_eq_true rfl) (x_changeToTrial hr t ht hk hok) (fun h69 hq69 => ?_)
      exact ⟨rfl, hq69.1, (ho.up (by omega) (by omega)).tr hq69.2⟩
    · refine ev_pc (pc' := 27) rfl ?_
      omega
