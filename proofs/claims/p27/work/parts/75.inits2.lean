abbrev as0 : mAs := (st0, (0, fun _ => st0), (0, fun _ => 0))
set_option maxHeartbeats 4000000 in
set_option maxRecDepth 100000 in
theorem c_X6_init {X : mX} {h : mH} (a0 : h 0 = some (aO 6 [.null, .null, .null, .null, .null, .null, .null])) (hR : RO X) : Cn X m_X6_init (some 1) (some 270) 269 8651 [.ref 0] h (fun o h1 => o = .inl none ∧ ClsN h1 as0 ∧ Out h h1 0 270) := by
  refine cn_of_ev (L0 := [_]) (by decide +kernel) rfl rfl (Nat.le_of_ble_eq_true rfl) rfl ?_
  refine ev_aload_n dX6_init_0 rfl rfl ?_
  refine ev_objInit dX6_init_1 lk_6_1 w_oi w_oc (Nat.le_of_ble_eq_true rfl) (Nat.le_of_ble_eq_true rfl) (a0) ?_
  refine ev_aload_n dX6_init_4 rfl rfl ?_
  refine ev_new (fs := [.null, .null, .null]) dX6_init_5 (by decide) lcl_6_7 wn_4 wi_4 (fun j hj => by obtain rfl | rfl | rfl : j = 0 ∨ j = 1 ∨ j = 2 := (by have : j < 3 := hj; omega); all_goals rfl) (by first | omega | (simp only [NN]; omega)) (by first | omega | (simp only [NN]; omega)) (by first | omega | (simp only [NN]; omega)) ?_
  refine ev_dup dX6_init_8 rfl ?_
  refine ev_callIC dX6_init_9 cal_X4_init lk_6_9 ⟨(Nat.le_of_ble_eq_true rfl), (Nat.le_of_ble_eq_true rfl)⟩ rfl (Nat.le_of_ble_eq_true rfl) (c_X4_init (mset_s _ _ _) (by omega) hR) (by first | omega | (simp only [NN]; omega)) (by first | omega | (simp only [NN]; omega)) (fun h9 hq9 => ?_)
  refine ev_pc (pc' := 12) rfl ?_
  obtain ⟨hT, o9⟩ := hq9
  have z9 : h9 0 = some (aO 6 [.null, .null, .null, .null, .null, .null, .null]) := (o9 _ (by omega)).trans ((mset_n (by omega)).trans a0)
  have oo9 : Out h h9 0 270 := fun q hq => (o9 q (by omega)).trans ((mset_n (by omega)).trans rfl)
  refine ev_putfinal (fs' := [_, _, _, _, _, _, _]) dX6_init_12 lf_6_10 rfl rfl rfl (z9) (Nat.le_of_ble_eq_true rfl) rfl rfl rfl ?_
  refine ev_aload_n dX6_init_15 rfl rfl ?_
  refine ev_new (fs := [.null, .int 0]) dX6_init_16 (by decide) lcl_6_16 wn_2 wi_2 (fun j hj => by obtain rfl | rfl : j = 0 ∨ j = 1 := (by have : j < 2 := hj; omega); all_goals rfl) (by first | omega | (simp only [NN]; omega)) (by first | omega | (simp only [NN]; omega)) (by first | omega | (simp only [NN]; omega)) ?_
  refine ev_dup dX6_init_19 rfl ?_
  refine ev_callIC dX6_init_20 cal_X2_init lk_6_18 ⟨(Nat.le_of_ble_eq_true rfl), (Nat.le_of_ble_eq_true rfl)⟩ rfl (Nat.le_of_ble_eq_true rfl) (c_X2_init (mset_s _ _ _) (by omega) hR) (by first | omega | (simp only [NN]; omega)) (by first | omega | (simp only [NN]; omega)) (fun h20 hq20 => ?_)
  refine ev_pc (pc' := 23) rfl ?_
  obtain ⟨hH, o20⟩ := hq20
  have z20 : h20 0 = some (aO 6 [.ref 1, .null, .null, .null, .null, .null, .null]) := (o20 _ (by omega)).trans ((mset_n (by omega)).trans (mset_s _ _ _))
  have hT : StN h20 1 st0 := ((hT.go (a := 0) (n := 1) (fun q hq => mset_n (by omega)) (by omega)).go (a := 33) (n := 1) (fun q hq => mset_n (by omega)) (by omega)).go o20 (by omega)
  have oo20 : Out h h20 0 270 := fun q hq => (o20 q (by omega)).trans ((mset_n (by omega)).trans ((mset_n (by omega)).trans (oo9 q hq)))
  refine ev_putfinal (fs' := [_, _, _, _, _, _, _]) dX6_init_23 lf_6_19 rfl rfl rfl (z20) (Nat.le_of_ble_eq_true rfl) rfl rfl rfl ?_
  refine ev_aload_n dX6_init_26 rfl rfl ?_
  refine ev_new (fs := [.null, .int 0]) dX6_init_27 (by decide) lcl_6_23 wn_0 wi_0 (fun j hj => by obtain rfl | rfl : j = 0 ∨ j = 1 := (by have : j < 2 := hj; omega); all_goals rfl) (by first | omega | (simp only [NN]; omega)) (by first | omega | (simp only [NN]; omega)) (by first | omega | (simp only [NN]; omega)) ?_
  refine ev_dup dX6_init_30 rfl ?_
  refine ev_callIC dX6_init_31 cal_X0_init lk_6_25 ⟨(Nat.le_of_ble_eq_true rfl), (Nat.le_of_ble_eq_true rfl)⟩ rfl (Nat.le_of_ble_eq_true rfl) (c_X0_init (mset_s _ _ _) (by omega)) (by first | omega | (simp only [NN]; omega)) (by first | omega | (simp only [NN]; omega)) (fun h31 hq31 => ?_)
  refine ev_pc (pc' := 34) rfl ?_
  obtain ⟨hB, o31⟩ := hq31
  have z31 : h31 0 = some (aO 6 [.ref 1, .ref 33, .null, .null, .null, .null, .null]) := (o31 _ (by omega)).trans ((mset_n (by omega)).trans (mset_s _ _ _))
  have hT : StN h31 1 st0 := ((hT.go (a := 0) (n := 1) (fun q hq => mset_n (by omega)) (by omega)).go (a := 227) (n := 1) (fun q hq => mset_n (by omega)) (by omega)).go o31 (by omega)
  have hH : HisN h31 33 0 (fun _ => st0) := ((hH.go (a := 0) (m := 1) (fun q hq => mset_n (by omega)) (by omega)).go (a := 227) (m := 1) (fun q hq => mset_n (by omega)) (by omega)).go o31 (by omega)
  have oo31 : Out h h31 0 270 := fun q hq => (o31 q (by omega)).trans ((mset_n (by omega)).trans ((mset_n (by omega)).trans (oo20 q hq)))
  refine ev_putfinal (fs' := [_, _, _, _, _, _, _]) dX6_init_34 lf_6_26 rfl rfl rfl (z31) (Nat.le_of_ble_eq_true rfl) rfl rfl rfl ?_
  refine ev_aload_n dX6_init_37 rfl rfl ?_
  refine ev_new (fs := [.null, .null, .null]) dX6_init_38 (by decide) lcl_6_7 wn_4 wi_4 (fun j hj => by obtain rfl | rfl | rfl : j = 0 ∨ j = 1 ∨ j = 2 := (by have : j < 3 := hj; omega); all_goals rfl) (by first | omega | (simp only [NN]; omega)) (by first | omega | (simp only [NN]; omega)) (by first | omega | (simp only [NN]; omega)) ?_
  refine ev_dup dX6_init_41 rfl ?_
  refine ev_callIC dX6_init_42 cal_X4_init lk_6_9 ⟨(Nat.le_of_ble_eq_true rfl), (Nat.le_of_ble_eq_true rfl)⟩ rfl (Nat.le_of_ble_eq_true rfl) (c_X4_init (mset_s _ _ _) (by omega) hR) (by first | omega | (simp only [NN]; omega)) (by first | omega | (simp only [NN]; omega)) (fun h42 hq42 => ?_)
  refine ev_pc (pc' := 45) rfl ?_
  obtain ⟨hN, o42⟩ := hq42
  have z42 : h42 0 = some (aO 6 [.ref 1, .ref 33, .ref 227, .null, .null, .null, .null]) := (o42 _ (by omega)).trans ((mset_n (by omega)).trans (mset_s _ _ _))
  have hT : StN h42 1 st0 := ((hT.go (a := 0) (n := 1) (fun q hq => mset_n (by omega)) (by omega)).go (a := 229) (n := 1) (fun q hq => mset_n (by omega)) (by omega)).go o42 (by omega)
  have hH : HisN h42 33 0 (fun _ => st0) := ((hH.go (a := 0) (m := 1) (fun q hq => mset_n (by omega)) (by omega)).go (a := 229) (m := 1) (fun q hq => mset_n (by omega)) (by omega)).go o42 (by omega)
  have hB : BufN h42 227 0 (fun _ => 0) := ((hB.go (a := 0) (m := 1) (fun q hq => mset_n (by omega)) (by omega)).go (a := 229) (m := 1) (fun q hq => mset_n (by omega)) (by omega)).go o42 (by omega)
  have oo42 : Out h h42 0 270 := fun q hq => (o42 q (by omega)).trans ((mset_n (by omega)).trans ((mset_n (by omega)).trans (oo31 q hq)))
  refine ev_putfinal (fs' := [_, _, _, _, _, _, _]) dX6_init_45 lf_6_30 rfl rfl rfl (z42) (Nat.le_of_ble_eq_true rfl) rfl rfl rfl ?_
  refine ev_aload_n dX6_init_48 rfl rfl ?_
  refine ev_new (fs := [.null, .int 0, .null, .null, .null, .null, .int 0]) dX6_init_49 (by decide) lcl_6_33 wn_1 wi_1 (fun j hj => by obtain rfl | rfl | rfl | rfl | rfl | rfl | rfl : j = 0 ∨ j = 1 ∨ j = 2 ∨ j = 3 ∨ j = 4 ∨ j = 5 ∨ j = 6 := (by have : j < 7 := hj; omega); all_goals rfl) (by first | omega | (simp only [NN]; omega)) (by first | omega | (simp only [NN]; omega)) (by first | omega | (simp only [NN]; omega)) ?_
  refine ev_dup dX6_init_52 rfl ?_
  refine ev_callIC dX6_init_53 cal_X1_init lk_6_35 ⟨(Nat.le_of_ble_eq_true rfl), (Nat.le_of_ble_eq_true rfl)⟩ rfl (Nat.le_of_ble_eq_true rfl) (c_X1_init (mset_s _ _ _) (by omega)) (by first | omega | (simp only [NN]; omega)) (by first | omega | (simp only [NN]; omega)) (fun h53 hq53 => ?_)
  refine ev_pc (pc' := 56) rfl ?_
  obtain ⟨hC, o53⟩ := hq53
  have z53 : h53 0 = some (aO 6 [.ref 1, .ref 33, .ref 227, .ref 229, .null, .null, .null]) := (o53 _ (by omega)).trans ((mset_n (by omega)).trans (mset_s _ _ _))
  have hT : StN h53 1 st0 := ((hT.go (a := 0) (n := 1) (fun q hq => mset_n (by omega)) (by omega)).go (a := 261) (n := 1) (fun q hq => mset_n (by omega)) (by omega)).go o53 (by omega)
  have hH : HisN h53 33 0 (fun _ => st0) := ((hH.go (a := 0) (m := 1) (fun q hq => mset_n (by omega)) (by omega)).go (a := 261) (m := 1) (fun q hq => mset_n (by omega)) (by omega)).go o53 (by omega)
  have hB : BufN h53 227 0 (fun _ => 0) := ((hB.go (a := 0) (m := 1) (fun q hq => mset_n (by omega)) (by omega)).go (a := 261) (m := 1) (fun q hq => mset_n (by omega)) (by omega)).go o53 (by omega)
  have hN : StN h53 229 st0 := ((hN.go (a := 0) (n := 1) (fun q hq => mset_n (by omega)) (by omega)).go (a := 261) (n := 1) (fun q hq => mset_n (by omega)) (by omega)).go o53 (by omega)
  have oo53 : Out h h53 0 270 := fun q hq => (o53 q (by omega)).trans ((mset_n (by omega)).trans ((mset_n (by omega)).trans (oo42 q hq)))
  refine ev_putfinal (fs' := [_, _, _, _, _, _, _]) dX6_init_56 lf_6_36 rfl rfl rfl (z53) (Nat.le_of_ble_eq_true rfl) rfl rfl rfl ?_
  refine ev_aload_n dX6_init_59 rfl rfl ?_
  refine ev_new (fs := [.null]) dX6_init_60 (by decide) lcl_6_40 wn_3 wi_3 (fun j hj => by obtain rfl : j = 0 := (by have : j < 1 := hj; omega); rfl) (by first | omega | (simp only [NN]; omega)) (by first | omega | (simp only [NN]; omega)) (by first | omega | (simp only [NN]; omega)) ?_
  refine ev_dup dX6_init_63 rfl ?_
  refine ev_callIC dX6_init_64 cal_X3_init lk_6_42 ⟨(Nat.le_of_ble_eq_true rfl), (Nat.le_of_ble_eq_true rfl)⟩ rfl (Nat.le_of_ble_eq_true rfl) (c_X3_init (mset_s _ _ _) (by omega) hR) (by first | omega | (simp only [NN]; omega)) (by first | omega | (simp only [NN]; omega)) (fun h64 hq64 => ?_)
  refine ev_pc (pc' := 67) rfl ?_
  obtain ⟨hS, o64⟩ := hq64
  have z64 : h64 0 = some (aO 6 [.ref 1, .ref 33, .ref 227, .ref 229, .ref 261, .null, .null]) := (o64 _ (by omega)).trans ((mset_n (by omega)).trans (mset_s _ _ _))
  have hT : StN h64 1 st0 := ((hT.go (a := 0) (n := 1) (fun q hq => mset_n (by omega)) (by omega)).go (a := 267) (n := 1) (fun q hq => mset_n (by omega)) (by omega)).go o64 (by omega)
  have hH : HisN h64 33 0 (fun _ => st0) := ((hH.go (a := 0) (m := 1) (fun q hq => mset_n (by omega)) (by omega)).go (a := 267) (m := 1) (fun q hq => mset_n (by omega)) (by omega)).go o64 (by omega)
  have hB : BufN h64 227 0 (fun _ => 0) := ((hB.go (a := 0) (m := 1) (fun q hq => mset_n (by omega)) (by omega)).go (a := 267) (m := 1) (fun q hq => mset_n (by omega)) (by omega)).go o64 (by omega)
  have hN : StN h64 229 st0 := ((hN.go (a := 0) (n := 1) (fun q hq => mset_n (by omega)) (by omega)).go (a := 267) (n := 1) (fun q hq => mset_n (by omega)) (by omega)).go o64 (by omega)
  have hC : CutN h64 261 (rawK 0 (fun _ => 0)) := ((hC.go (a := 0) (n := 1) (fun q hq => mset_n (by omega)) (by omega)).go (a := 267) (n := 1) (fun q hq => mset_n (by omega)) (by omega)).go o64 (by omega)
  have oo64 : Out h h64 0 270 := fun q hq => (o64 q (by omega)).trans ((mset_n (by omega)).trans ((mset_n (by omega)).trans (oo53 q hq)))
  refine ev_putfinal (fs' := [_, _, _, _, _, _, _]) dX6_init_67 lf_6_43 rfl rfl rfl (z64) (Nat.le_of_ble_eq_true rfl) rfl rfl rfl ?_
  refine ev_aload_n dX6_init_70 rfl rfl ?_
  refine ev_sipush (nI 160) dX6_init_71 rfl ?_
  refine ev_newL 160 dX6_init_74 w_arrL (by decide) rfl (by decide) (by first | omega | (simp only [NN]; omega)) (by first | omega | (simp only [NN]; omega)) (by first | omega | (simp only [NN]; omega)) ?_
  first | refine ev_putfinal (fs' := [_, _, _, _, _, _, _]) dX6_init_76 lf_6_47 rfl rfl rfl (mset_s _ _ _) (Nat.le_of_ble_eq_true rfl) rfl rfl rfl ?_ | refine ev_putfinal (fs' := [_, _, _, _, _, _, _]) dX6_init_76 lf_6_47 rfl rfl rfl ((mset_n (by omega)).trans (mset_s _ _ _)) (Nat.le_of_ble_eq_true rfl) rfl rfl rfl ?_ | refine ev_putfinal (fs' := [_, _, _, _, _, _, _]) dX6_init_76 lf_6_47 rfl rfl rfl ((mset_n (by omega)).trans ((mset_n (by omega)).trans (z64))) (Nat.le_of_ble_eq_true rfl) rfl rfl rfl ?_
  refine ev_return dX6_init_79 rfl (Or.inl rfl) (by first | omega | (simp only [NN]; omega)) (by first | omega | (simp only [NN]; omega)) ?_
  exact ⟨rfl, ⟨mset_s _ _ _, ((hT.go (a := 0) (n := 1) (fun q hq => mset_n (by omega)) (by omega)).go (a := 269) (n := 1) (fun q hq => mset_n (by omega)) (by omega)).go (a := 0) (n := 1) (fun q hq => mset_n (by omega)) (by omega), ((hH.go (a := 0) (m := 1) (fun q hq => mset_n (by omega)) (by omega)).go (a := 269) (m := 1) (fun q hq => mset_n (by omega)) (by omega)).go (a := 0) (m := 1) (fun q hq => mset_n (by omega)) (by omega), ((hB.go (a := 0) (m := 1) (fun q hq => mset_n (by omega)) (by omega)).go (a := 269) (m := 1) (fun q hq => mset_n (by omega)) (by omega)).go (a := 0) (m := 1) (fun q hq => mset_n (by omega)) (by omega), ⟨_, ((hN.go (a := 0) (n := 1) (fun q hq => mset_n (by omega)) (by omega)).go (a := 269) (n := 1) (fun q hq => mset_n (by omega)) (by omega)).go (a := 0) (n := 1) (fun q hq => mset_n (by omega)) (by omega)⟩, ⟨_, ((hC.go (a := 0) (n := 1) (fun q hq => mset_n (by omega)) (by omega)).go (a := 269) (n := 1) (fun q hq => mset_n (by omega)) (by omega)).go (a := 0) (n := 1) (fun q hq => mset_n (by omega)) (by omega)⟩, ⟨_, ((hS.go (a := 0) (n := 1) (fun q hq => mset_n (by omega)) (by omega)).go (a := 269) (n := 1) (fun q hq => mset_n (by omega)) (by omega)).go (a := 0) (n := 1) (fun q hq => mset_n (by omega)) (by omega)⟩, _, (mset_n (by omega)).trans (mset_s _ _ _)⟩, fun q hq => (mset_n (by omega)).trans ((mset_n (by omega)).trans ((mset_n (by omega)).trans (oo64 q hq)))⟩
abbrev gz0 : Nat → Nat := (upN (upN (upN (upN (fun _ => 0) 0 3) 1 4) 3 2) 4 10)
