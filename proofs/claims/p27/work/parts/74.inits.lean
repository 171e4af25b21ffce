set_option maxHeartbeats 4000000 in
set_option maxRecDepth 100000 in
theorem c_X0_init {X : mX} {h : mH} {c : Nat} (a0 : h c = some (aO 0 [.null, .int 0])) (hcb : c < 900000)  : Cn X m_X0_init (some (c + 1)) (some (c + 1 + 1)) 1 60 [.ref c] h (fun o h1 => o = .inl none ∧ BufN h1 c 0 (fun _ => 0) ∧ Out h h1 c 2) := by
  refine cn_of_ev (L0 := [_]) (by decide +kernel) rfl rfl (Nat.le_of_ble_eq_true rfl) rfl ?_
  refine ev_aload_n dX0_init_0 rfl rfl ?_
  refine ev_objInit dX0_init_1 lk_0_3 w_oi w_oc (Nat.le_of_ble_eq_true rfl) (Nat.le_of_ble_eq_true rfl) (a0) ?_
  refine ev_aload_n dX0_init_4 rfl rfl ?_
  refine ev_bipush (nI 60) dX0_init_5 rfl ?_
  refine ev_newI 60 dX0_init_7 w_arrI (by decide) rfl (by decide) (by first | omega | (simp only [NN]; omega)) (by first | omega | (simp only [NN]; omega)) (by first | omega | (simp only [NN]; omega)) ?_
  first | refine ev_putfinal (fs' := [_, _]) dX0_init_9 lf_0_9 rfl rfl rfl (mset_s _ _ _) (Nat.le_of_ble_eq_true rfl) rfl rfl rfl ?_ | refine ev_putfinal (fs' := [_, _]) dX0_init_9 lf_0_9 rfl rfl rfl ((mset_n (by omega)).trans (a0)) (Nat.le_of_ble_eq_true rfl) rfl rfl rfl ?_
  refine ev_aload_n dX0_init_12 rfl rfl ?_
  refine ev_iconst (nI 0) dX0_init_13 rfl ?_
  first | refine ev_putfield (fs' := [_, _]) dX0_init_14 lf_0_15 rfl (mset_s _ _ _) (Nat.le_of_ble_eq_true rfl) rfl rfl rfl ?_ | refine ev_putfield (fs' := [_, _]) dX0_init_14 lf_0_15 rfl ((mset_n (by omega)).trans (mset_s _ _ _)) (Nat.le_of_ble_eq_true rfl) rfl rfl rfl ?_ | refine ev_putfield (fs' := [_, _]) dX0_init_14 lf_0_15 rfl ((mset_n (by omega)).trans ((mset_n (by omega)).trans (a0))) (Nat.le_of_ble_eq_true rfl) rfl rfl rfl ?_
  refine ev_return dX0_init_17 rfl (Or.inl rfl) (by first | omega | (simp only [NN]; omega)) (by first | omega | (simp only [NN]; omega)) ?_
  exact ⟨rfl, ⟨⟨(mset_s _ _ _), _, ((mset_n (by omega)).trans ((mset_n (by omega)).trans (mset_s _ _ _))), fun j hj => absurd hj (Nat.not_lt_zero j)⟩, by omega, fun j hj => absurd hj (Nat.not_lt_zero j)⟩, (fun q hq => (mset_n (by omega)).trans ((mset_n (by omega)).trans ((mset_n (by omega)).trans (rfl))))⟩
set_option maxHeartbeats 4000000 in
set_option maxRecDepth 100000 in
theorem c_X1_init {X : mX} {h : mH} {c : Nat} (a0 : h c = some (aO 1 [.null, .int 0, .null, .null, .null, .null, .int 0])) (hcb : c < 900000)  : Cn X m_X1_init (some (c + 1)) (some (c + 1 + 5)) 5 200 [.ref c] h (fun o h1 => o = .inl none ∧ CutN h1 c (rawK 0 (fun _ => 0)) ∧ Out h h1 c 6) := by
  refine cn_of_ev (L0 := [_]) (by decide +kernel) rfl rfl (Nat.le_of_ble_eq_true rfl) rfl ?_
  refine ev_aload_n dX1_init_0 rfl rfl ?_
  refine ev_objInit dX1_init_1 lk_1_3 w_oi w_oc (Nat.le_of_ble_eq_true rfl) (Nat.le_of_ble_eq_true rfl) (a0) ?_
  refine ev_aload_n dX1_init_4 rfl rfl ?_
  refine ev_bipush (nI 40) dX1_init_5 rfl ?_
  refine ev_newI 40 dX1_init_7 w_arrI (by decide) rfl (by decide) (by first | omega | (simp only [NN]; omega)) (by first | omega | (simp only [NN]; omega)) (by first | omega | (simp only [NN]; omega)) ?_
  first | refine ev_putfinal (fs' := [_, _, _, _, _, _, _]) dX1_init_9 lf_1_9 rfl rfl rfl (mset_s _ _ _) (Nat.le_of_ble_eq_true rfl) rfl rfl rfl ?_ | refine ev_putfinal (fs' := [_, _, _, _, _, _, _]) dX1_init_9 lf_1_9 rfl rfl rfl ((mset_n (by omega)).trans (a0)) (Nat.le_of_ble_eq_true rfl) rfl rfl rfl ?_
  refine ev_aload_n dX1_init_12 rfl rfl ?_
  refine ev_iconst (nI 0) dX1_init_13 rfl ?_
  first | refine ev_putfield (fs' := [_, _, _, _, _, _, _]) dX1_init_14 lf_1_15 rfl (mset_s _ _ _) (Nat.le_of_ble_eq_true rfl) rfl rfl rfl ?_ | refine ev_putfield (fs' := [_, _, _, _, _, _, _]) dX1_init_14 lf_1_15 rfl ((mset_n (by omega)).trans (mset_s _ _ _)) (Nat.le_of_ble_eq_true rfl) rfl rfl rfl ?_ | refine ev_putfield (fs' := [_, _, _, _, _, _, _]) dX1_init_14 lf_1_15 rfl ((mset_n (by omega)).trans ((mset_n (by omega)).trans (a0))) (Nat.le_of_ble_eq_true rfl) rfl rfl rfl ?_
  refine ev_aload_n dX1_init_17 rfl rfl ?_
  refine ev_bipush (nI 40) dX1_init_18 rfl ?_
  refine ev_newI 40 dX1_init_20 w_arrI (by decide) rfl (by decide) (by first | omega | (simp only [NN]; omega)) (by first | omega | (simp only [NN]; omega)) (by first | omega | (simp only [NN]; omega)) ?_
  first | refine ev_putfinal (fs' := [_, _, _, _, _, _, _]) dX1_init_22 lf_1_19 rfl rfl rfl (mset_s _ _ _) (Nat.le_of_ble_eq_true rfl) rfl rfl rfl ?_ | refine ev_putfinal (fs' := [_, _, _, _, _, _, _]) dX1_init_22 lf_1_19 rfl rfl rfl ((mset_n (by omega)).trans (mset_s _ _ _)) (Nat.le_of_ble_eq_true rfl) rfl rfl rfl ?_ | refine ev_putfinal (fs' := [_, _, _, _, _, _, _]) dX1_init_22 lf_1_19 rfl rfl rfl ((mset_n (by omega)).trans ((mset_n (by omega)).trans (mset_s _ _ _))) (Nat.le_of_ble_eq_true rfl) rfl rfl rfl ?_ | refine ev_putfinal (fs' := [_, _, _, _, _, _, _]) dX1_init_22 lf_1_19 rfl rfl rfl ((mset_n (by omega)).trans ((mset_n (by omega)).trans ((mset_n (by omega)).trans (mset_s _ _ _)))) (Nat.le_of_ble_eq_true rfl) rfl rfl rfl ?_ | refine ev_putfinal (fs' := [_, _, _, _, _, _, _]) dX1_init_22 lf_1_19 rfl rfl rfl ((mset_n (by omega)).trans ((mset_n (by omega)).trans ((mset_n (by omega)).trans ((mset_n (by omega)).trans (a0))))) (Nat.le_of_ble_eq_true rfl) rfl rfl rfl ?_
  refine ev_aload_n dX1_init_25 rfl rfl ?_
  refine ev_bipush (nI 40) dX1_init_26 rfl ?_
  refine ev_newI 40 dX1_init_28 w_arrI (by decide) rfl (by decide) (by first | omega | (simp only [NN]; omega)) (by first | omega | (simp only [NN]; omega)) (by first | omega | (simp only [NN]; omega)) ?_
  first | refine ev_putfinal (fs' := [_, _, _, _, _, _, _]) dX1_init_30 lf_1_22 rfl rfl rfl (mset_s _ _ _) (Nat.le_of_ble_eq_true rfl) rfl rfl rfl ?_ | refine ev_putfinal (fs' := [_, _, _, _, _, _, _]) dX1_init_30 lf_1_22 rfl rfl rfl ((mset_n (by omega)).trans (mset_s _ _ _)) (Nat.le_of_ble_eq_true rfl) rfl rfl rfl ?_ | refine ev_putfinal (fs' := [_, _, _, _, _, _, _]) dX1_init_30 lf_1_22 rfl rfl rfl ((mset_n (by omega)).trans ((mset_n (by omega)).trans (mset_s _ _ _))) (Nat.le_of_ble_eq_true rfl) rfl rfl rfl ?_ | refine ev_putfinal (fs' := [_, _, _, _, _, _, _]) dX1_init_30 lf_1_22 rfl rfl rfl ((mset_n (by omega)).trans ((mset_n (by omega)).trans ((mset_n (by omega)).trans (mset_s _ _ _)))) (Nat.le_of_ble_eq_true rfl) rfl rfl rfl ?_ | refine ev_putfinal (fs' := [_, _, _, _, _, _, _]) dX1_init_30 lf_1_22 rfl rfl rfl ((mset_n (by omega)).trans ((mset_n (by omega)).trans ((mset_n (by omega)).trans ((mset_n (by omega)).trans (mset_s _ _ _))))) (Nat.le_of_ble_eq_true rfl) rfl rfl rfl ?_ | refine ev_putfinal (fs' := [_, _, _, _, _, _, _]) dX1_init_30 lf_1_22 rfl rfl rfl ((mset_n (by omega)).trans ((mset_n (by omega)).trans ((mset_n (by omega)).trans ((mset_n (by omega)).trans ((mset_n (by omega)).trans (mset_s _ _ _)))))) (Nat.le_of_ble_eq_true rfl) rfl rfl rfl ?_ | refine ev_putfinal (fs' := [_, _, _, _, _, _, _]) dX1_init_30 lf_1_22 rfl rfl rfl ((mset_n (by omega)).trans ((mset_n (by omega)).trans ((mset_n (by omega)).trans ((mset_n (by omega)).trans ((mset_n (by omega)).trans ((mset_n (by omega)).trans (a0))))))) (Nat.le_of_ble_eq_true rfl) rfl rfl rfl ?_
  refine ev_aload_n dX1_init_33 rfl rfl ?_
  refine ev_bipush (nI 40) dX1_init_34 rfl ?_
  refine ev_newI 40 dX1_init_36 w_arrI (by decide) rfl (by decide) (by first | omega | (simp only [NN]; omega)) (by first | omega | (simp only [NN]; omega)) (by first | omega | (simp only [NN]; omega)) ?_
  first | refine ev_putfinal (fs' := [_, _, _, _, _, _, _]) dX1_init_38 lf_1_25 rfl rfl rfl (mset_s _ _ _) (Nat.le_of_ble_eq_true rfl) rfl rfl rfl ?_ | refine ev_putfinal (fs' := [_, _, _, _, _, _, _]) dX1_init_38 lf_1_25 rfl rfl rfl ((mset_n (by omega)).trans (mset_s _ _ _)) (Nat.le_of_ble_eq_true rfl) rfl rfl rfl ?_ | refine ev_putfinal (fs' := [_, _, _, _, _, _, _]) dX1_init_38 lf_1_25 rfl rfl rfl ((mset_n (by omega)).trans ((mset_n (by omega)).trans (mset_s _ _ _))) (Nat.le_of_ble_eq_true rfl) rfl rfl rfl ?_ | refine ev_putfinal (fs' := [_, _, _, _, _, _, _]) dX1_init_38 lf_1_25 rfl rfl rfl ((mset_n (by omega)).trans ((mset_n (by omega)).trans ((mset_n (by omega)).trans (mset_s _ _ _)))) (Nat.le_of_ble_eq_true rfl) rfl rfl rfl ?_ | refine ev_putfinal (fs' := [_, _, _, _, _, _, _]) dX1_init_38 lf_1_25 rfl rfl rfl ((mset_n (by omega)).trans ((mset_n (by omega)).trans ((mset_n (by omega)).trans ((mset_n (by omega)).trans (mset_s _ _ _))))) (Nat.le_of_ble_eq_true rfl) rfl rfl rfl ?_ | refine ev_putfinal (fs' := [_, _, _, _, _, _, _]) dX1_init_38 lf_1_25 rfl rfl rfl ((mset_n (by omega)).trans ((mset_n (by omega)).trans ((mset_n (by omega)).trans ((mset_n (by omega)).trans ((mset_n (by omega)).trans (mset_s _ _ _)))))) (Nat.le_of_ble_eq_true rfl) rfl rfl rfl ?_ | refine ev_putfinal (fs' := [_, _, _, _, _, _, _]) dX1_init_38 lf_1_25 rfl rfl rfl ((mset_n (by omega)).trans ((mset_n (by omega)).trans ((mset_n (by omega)).trans ((mset_n (by omega)).trans ((mset_n (by omega)).trans ((mset_n (by omega)).trans (mset_s _ _ _))))))) (Nat.le_of_ble_eq_true rfl) rfl rfl rfl ?_ | refine ev_putfinal (fs' := [_, _, _, _, _, _, _]) dX1_init_38 lf_1_25 rfl rfl rfl ((mset_n (by omega)).trans ((mset_n (by omega)).trans ((mset_n (by omega)).trans ((mset_n (by omega)).trans ((mset_n (by omega)).trans ((mset_n (by omega)).trans ((mset_n (by omega)).trans (mset_s _ _ _)))))))) (Nat.le_of_ble_eq_true rfl) rfl rfl rfl ?_ | refine ev_putfinal (fs' := [_, _, _, _, _, _, _]) dX1_init_38 lf_1_25 rfl rfl rfl ((mset_n (by omega)).trans ((mset_n (by omega)).trans ((mset_n (by omega)).trans ((mset_n (by omega)).trans ((mset_n (by omega)).trans ((mset_n (by omega)).trans ((mset_n (by omega)).trans ((mset_n (by omega)).trans (a0))))))))) (Nat.le_of_ble_eq_true rfl) rfl rfl rfl ?_
  refine ev_aload_n dX1_init_41 rfl rfl ?_
  refine ev_bipush (nI 40) dX1_init_42 rfl ?_
  refine ev_newL 40 dX1_init_44 w_arrL (by decide) rfl (by decide) (by first | omega | (simp only [NN]; omega)) (by first | omega | (simp only [NN]; omega)) (by first | omega | (simp only [NN]; omega)) ?_
  first | refine ev_putfinal (fs' := [_, _, _, _, _, _, _]) dX1_init_46 lf_1_28 rfl rfl rfl (mset_s _ _ _) (Nat.le_of_ble_eq_true rfl) rfl rfl rfl ?_ | refine ev_putfinal (fs' := [_, _, _, _, _, _, _]) dX1_init_46 lf_1_28 rfl rfl rfl ((mset_n (by omega)).trans (mset_s _ _ _)) (Nat.le_of_ble_eq_true rfl) rfl rfl rfl ?_ | refine ev_putfinal (fs' := [_, _, _, _, _, _, _]) dX1_init_46 lf_1_28 rfl rfl rfl ((mset_n (by omega)).trans ((mset_n (by omega)).trans (mset_s _ _ _))) (Nat.le_of_ble_eq_true rfl) rfl rfl rfl ?_ | refine ev_putfinal (fs' := [_, _, _, _, _, _, _]) dX1_init_46 lf_1_28 rfl rfl rfl ((mset_n (by omega)).trans ((mset_n (by omega)).trans ((mset_n (by omega)).trans (mset_s _ _ _)))) (Nat.le_of_ble_eq_true rfl) rfl rfl rfl ?_ | refine ev_putfinal (fs' := [_, _, _, _, _, _, _]) dX1_init_46 lf_1_28 rfl rfl rfl ((mset_n (by omega)).trans ((mset_n (by omega)).trans ((mset_n (by omega)).trans ((mset_n (by omega)).trans (mset_s _ _ _))))) (Nat.le_of_ble_eq_true rfl) rfl rfl rfl ?_ | refine ev_putfinal (fs' := [_, _, _, _, _, _, _]) dX1_init_46 lf_1_28 rfl rfl rfl ((mset_n (by omega)).trans ((mset_n (by omega)).trans ((mset_n (by omega)).trans ((mset_n (by omega)).trans ((mset_n (by omega)).trans (mset_s _ _ _)))))) (Nat.le_of_ble_eq_true rfl) rfl rfl rfl ?_ | refine ev_putfinal (fs' := [_, _, _, _, _, _, _]) dX1_init_46 lf_1_28 rfl rfl rfl ((mset_n (by omega)).trans ((mset_n (by omega)).trans ((mset_n (by omega)).trans ((mset_n (by omega)).trans ((mset_n (by omega)).trans ((mset_n (by omega)).trans (mset_s _ _ _))))))) (Nat.le_of_ble_eq_true rfl) rfl rfl rfl ?_ | refine ev_putfinal (fs' := [_, _, _, _, _, _, _]) dX1_init_46 lf_1_28 rfl rfl rfl ((mset_n (by omega)).trans ((mset_n (by omega)).trans ((mset_n (by omega)).trans ((mset_n (by omega)).trans ((mset_n (by omega)).trans ((mset_n (by omega)).trans ((mset_n (by omega)).trans (mset_s _ _ _)))))))) (Nat.le_of_ble_eq_true rfl) rfl rfl rfl ?_ | refine ev_putfinal (fs' := [_, _, _, _, _, _, _]) dX1_init_46 lf_1_28 rfl rfl rfl ((mset_n (by omega)).trans ((mset_n (by omega)).trans ((mset_n (by omega)).trans ((mset_n (by omega)).trans ((mset_n (by omega)).trans ((mset_n (by omega)).trans ((mset_n (by omega)).trans ((mset_n (by omega)).trans (mset_s _ _ _))))))))) (Nat.le_of_ble_eq_true rfl) rfl rfl rfl ?_ | refine ev_putfinal (fs' := [_, _, _, _, _, _, _]) dX1_init_46 lf_1_28 rfl rfl rfl ((mset_n (by omega)).trans ((mset_n (by omega)).trans ((mset_n (by omega)).trans ((mset_n (by omega)).trans ((mset_n (by omega)).trans ((mset_n (by omega)).trans ((mset_n (by omega)).trans ((mset_n (by omega)).trans ((mset_n (by omega)).trans (mset_s _ _ _)))))))))) (Nat.le_of_ble_eq_true rfl) rfl rfl rfl ?_ | refine ev_putfinal (fs' := [_, _, _, _, _, _, _]) dX1_init_46 lf_1_28 rfl rfl rfl ((mset_n (by omega)).trans ((mset_n (by omega)).trans ((mset_n (by omega)).trans ((mset_n (by omega)).trans ((mset_n (by omega)).trans ((mset_n (by omega)).trans ((mset_n (by omega)).trans ((mset_n (by omega)).trans ((mset_n (by omega)).trans ((mset_n (by omega)).trans (a0))))))))))) (Nat.le_of_ble_eq_true rfl) rfl rfl rfl ?_
  refine ev_aload_n dX1_init_49 rfl rfl ?_
  refine ev_iconst (nI 0) dX1_init_50 rfl ?_
  first | refine ev_putfield (fs' := [_, _, _, _, _, _, _]) dX1_init_51 lf_1_32 rfl (mset_s _ _ _) (Nat.le_of_ble_eq_true rfl) rfl rfl rfl ?_ | refine ev_putfield (fs' := [_, _, _, _, _, _, _]) dX1_init_51 lf_1_32 rfl ((mset_n (by omega)).trans (mset_s _ _ _)) (Nat.le_of_ble_eq_true rfl) rfl rfl rfl ?_ | refine ev_putfield (fs' := [_, _, _, _, _, _, _]) dX1_init_51 lf_1_32 rfl ((mset_n (by omega)).trans ((mset_n (by omega)).trans (mset_s _ _ _))) (Nat.le_of_ble_eq_true rfl) rfl rfl rfl ?_ | refine ev_putfield (fs' := [_, _, _, _, _, _, _]) dX1_init_51 lf_1_32 rfl ((mset_n (by omega)).trans ((mset_n (by omega)).trans ((mset_n (by omega)).trans (mset_s _ _ _)))) (Nat.le_of_ble_eq_true rfl) rfl rfl rfl ?_ | refine ev_putfield (fs' := [_, _, _, _, _, _, _]) dX1_init_51 lf_1_32 rfl ((mset_n (by omega)).trans ((mset_n (by omega)).trans ((mset_n (by omega)).trans ((mset_n (by omega)).trans (mset_s _ _ _))))) (Nat.le_of_ble_eq_true rfl) rfl rfl rfl ?_ | refine ev_putfield (fs' := [_, _, _, _, _, _, _]) dX1_init_51 lf_1_32 rfl ((mset_n (by omega)).trans ((mset_n (by omega)).trans ((mset_n (by omega)).trans ((mset_n (by omega)).trans ((mset_n (by omega)).trans (mset_s _ _ _)))))) (Nat.le_of_ble_eq_true rfl) rfl rfl rfl ?_ | refine ev_putfield (fs' := [_, _, _, _, _, _, _]) dX1_init_51 lf_1_32 rfl ((mset_n (by omega)).trans ((mset_n (by omega)).trans ((mset_n (by omega)).trans ((mset_n (by omega)).trans ((mset_n (by omega)).trans ((mset_n (by omega)).trans (mset_s _ _ _))))))) (Nat.le_of_ble_eq_true rfl) rfl rfl rfl ?_ | refine ev_putfield (fs' := [_, _, _, _, _, _, _]) dX1_init_51 lf_1_32 rfl ((mset_n (by omega)).trans ((mset_n (by omega)).trans ((mset_n (by omega)).trans ((mset_n (by omega)).trans ((mset_n (by omega)).trans ((mset_n (by omega)).trans ((mset_n (by omega)).trans (mset_s _ _ _)))))))) (Nat.le_of_ble_eq_true rfl) rfl rfl rfl ?_ | refine ev_putfield (fs' := [_, _, _, _, _, _, _]) dX1_init_51 lf_1_32 rfl ((mset_n (by omega)).trans ((mset_n (by omega)).trans ((mset_n (by omega)).trans ((mset_n (by omega)).trans ((mset_n (by omega)).trans ((mset_n (by omega)).trans ((mset_n (by omega)).trans ((mset_n (by omega)).trans (mset_s _ _ _))))))))) (Nat.le_of_ble_eq_true rfl) rfl rfl rfl ?_ | refine ev_putfield (fs' := [_, _, _, _, _, _, _]) dX1_init_51 lf_1_32 rfl ((mset_n (by omega)).trans ((mset_n (by omega)).trans ((mset_n (by omega)).trans ((mset_n (by omega)).trans ((mset_n (by omega)).trans ((mset_n (by omega)).trans ((mset_n (by omega)).trans ((mset_n (by omega)).trans ((mset_n (by omega)).trans (mset_s _ _ _)))))))))) (Nat.le_of_ble_eq_true rfl) rfl rfl rfl ?_ | refine ev_putfield (fs' := [_, _, _, _, _, _, _]) dX1_init_51 lf_1_32 rfl ((mset_n (by omega)).trans ((mset_n (by omega)).trans ((mset_n (by omega)).trans ((mset_n (by omega)).trans ((mset_n (by omega)).trans ((mset_n (by omega)).trans ((mset_n (by omega)).trans ((mset_n (by omega)).trans ((mset_n (by omega)).trans ((mset_n (by omega)).trans (mset_s _ _ _))))))))))) (Nat.le_of_ble_eq_true rfl) rfl rfl rfl ?_ | refine ev_putfield (fs' := [_, _, _, _, _, _, _]) dX1_init_51 lf_1_32 rfl ((mset_n (by omega)).trans ((mset_n (by omega)).trans ((mset_n (by omega)).trans ((mset_n (by omega)).trans ((mset_n (by omega)).trans ((mset_n (by omega)).trans ((mset_n (by omega)).trans ((mset_n (by omega)).trans ((mset_n (by omega)).trans ((mset_n (by omega)).trans ((mset_n (by omega)).trans (a0)))))))))))) (Nat.le_of_ble_eq_true rfl) rfl rfl rfl ?_
  refine ev_return dX1_init_54 rfl (Or.inl rfl) (by first | omega | (simp only [NN]; omega)) (by first | omega | (simp only [NN]; omega)) ?_
  exact ⟨rfl, CutN.raw (sg := fun _ => 0) (st := fun _ => 0) (le := fun _ => 0) (fo := fun _ => 0) (rk := fun _ => 0) (by omega) ⟨(mset_s _ _ _), ((mset_n (by omega)).trans ((mset_n (by omega)).trans ((mset_n (by omega)).trans ((mset_n (by omega)).trans ((mset_n (by omega)).trans ((mset_n (by omega)).trans ((mset_n (by omega)).trans ((mset_n (by omega)).trans ((mset_n (by omega)).trans ((mset_n (by omega)).trans ((mset_n (by omega)).trans (mset_s _ _ _)))))))))))), ((mset_n (by omega)).trans ((mset_n (by omega)).trans ((mset_n (by omega)).trans ((mset_n (by omega)).trans ((mset_n (by omega)).trans ((mset_n (by omega)).trans ((mset_n (by omega)).trans ((mset_n (by omega)).trans (mset_s _ _ _))))))))), ((mset_n (by omega)).trans ((mset_n (by omega)).trans ((mset_n (by omega)).trans ((mset_n (by omega)).trans ((mset_n (by omega)).trans ((mset_n (by omega)).trans (mset_s _ _ _))))))), ((mset_n (by omega)).trans ((mset_n (by omega)).trans ((mset_n (by omega)).trans ((mset_n (by omega)).trans (mset_s _ _ _))))), ((mset_n (by omega)).trans ((mset_n (by omega)).trans (mset_s _ _ _)))⟩ (fun j hj => absurd hj (Nat.not_lt_zero j)), (fun q hq => (mset_n (by omega)).trans ((mset_n (by omega)).trans ((mset_n (by omega)).trans ((mset_n (by omega)).trans ((mset_n (by omega)).trans ((mset_n (by omega)).trans ((mset_n (by omega)).trans ((mset_n (by omega)).trans ((mset_n (by omega)).trans ((mset_n (by omega)).trans ((mset_n (by omega)).trans ((mset_n (by omega)).trans (rfl)))))))))))))⟩
set_option maxHeartbeats 4000000 in
set_option maxRecDepth 100000 in
theorem c_X3_init {X : mX} {h : mH} {c : Nat} (a0 : h c = some (aO 3 [.null])) (hcb : c < 900000) (hR : RO X) : Cn X m_X3_init (some (c + 1)) (some (c + 1 + 1)) 1 5 [.ref c] h (fun o h1 => o = .inl none ∧ SetN h1 c fstF ∧ Out h h1 c 2) := by
  have hro := hR.1
  refine cn_of_ev (L0 := [_]) (by decide +kernel) rfl rfl (Nat.le_of_ble_eq_true rfl) rfl ?_
  refine ev_aload_n dX3_init_0 rfl rfl ?_
  refine ev_objInit dX3_init_1 lk_3_3 w_oi w_oc (Nat.le_of_ble_eq_true rfl) (Nat.le_of_ble_eq_true rfl) (a0) ?_
  refine ev_aload_n dX3_init_4 rfl rfl ?_
  refine ev_getstaticN dX3_init_5 rfl ?_
  refine ev_cloneR dX3_init_8 lk_3_13 w_c1 w_c2 w_c3 w_c4 hro (Nat.le_of_ble_eq_true rfl) (Nat.le_of_ble_eq_true rfl) (by first | omega | (simp only [NN]; omega)) (by first | omega | (simp only [NN]; omega)) (by first | omega | (simp only [NN]; omega)) ?_
  first | refine ev_checkcastI dX3_init_11 lcl_3_14 (mset_s _ _ _) ?_ | refine ev_checkcastI dX3_init_11 lcl_3_14 ((mset_n (by omega)).trans (a0)) ?_
  first | refine ev_putfinal (fs' := [_]) dX3_init_14 lf_3_18 rfl rfl rfl (mset_s _ _ _) (Nat.le_of_ble_eq_true rfl) rfl rfl rfl ?_ | refine ev_putfinal (fs' := [_]) dX3_init_14 lf_3_18 rfl rfl rfl ((mset_n (by omega)).trans (a0)) (Nat.le_of_ble_eq_true rfl) rfl rfl rfl ?_
  refine ev_return dX3_init_17 rfl (Or.inl rfl) (by first | omega | (simp only [NN]; omega)) (by first | omega | (simp only [NN]; omega)) ?_
  exact ⟨rfl, ⟨⟨(mset_s _ _ _), fstF, ((mset_n (by omega)).trans (mset_s _ _ _)), fun k _ => rfl⟩, by decide, by decide, by decide, by decide, by decide⟩, (fun q hq => (mset_n (by omega)).trans ((mset_n (by omega)).trans (rfl)))⟩
abbrev sto0 : mSo := (fun _ => 0, fun _ => 0, 0, 0)
set_option maxHeartbeats 4000000 in
set_option maxRecDepth 100000 in
theorem c_X5_init {X : mX} {h : mH} {c : Nat} (a0 : h c = some (aO 5 [.null, .null, .null, .int 0, .int 0])) (hcb : c < 900000)  : Cn X m_X5_init (some (c + 1)) (some (c + 1 + 3)) 3 180 [.ref c] h (fun o h1 => o = .inl none ∧ StoreN h1 c sto0 ∧ Out h h1 c 4) := by
  refine cn_of_ev (L0 := [_]) (by decide +kernel) rfl rfl (Nat.le_of_ble_eq_true rfl) rfl ?_
  refine ev_aload_n dX5_init_0 rfl rfl ?_
  refine ev_objInit dX5_init_1 lk_5_3 w_oi w_oc (Nat.le_of_ble_eq_true rfl) (Nat.le_of_ble_eq_true rfl) (a0) ?_
  refine ev_aload_n dX5_init_4 rfl rfl ?_
  refine ev_bipush (nI 60) dX5_init_5 rfl ?_
  refine ev_newL 60 dX5_init_7 w_arrL (by decide) rfl (by decide) (by first | omega | (simp only [NN]; omega)) (by first | omega | (simp only [NN]; omega)) (by first | omega | (simp only [NN]; omega)) ?_
  first | refine ev_putfinal (fs' := [_, _, _, _, _]) dX5_init_9 lf_5_9 rfl rfl rfl (mset_s _ _ _) (Nat.le_of_ble_eq_true rfl) rfl rfl rfl ?_ | refine ev_putfinal (fs' := [_, _, _, _, _]) dX5_init_9 lf_5_9 rfl rfl rfl ((mset_n (by omega)).trans (a0)) (Nat.le_of_ble_eq_true rfl) rfl rfl rfl ?_
  refine ev_aload_n dX5_init_12 rfl rfl ?_
  refine ev_bipush (nI 60) dX5_init_13 rfl ?_
  refine ev_newI 60 dX5_init_15 w_arrI (by decide) rfl (by decide) (by first | omega | (simp only [NN]; omega)) (by first | omega | (simp only [NN]; omega)) (by first | omega | (simp only [NN]; omega)) ?_
  first | refine ev_putfinal (fs' := [_, _, _, _, _]) dX5_init_17 lf_5_15 rfl rfl rfl (mset_s _ _ _) (Nat.le_of_ble_eq_true rfl) rfl rfl rfl ?_ | refine ev_putfinal (fs' := [_, _, _, _, _]) dX5_init_17 lf_5_15 rfl rfl rfl ((mset_n (by omega)).trans (mset_s _ _ _)) (Nat.le_of_ble_eq_true rfl) rfl rfl rfl ?_ | refine ev_putfinal (fs' := [_, _, _, _, _]) dX5_init_17 lf_5_15 rfl rfl rfl ((mset_n (by omega)).trans ((mset_n (by omega)).trans (mset_s _ _ _))) (Nat.le_of_ble_eq_true rfl) rfl rfl rfl ?_ | refine ev_putfinal (fs' := [_, _, _, _, _]) dX5_init_17 lf_5_15 rfl rfl rfl ((mset_n (by omega)).trans ((mset_n (by omega)).trans ((mset_n (by omega)).trans (a0)))) (Nat.le_of_ble_eq_true rfl) rfl rfl rfl ?_
  refine ev_aload_n dX5_init_20 rfl rfl ?_
  refine ev_bipush (nI 60) dX5_init_21 rfl ?_
  refine ev_newI 60 dX5_init_23 w_arrI (by decide) rfl (by decide) (by first | omega | (simp only [NN]; omega)) (by first | omega | (simp only [NN]; omega)) (by first | omega | (simp only [NN]; omega)) ?_
  first | refine ev_putfinal (fs' := [_, _, _, _, _]) dX5_init_25 lf_5_19 rfl rfl rfl (mset_s _ _ _) (Nat.le_of_ble_eq_true rfl) rfl rfl rfl ?_ | refine ev_putfinal (fs' := [_, _, _, _, _]) dX5_init_25 lf_5_19 rfl rfl rfl ((mset_n (by omega)).trans (mset_s _ _ _)) (Nat.le_of_ble_eq_true rfl) rfl rfl rfl ?_ | refine ev_putfinal (fs' := [_, _, _, _, _]) dX5_init_25 lf_5_19 rfl rfl rfl ((mset_n (by omega)).trans ((mset_n (by omega)).trans (mset_s _ _ _))) (Nat.le_of_ble_eq_true rfl) rfl rfl rfl ?_ | refine ev_putfinal (fs' := [_, _, _, _, _]) dX5_init_25 lf_5_19 rfl rfl rfl ((mset_n (by omega)).trans ((mset_n (by omega)).trans ((mset_n (by omega)).trans (mset_s _ _ _)))) (Nat.le_of_ble_eq_true rfl) rfl rfl rfl ?_ | refine ev_putfinal (fs' := [_, _, _, _, _]) dX5_init_25 lf_5_19 rfl rfl rfl ((mset_n (by omega)).trans ((mset_n (by omega)).trans ((mset_n (by omega)).trans ((mset_n (by omega)).trans (mset_s _ _ _))))) (Nat.le_of_ble_eq_true rfl) rfl rfl rfl ?_ | refine ev_putfinal (fs' := [_, _, _, _, _]) dX5_init_25 lf_5_19 rfl rfl rfl ((mset_n (by omega)).trans ((mset_n (by omega)).trans ((mset_n (by omega)).trans ((mset_n (by omega)).trans ((mset_n (by omega)).trans (a0)))))) (Nat.le_of_ble_eq_true rfl) rfl rfl rfl ?_
  refine ev_aload_n dX5_init_28 rfl rfl ?_
  refine ev_iconst (nI 0) dX5_init_29 rfl ?_
  first | refine ev_putfield (fs' := [_, _, _, _, _]) dX5_init_30 lf_5_22 rfl (mset_s _ _ _) (Nat.le_of_ble_eq_true rfl) rfl rfl rfl ?_ | refine ev_putfield (fs' := [_, _, _, _, _]) dX5_init_30 lf_5_22 rfl ((mset_n (by omega)).trans (mset_s _ _ _)) (Nat.le_of_ble_eq_true rfl) rfl rfl rfl ?_ | refine ev_putfield (fs' := [_, _, _, _, _]) dX5_init_30 lf_5_22 rfl ((mset_n (by omega)).trans ((mset_n (by omega)).trans (mset_s _ _ _))) (Nat.le_of_ble_eq_true rfl) rfl rfl rfl ?_ | refine ev_putfield (fs' := [_, _, _, _, _]) dX5_init_30 lf_5_22 rfl ((mset_n (by omega)).trans ((mset_n (by omega)).trans ((mset_n (by omega)).trans (mset_s _ _ _)))) (Nat.le_of_ble_eq_true rfl) rfl rfl rfl ?_ | refine ev_putfield (fs' := [_, _, _, _, _]) dX5_init_30 lf_5_22 rfl ((mset_n (by omega)).trans ((mset_n (by omega)).trans ((mset_n (by omega)).trans ((mset_n (by omega)).trans (mset_s _ _ _))))) (Nat.le_of_ble_eq_true rfl) rfl rfl rfl ?_ | refine ev_putfield (fs' := [_, _, _, _, _]) dX5_init_30 lf_5_22 rfl ((mset_n (by omega)).trans ((mset_n (by omega)).trans ((mset_n (by omega)).trans ((mset_n (by omega)).trans ((mset_n (by omega)).trans (mset_s _ _ _)))))) (Nat.le_of_ble_eq_true rfl) rfl rfl rfl ?_ | refine ev_putfield (fs' := [_, _, _, _, _]) dX5_init_30 lf_5_22 rfl ((mset_n (by omega)).trans ((mset_n (by omega)).trans ((mset_n (by omega)).trans ((mset_n (by omega)).trans ((mset_n (by omega)).trans ((mset_n (by omega)).trans (a0))))))) (Nat.le_of_ble_eq_true rfl) rfl rfl rfl ?_
  refine ev_aload_n dX5_init_33 rfl rfl ?_
  refine ev_iconst (nI 0) dX5_init_34 rfl ?_
  first | refine ev_putfield (fs' := [_, _, _, _, _]) dX5_init_35 lf_5_26 rfl (mset_s _ _ _) (Nat.le_of_ble_eq_true rfl) rfl rfl rfl ?_ | refine ev_putfield (fs' := [_, _, _, _, _]) dX5_init_35 lf_5_26 rfl ((mset_n (by omega)).trans (mset_s _ _ _)) (Nat.le_of_ble_eq_true rfl) rfl rfl rfl ?_ | refine ev_putfield (fs' := [_, _, _, _, _]) dX5_init_35 lf_5_26 rfl ((mset_n (by omega)).trans ((mset_n (by omega)).trans (mset_s _ _ _))) (Nat.le_of_ble_eq_true rfl) rfl rfl rfl ?_ | refine ev_putfield (fs' := [_, _, _, _, _]) dX5_init_35 lf_5_26 rfl ((mset_n (by omega)).trans ((mset_n (by omega)).trans ((mset_n (by omega)).trans (mset_s _ _ _)))) (Nat.le_of_ble_eq_true rfl) rfl rfl rfl ?_ | refine ev_putfield (fs' := [_, _, _, _, _]) dX5_init_35 lf_5_26 rfl ((mset_n (by omega)).trans ((mset_n (by omega)).trans ((mset_n (by omega)).trans ((mset_n (by omega)).trans (mset_s _ _ _))))) (Nat.le_of_ble_eq_true rfl) rfl rfl rfl ?_ | refine ev_putfield (fs' := [_, _, _, _, _]) dX5_init_35 lf_5_26 rfl ((mset_n (by omega)).trans ((mset_n (by omega)).trans ((mset_n (by omega)).trans ((mset_n (by omega)).trans ((mset_n (by omega)).trans (mset_s _ _ _)))))) (Nat.le_of_ble_eq_true rfl) rfl rfl rfl ?_ | refine ev_putfield (fs' := [_, _, _, _, _]) dX5_init_35 lf_5_26 rfl ((mset_n (by omega)).trans ((mset_n (by omega)).trans ((mset_n (by omega)).trans ((mset_n (by omega)).trans ((mset_n (by omega)).trans ((mset_n (by omega)).trans (mset_s _ _ _))))))) (Nat.le_of_ble_eq_true rfl) rfl rfl rfl ?_ | refine ev_putfield (fs' := [_, _, _, _, _]) dX5_init_35 lf_5_26 rfl ((mset_n (by omega)).trans ((mset_n (by omega)).trans ((mset_n (by omega)).trans ((mset_n (by omega)).trans ((mset_n (by omega)).trans ((mset_n (by omega)).trans ((mset_n (by omega)).trans (a0)))))))) (Nat.le_of_ble_eq_true rfl) rfl rfl rfl ?_
  refine ev_return dX5_init_38 rfl (Or.inl rfl) (by first | omega | (simp only [NN]; omega)) (by first | omega | (simp only [NN]; omega)) ?_
  exact ⟨rfl, ⟨fun _ => 0, fun _ => 0, fun _ => 0, ⟨(mset_s _ _ _), ((mset_n (by omega)).trans ((mset_n (by omega)).trans ((mset_n (by omega)).trans ((mset_n (by omega)).trans ((mset_n (by omega)).trans ((mset_n (by omega)).trans ((mset_n (by omega)).trans (mset_s _ _ _)))))))), ((mset_n (by omega)).trans ((mset_n (by omega)).trans ((mset_n (by omega)).trans ((mset_n (by omega)).trans ((mset_n (by omega)).trans (mset_s _ _ _)))))), ((mset_n (by omega)).trans ((mset_n (by omega)).trans ((mset_n (by omega)).trans (mset_s _ _ _))))⟩, fun k hk => ⟨rfl, fun z => absurd rfl z⟩⟩, (fun q hq => (mset_n (by omega)).trans ((mset_n (by omega)).trans ((mset_n (by omega)).trans ((mset_n (by omega)).trans ((mset_n (by omega)).trans ((mset_n (by omega)).trans ((mset_n (by omega)).trans ((mset_n (by omega)).trans (rfl)))))))))⟩
abbrev st0 : mSt := (fun _ => rawK 0 (fun _ => 0), sto0, fstF)
set_option maxHeartbeats 4000000 in
set_option maxRecDepth 100000 in
theorem c_X4_init {X : mX} {h : mH} {c : Nat} (a0 : h c = some (aO 4 [.null, .null, .null])) (hcb : c < 800000) (hR : RO X) : Cn X m_X4_init (some (c + 1)) (some (c + 1 + 31)) 31 1023 [.ref c] h (fun o h1 => o = .inl none ∧ StN h1 c st0 ∧ Out h h1 c 32) := by
  refine cn_of_ev (L0 := [_, _]) (by decide +kernel) rfl rfl (Nat.le_of_ble_eq_true rfl) rfl ?_
  refine ev_aload_n dX4_init_0 rfl rfl ?_
  refine ev_objInit dX4_init_1 lk_4_3 w_oi w_oc (Nat.le_of_ble_eq_true rfl) (Nat.le_of_ble_eq_true rfl) (a0) ?_
  refine ev_aload_n dX4_init_4 rfl rfl ?_
  refine ev_iconst (nI 4) dX4_init_5 rfl ?_
  refine ev_anew 2 4 dX4_init_6 (Or.inl rfl) lcl_4_9 (by decide) rfl (by decide) (by first | omega | (simp only [NN]; omega)) (by first | omega | (simp only [NN]; omega)) (by first | omega | (simp only [NN]; omega)) ?_
  first | refine ev_putfinal (fs' := [_, _, _]) dX4_init_9 lf_4_11 rfl rfl rfl (mset_s _ _ _) (Nat.le_of_ble_eq_true rfl) rfl rfl rfl ?_ | refine ev_putfinal (fs' := [_, _, _]) dX4_init_9 lf_4_11 rfl rfl rfl ((mset_n (by omega)).trans (a0)) (Nat.le_of_ble_eq_true rfl) rfl rfl rfl ?_
  refine ev_aload_n dX4_init_12 rfl rfl ?_
  refine ev_new (fs := [.null, .null, .null, .int 0, .int 0]) dX4_init_13 (by decide) lcl_4_17 wn_5 wi_5 (fun j hj => by obtain rfl | rfl | rfl | rfl | rfl : j = 0 ∨ j = 1 ∨ j = 2 ∨ j = 3 ∨ j = 4 := (by have : j < 5 := hj; omega); all_goals rfl) (by first | omega | (simp only [NN]; omega)) (by first | omega | (simp only [NN]; omega)) (by first | omega | (simp only [NN]; omega)) ?_
  refine ev_dup dX4_init_16 rfl ?_
  refine ev_callIC dX4_init_17 cal_X5_init lk_4_19 ⟨(Nat.le_of_ble_eq_true rfl), (Nat.le_of_ble_eq_true rfl)⟩ rfl (Nat.le_of_ble_eq_true rfl) (c_X5_init (mset_s _ _ _) (by omega)) (by first | omega | (simp only [NN]; omega)) (by first | omega | (simp only [NN]; omega)) (fun h17 hq17 => ?_)
  refine ev_pc (pc' := 20) rfl ?_
  obtain ⟨hs5, o5⟩ := hq17
  have z0 : h17 c = some (aO 4 [.ref (c + 1), .null, .null]) := (o5 _ (by omega)).trans ((mset_n (by omega)).trans (mset_s _ _ _))
  have z1 : h17 (c + 1) = some (aR 2 4 (fun _ => none)) := (o5 _ (by omega)).trans ((mset_n (by omega)).trans ((mset_n (by omega)).trans (mset_s _ _ _)))
  have oo17 : Out h h17 c 32 := fun q hq => (o5 q (by omega)).trans ((mset_n (by omega)).trans ((mset_n (by omega)).trans (mset_n (by omega))))
  refine ev_putfinal (fs' := [_, _, _]) dX4_init_20 lf_4_20 rfl rfl rfl (z0) (Nat.le_of_ble_eq_true rfl) rfl rfl rfl ?_
  refine ev_aload_n dX4_init_23 rfl rfl ?_
  refine ev_new (fs := [.null]) dX4_init_24 (by decide) lcl_4_24 wn_3 wi_3 (fun j hj => by obtain rfl : j = 0 := (by have : j < 1 := hj; omega); rfl) (by first | omega | (simp only [NN]; omega)) (by first | omega | (simp only [NN]; omega)) (by first | omega | (simp only [NN]; omega)) ?_
  refine ev_dup dX4_init_27 rfl ?_
  refine ev_callIC dX4_init_28 cal_X3_init lk_4_26 ⟨(Nat.le_of_ble_eq_true rfl), (Nat.le_of_ble_eq_true rfl)⟩ rfl (Nat.le_of_ble_eq_true rfl) (c_X3_init (mset_s _ _ _) (by omega) hR) (by first | omega | (simp only [NN]; omega)) (by first | omega | (simp only [NN]; omega)) (fun h28 hq28 => ?_)
  refine ev_pc (pc' := 31) rfl ?_
  obtain ⟨hs7, o7⟩ := hq28
  have y0 : h28 c = some (aO 4 [.ref (c + 1), .ref (c + 2), .null]) := (o7 _ (by omega)).trans ((mset_n (by omega)).trans (mset_s _ _ _))
  have y1 : h28 (c + 1) = some (aR 2 4 (fun _ => none)) := (o7 _ (by omega)).trans ((mset_n (by omega)).trans ((mset_n (by omega)).trans z1))
  have hsto : StoreN h28 (c + 2) sto0 := ((hs5.go (a := c) (n := 1) (fun q hq => mset_n (by omega)) (by omega)).go (a := c + 6) (n := 1) (fun q hq => mset_n (by omega)) (by omega)).go (a := c + 6) (n := 2) (fun q hq => o7 q (by omega)) (by omega)
  have oo28 : Out h h28 c 32 := fun q hq => (o7 q (by omega)).trans ((mset_n (by omega)).trans ((mset_n (by omega)).trans (oo17 q hq)))
  refine ev_putfinal (fs' := [_, _, _]) dX4_init_31 lf_4_27 rfl rfl rfl (y0) (Nat.le_of_ble_eq_true rfl) rfl rfl rfl ?_
  refine ev_iconst (nI 0) dX4_init_34 rfl ?_
  refine ev_istore_n (L' := [_, _]) dX4_init_35 rfl (Nat.le_of_ble_eq_true rfl) rfl ?_
  refine ev_pc (pc' := 36) rfl ?_
  refine ev_L (L' := [.ref c, .int (nI 0)]) rfl rfl ?_
  have LP36 : ∀ (mz : Nat) (k : Nat) (h3 : mH) (F : Nat → Option Nat), 4 - k = mz → (k ≤ 4) → (h3 c = some (aO 4 [.ref (c + 1), .ref (c + 2), .ref (c + 6)])) → (h3 (c + 1) = some (aR 2 4 F)) → (∀ t, t < k → F t = some (c + 8 + 6 * t)) → (∀ t, t < k → CutN h3 (c + 8 + 6 * t) (rawK 0 (fun _ => 0))) → (StoreN h3 (c + 2) sto0) → (SetN h3 (c + 6) fstF) → (Out h h3 c 32) → Ev X m_X4_init (some (c + 8 + 6 * k), some (c + 1 + 31), 7 + 6 * k, 195 + 207 * k, 31, 1023) 36 [.ref c, .int (nI k)] [] h3 (fun o h1 => o = .inl none ∧ StN h1 c st0 ∧ Out h h1 c 32) := by
    intro mz
    induction mz using Nat.strongRecOn with
    | _ mz ih =>
      intro k h3 F hmz hk b0 b1 hF hcs hsto hset ho
      refine ev_iload_n dX4_init_36 rfl rfl ?_
      refine ev_iconst (nI 4) dX4_init_37 rfl ?_
      refine ev_icmp_geN 60 dX4_init_38 rfl (by omega) (by omega) (fun hc38 => ?_) (fun hc38 => ?_)
      · refine ev_pc (pc' := 60) rfl ?_
        have ek : k = 4 := by omega
        subst ek
        rw [show c + 8 + 6 * 4 = c + 1 + 31 by omega]
        refine ev_return dX4_init_60 rfl (Or.inl rfl) (by first | omega | (simp only [NN]; omega)) (by first | omega | (simp only [NN]; omega)) ?_
        exact ⟨rfl, ⟨b0, ⟨F, b1, hF⟩, hcs, hsto, hset⟩, ho⟩
      · refine ev_aload_n dX4_init_41 rfl rfl ?_
        first | refine ev_getfield dX4_init_42 lf_4_11 (b0) rfl ?_ | refine ev_getfield dX4_init_42 lf_4_11 (b1) rfl ?_
        refine ev_iload_n dX4_init_45 rfl rfl ?_
        refine ev_new (fs := [.null, .int 0, .null, .null, .null, .null, .int 0]) dX4_init_46 (by decide) lcl_4_9 wn_1 wi_1 (fun j hj => by obtain rfl | rfl | rfl | rfl | rfl | rfl | rfl : j = 0 ∨ j = 1 ∨ j = 2 ∨ j = 3 ∨ j = 4 ∨ j = 5 ∨ j = 6 := (by have : j < 7 := hj; omega); all_goals rfl) (by first | omega | (simp only [NN]; omega)) (by first | omega | (simp only [NN]; omega)) (by first | omega | (simp only [NN]; omega)) ?_
        refine ev_dup dX4_init_49 rfl ?_
        refine ev_callIC dX4_init_50 cal_X1_init lk_4_31 ⟨(Nat.le_of_ble_eq_true rfl), (Nat.le_of_ble_eq_true rfl)⟩ rfl (Nat.le_of_ble_eq_true rfl) (c_X1_init (mset_s _ _ _) (by omega)) (by first | omega | (simp only [NN]; omega)) (by first | omega | (simp only [NN]; omega)) (fun h50 hq50 => ?_)
        refine ev_pc (pc' := 53) rfl ?_
        obtain ⟨hc5, o5⟩ := hq50
        have e1 : h50 (c + 1) = some (aR 2 4 F) := (o5 _ (by omega)).trans ((mset_n (by omega)).trans b1)
        obtain ⟨sg, st, le, fo, rr, x0, x1⟩ := id hc5
        refine ev_aastoreN (cb := 1) dX4_init_53 (Or.inl ⟨rfl, rfl⟩) e1 x0.1 (by omega) (by decide) ?_
        refine ev_iincN (L' := [_, _]) 1 dX4_init_54 rfl rfl ?_
        refine ev_goto 36 dX4_init_57 rfl ?_
        refine ev_pc (pc' := 36) rfl ?_
        have oA : Out h3 h50 (c + 8 + 6 * k) 6 := fun q hq => (o5 q (by omega)).trans (mset_n (by omega))
        have oB : Out h50 (mset h50 (c + 1) (aR 2 4 (upR F k (some (c + 8 + 6 * k))))) (c + 1) 1 := fun q hq => mset_n (by omega)
        have of : Out h3 (mset h50 (c + 1) (aR 2 4 (upR F k (some (c + 8 + 6 * k))))) c 32 := fun q hq => (mset_n (by omega)).trans ((o5 q (by omega)).trans (mset_n (by omega)))
        have ok : ∀ q, (q < c + 8 + 6 * k ∨ c + 8 + 6 * k + 6 ≤ q) → q ≠ c + 1 → mset h50 (c + 1) (aR 2 4 (upR F k (some (c + 8 + 6 * k)))) q = h3 q := fun q hq hn => (mset_n hn).trans ((o5 q hq).trans (mset_n (by omega)))
        have eB : c + 8 + 6 * k + 1 + 5 = c + 8 + 6 * (k + 1) := by omega
        have eC : 7 + 6 * k + 1 + 5 = 7 + 6 * (k + 1) := by omega
        have eD : 195 + 207 * k + NN 1 + 200 = 195 + 207 * (k + 1) := by show 195 + 207 * k + 7 + 200 = _; omega
        rw [eB, eC, eD]
        refine ih _ (by omega) (k + 1) _ (upR F k (some (c + 8 + 6 * k))) rfl (by omega) ((ok c (by omega) (by omega)).trans b0) (mset_s _ _ _) (fun t ht => ?_) (fun t ht => ?_) ((hsto.go oA (by omega)).go oB (by omega)) ((hset.go oA (by omega)).go oB (by omega)) (ho.tr of)
        · by_cases e : t = k
          · rw [e]; exact if_pos rfl
          · exact (if_neg e).trans (hF t (by omega))
        · by_cases e : t = k
          · rw [e]; exact hc5.go oB (by omega)
          · exact ((hcs t (by omega)).go oA (by omega)).go oB (by omega)
  exact LP36 _ 0 _ (fun _ => none) rfl (by omega) (mset_s _ _ _) ((mset_n (by omega)).trans y1) (fun t ht => absurd ht (Nat.not_lt_zero t)) (fun t ht => absurd ht (Nat.not_lt_zero t)) (hsto.go (a := c) (n := 1) (fun q hq => mset_n (by omega)) (by omega)) (hs7.go (a := c) (n := 1) (fun q hq => mset_n (by omega)) (by omega)) (fun q hq => (mset_n (by omega)).trans (oo28 q hq))
set_option maxHeartbeats 4000000 in
set_option maxRecDepth 100000 in
theorem c_X2_init {X : mX} {h : mH} {c : Nat} (a0 : h c = some (aO 2 [.null, .int 0])) (hcb : c < 700000) (hR : RO X) : Cn X m_X2_init (some (c + 1)) (some (c + 1 + 193)) 193 6162 [.ref c] h (fun o h1 => o = .inl none ∧ HisN h1 c 0 (fun _ => st0) ∧ Out h h1 c 194) := by
  refine cn_of_ev (L0 := [_, _]) (by decide +kernel) rfl rfl (Nat.le_of_ble_eq_true rfl) rfl ?_
  refine ev_aload_n dX2_init_0 rfl rfl ?_
  refine ev_objInit dX2_init_1 lk_2_3 w_oi w_oc (Nat.le_of_ble_eq_true rfl) (Nat.le_of_ble_eq_true rfl) (a0) ?_
  refine ev_aload_n dX2_init_4 rfl rfl ?_
  refine ev_bipush (nI 6) dX2_init_5 rfl ?_
  refine ev_anew 3 6 dX2_init_7 (Or.inr rfl) lcl_2_9 (by decide) rfl (by decide) (by first | omega | (simp only [NN]; omega)) (by first | omega | (simp only [NN]; omega)) (by first | omega | (simp only [NN]; omega)) ?_
  first | refine ev_putfinal (fs' := [_, _]) dX2_init_10 lf_2_11 rfl rfl rfl (mset_s _ _ _) (Nat.le_of_ble_eq_true rfl) rfl rfl rfl ?_ | refine ev_putfinal (fs' := [_, _]) dX2_init_10 lf_2_11 rfl rfl rfl ((mset_n (by omega)).trans (a0)) (Nat.le_of_ble_eq_true rfl) rfl rfl rfl ?_
  refine ev_aload_n dX2_init_13 rfl rfl ?_
  refine ev_iconst (nI 0) dX2_init_14 rfl ?_
  first | refine ev_putfield (fs' := [_, _]) dX2_init_15 lf_2_17 rfl (mset_s _ _ _) (Nat.le_of_ble_eq_true rfl) rfl rfl rfl ?_ | refine ev_putfield (fs' := [_, _]) dX2_init_15 lf_2_17 rfl ((mset_n (by omega)).trans (mset_s _ _ _)) (Nat.le_of_ble_eq_true rfl) rfl rfl rfl ?_ | refine ev_putfield (fs' := [_, _]) dX2_init_15 lf_2_17 rfl ((mset_n (by omega)).trans ((mset_n (by omega)).trans (a0))) (Nat.le_of_ble_eq_true rfl) rfl rfl rfl ?_
  refine ev_iconst (nI 0) dX2_init_18 rfl ?_
  refine ev_istore_n (L' := [_, _]) dX2_init_19 rfl (Nat.le_of_ble_eq_true rfl) rfl ?_
  refine ev_pc (pc' := 20) rfl ?_
  refine ev_L (L' := [.ref c, .int (nI 0)]) rfl rfl ?_
  have LP20 : ∀ (mz : Nat) (k : Nat) (h3 : mH) (F : Nat → Option Nat), 6 - k = mz → (k ≤ 6) → (h3 c = some (aO 2 [.ref (c + 1), .int (nI 0)])) → (h3 (c + 1) = some (aR 3 6 F)) → (∀ t, t < k → F t = some (c + 2 + 32 * t)) → (∀ t, t < k → StN h3 (c + 2 + 32 * t) st0) → (Out h h3 c 194) → Ev X m_X2_init (some (c + 2 + 32 * k), some (c + 1 + 193), 1 + 32 * k, 6 + 1026 * k, 193, 6162) 20 [.ref c, .int (nI k)] [] h3 (fun o h1 => o = .inl none ∧ HisN h1 c 0 (fun _ => st0) ∧ Out h h1 c 194) := by
    intro mz
    induction mz using Nat.strongRecOn with
    | _ mz ih =>
      intro k h3 F hmz hk b0 b1 hF hcs ho
      refine ev_iload_n dX2_init_20 rfl rfl ?_
      refine ev_bipush (nI 6) dX2_init_21 rfl ?_
      refine ev_icmp_geN 45 dX2_init_23 rfl (by omega) (by omega) (fun hc23 => ?_) (fun hc23 => ?_)
      · refine ev_pc (pc' := 45) rfl ?_
        have ek : k = 6 := by omega
        subst ek
        rw [show c + 2 + 32 * 6 = c + 1 + 193 by omega]
        refine ev_return dX2_init_45 rfl (Or.inl rfl) (by first | omega | (simp only [NN]; omega)) (by first | omega | (simp only [NN]; omega)) ?_
        exact ⟨rfl, ⟨b0, by decide, F, fun i => i, b1, fun i hi => ⟨hF i hi, hi⟩, fun i j _ _ e => e, fun i hi => ⟨st0, hcs i hi, fun z => absurd z (Nat.not_lt_zero i)⟩⟩, ho⟩
      · refine ev_aload_n dX2_init_26 rfl rfl ?_
        first | refine ev_getfield dX2_init_27 lf_2_11 (b0) rfl ?_ | refine ev_getfield dX2_init_27 lf_2_11 (b1) rfl ?_
        refine ev_iload_n dX2_init_30 rfl rfl ?_
        refine ev_new (fs := [.null, .null, .null]) dX2_init_31 (by decide) lcl_2_9 wn_4 wi_4 (fun j hj => by obtain rfl | rfl | rfl : j = 0 ∨ j = 1 ∨ j = 2 := (by have : j < 3 := hj; omega); all_goals rfl) (by first | omega | (simp only [NN]; omega)) (by first | omega | (simp only [NN]; omega)) (by first | omega | (simp only [NN]; omega)) ?_
        refine ev_dup dX2_init_34 rfl ?_
        refine ev_callIC dX2_init_35 cal_X4_init lk_2_21 ⟨(Nat.le_of_ble_eq_true rfl), (Nat.le_of_ble_eq_true rfl)⟩ rfl (Nat.le_of_ble_eq_true rfl) (c_X4_init (mset_s _ _ _) (by omega) hR) (by first | omega | (simp only [NN]; omega)) (by first | omega | (simp only [NN]; omega)) (fun h35 hq35 => ?_)
        refine ev_pc (pc' := 38) rfl ?_
        obtain ⟨hc5, o5⟩ := hq35
        have e1 : h35 (c + 1) = some (aR 3 6 F) := (o5 _ (by omega)).trans ((mset_n (by omega)).trans b1)
        refine ev_aastoreN (cb := 4) dX2_init_38 (Or.inr ⟨rfl, rfl⟩) e1 hc5.1 (by omega) (by decide) ?_
        refine ev_iincN (L' := [_, _]) 1 dX2_init_39 rfl rfl ?_
        refine ev_goto 20 dX2_init_42 rfl ?_
        refine ev_pc (pc' := 20) rfl ?_
        have oA : Out h3 h35 (c + 2 + 32 * k) 32 := fun q hq => (o5 q (by omega)).trans (mset_n (by omega))
        have oB : Out h35 (mset h35 (c + 1) (aR 3 6 (upR F k (some (c + 2 + 32 * k))))) (c + 1) 1 := fun q hq => mset_n (by omega)
        have of : Out h3 (mset h35 (c + 1) (aR 3 6 (upR F k (some (c + 2 + 32 * k))))) c 194 := fun q hq => (mset_n (by omega)).trans (oA q (by omega))
        have eB : c + 2 + 32 * k + 1 + 31 = c + 2 + 32 * (k + 1) := by omega
        have eC : 1 + 32 * k + 1 + 31 = 1 + 32 * (k + 1) := by omega
        have eD : 6 + 1026 * k + NN 4 + 1023 = 6 + 1026 * (k + 1) := by show 6 + 1026 * k + 3 + 1023 = _; omega
        rw [eB, eC, eD]
        refine ih _ (by omega) (k + 1) _ (upR F k (some (c + 2 + 32 * k))) rfl (by omega) ((mset_n (by omega)).trans ((oA c (by omega)).trans b0)) (mset_s _ _ _) (fun t ht => ?_) (fun t ht => ?_) (ho.tr of)
        · by_cases e : t = k
          · rw [e]; exact if_pos rfl
          · exact (if_neg e).trans (hF t (by omega))
        · by_cases e : t = k
          · rw [e]; exact hc5.go oB (by omega)
          · exact ((hcs t (by omega)).go oA (by omega)).go oB (by omega)
  exact LP20 _ 0 _ (fun _ => none) rfl (by omega) (mset_s _ _ _) ((mset_n (by omega)).trans ((mset_n (by omega)).trans (mset_s _ _ _))) (fun t ht => absurd ht (Nat.not_lt_zero t)) (fun t ht => absurd ht (Nat.not_lt_zero t)) (fun q hq => (mset_n (by omega)).trans ((mset_n (by omega)).trans (mset_n (by omega))))
