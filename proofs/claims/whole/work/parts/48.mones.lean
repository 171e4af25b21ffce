theorem onX_eq : ∀ a, a < 16 → (nI a &&& nI 1) + ((nI a >>> (nI 1 &&& 31)) &&& nI 1) + ((nI a >>> (nI 2 &&& 31)) &&& nI 1) + ((nI a >>> (nI 3 &&& 31)) &&& nI 1) = nI (popN a) := by decide +kernel
set_option maxHeartbeats 4000000 in
set_option maxRecDepth 100000 in
theorem k_ones {X : mX} {h : mH}  (a : Nat) (ha : a < 16) : CnP X m_X7_ones [.int (nI a)] h (some (.int (nI (popN a)))) := by
  refine cn_of_ev (L0 := [_]) (by decide +kernel) rfl rfl (Nat.le_of_ble_eq_true rfl) rfl ?_
  refine ev_iload_n dX7_ones_0 rfl rfl ?_
  refine ev_iconst (nI 1) dX7_ones_1 rfl ?_
  refine ev_iand dX7_ones_2 ?_
  refine ev_iload_n dX7_ones_3 rfl rfl ?_
  refine ev_iconst (nI 1) dX7_ones_4 rfl ?_
  refine ev_ishr dX7_ones_5 ?_
  refine ev_iconst (nI 1) dX7_ones_6 rfl ?_
  refine ev_iand dX7_ones_7 ?_
  refine ev_iadd dX7_ones_8 ?_
  refine ev_iload_n dX7_ones_9 rfl rfl ?_
  refine ev_iconst (nI 2) dX7_ones_10 rfl ?_
  refine ev_ishr dX7_ones_11 ?_
  refine ev_iconst (nI 1) dX7_ones_12 rfl ?_
  refine ev_iand dX7_ones_13 ?_
  refine ev_iadd dX7_ones_14 ?_
  refine ev_iload_n dX7_ones_15 rfl rfl ?_
  refine ev_iconst (nI 3) dX7_ones_16 rfl ?_
  refine ev_ishr dX7_ones_17 ?_
  refine ev_iconst (nI 1) dX7_ones_18 rfl ?_
  refine ev_iand dX7_ones_19 ?_
  refine ev_iadd dX7_ones_20 ?_
  refine ev_ireturn dX7_ones_21 rfl (Or.inl rfl) (Nat.zero_le _) (Nat.zero_le _) ?_
  rw [← onX_eq a ha]
  exact ⟨rfl, rfl⟩
