/-- a cut that is not cut yet -/
abbrev rawK (n : Nat) (s : Nat → Nat) : mCt := (n, s, 0, fun _ => 0, fun _ => 0, fun _ => false, fun _ => 0)
theorem CutN.raw {h : mH} {c n : Nat} {s sg st le fo : Nat → Nat} {rk : Nat → Int64} (hn : n ≤ 40) (x : IsCut h c n sg st le fo rk 0) (e : ∀ j, j < n → sg j = s j ∧ s j ≤ 8) : CutN h c (rawK n s) :=
  ⟨sg, st, le, fo, rk, x, hn, by show 0 ≤ 40; omega, e, fun p hp => absurd hp (Nat.not_lt_zero p)⟩
theorem CutN.ext {h : mH} {c n : Nat} {s s1 : Nat → Nat} (x : CutN h c (rawK n s)) (e : ∀ j, j < n → s1 j = s j) : CutN h c (rawK n s1) := by
  obtain ⟨sg, st, le, fo, rk, x0, x1, x2, x3, x4⟩ := x
  exact CutN.raw x1 x0 (fun j hj => by rw [e j hj]; exact x3 j hj)
theorem CutN.toRaw {h : mH} {c : Nat} {K : mCt} (x : CutN h c K) (e : kN K = 0) : CutN h c (rawK (kL K) (kS K)) := by
  obtain ⟨sg, st, le, fo, rk, x0, x1, x2, x3, x4⟩ := x
  rw [e] at x0
  exact CutN.raw x1 x0 x3
theorem IsCut.obj {h : mH} {c n m np q : Nat} {sg st le fo : Nat → Nat} {rk : Nat → Int64} (x : IsCut h c n sg st le fo rk np) : IsCut (mset h c (aO 1 [.ref (c + 1), .int (nI m), .ref (c + 2), .ref (c + 3), .ref (c + 4), .ref (c + 5), .int (nI q)])) c m sg st le fo rk q := by
  obtain ⟨x0, x1, x2, x3, x4, x5⟩ := x
  exact ⟨mset_s _ _ _, (mset_n (by omega)).trans x1, (mset_n (by omega)).trans x2, (mset_n (by omega)).trans x3, (mset_n (by omega)).trans x4, (mset_n (by omega)).trans x5⟩
theorem IsCut.sgn {h : mH} {c n np : Nat} {sg st le fo f : Nat → Nat} {rk : Nat → Int64} (x : IsCut h c n sg st le fo rk np) : IsCut (mset h (c + 1) (aI 40 (nf f))) c n f st le fo rk np := by
  obtain ⟨x0, x1, x2, x3, x4, x5⟩ := x
  exact ⟨(mset_n (by omega)).trans x0, mset_s _ _ _, (mset_n (by omega)).trans x2, (mset_n (by omega)).trans x3, (mset_n (by omega)).trans x4, (mset_n (by omega)).trans x5⟩
theorem IsCut.sta {h : mH} {c n np : Nat} {sg st le fo f : Nat → Nat} {rk : Nat → Int64} (x : IsCut h c n sg st le fo rk np) : IsCut (mset h (c + 2) (aI 40 (nf f))) c n sg f le fo rk np := by
  obtain ⟨x0, x1, x2, x3, x4, x5⟩ := x
  exact ⟨(mset_n (by omega)).trans x0, (mset_n (by omega)).trans x1, mset_s _ _ _, (mset_n (by omega)).trans x3, (mset_n (by omega)).trans x4, (mset_n (by omega)).trans x5⟩
theorem IsCut.len {h : mH} {c n np : Nat} {sg st le fo f : Nat → Nat} {rk : Nat → Int64} (x : IsCut h c n sg st le fo rk np) : IsCut (mset h (c + 3) (aI 40 (nf f))) c n sg st f fo rk np := by
  obtain ⟨x0, x1, x2, x3, x4, x5⟩ := x
  exact ⟨(mset_n (by omega)).trans x0, (mset_n (by omega)).trans x1, (mset_n (by omega)).trans x2, mset_s _ _ _, (mset_n (by omega)).trans x4, (mset_n (by omega)).trans x5⟩
theorem IsCut.frc {h : mH} {c n np : Nat} {sg st le fo f : Nat → Nat} {rk : Nat → Int64} (x : IsCut h c n sg st le fo rk np) : IsCut (mset h (c + 4) (aI 40 (nf f))) c n sg st le f rk np := by
  obtain ⟨x0, x1, x2, x3, x4, x5⟩ := x
  exact ⟨(mset_n (by omega)).trans x0, (mset_n (by omega)).trans x1, (mset_n (by omega)).trans x2, (mset_n (by omega)).trans x3, mset_s _ _ _, (mset_n (by omega)).trans x5⟩
theorem IsCut.row {h : mH} {c n np : Nat} {sg st le fo : Nat → Nat} {rk f : Nat → Int64} (x : IsCut h c n sg st le fo rk np) : IsCut (mset h (c + 5) (aL 40 f)) c n sg st le fo f np := by
  obtain ⟨x0, x1, x2, x3, x4, x5⟩ := x
  exact ⟨(mset_n (by omega)).trans x0, (mset_n (by omega)).trans x1, (mset_n (by omega)).trans x2, (mset_n (by omega)).trans x3, (mset_n (by omega)).trans x4, mset_s _ _ _⟩
/-- one text and another behind it -/
def catF (a : Nat) (s t : Nat → Nat) : Nat → Nat := fun j => if j < a then s j else t (j - a)
theorem catF_lt {a j : Nat} {s t : Nat → Nat} (h : j < a) : catF a s t j = s j := by simp [catF, h]
theorem catF_ge {a j : Nat} {s t : Nat → Nat} (h : a ≤ j) : catF a s t j = t (j - a) := by simp [catF, Nat.not_lt.mpr h]
theorem catF_up {a k j : Nat} {s t : Nat → Nat} (h : j < a + (k + 1)) : catF a s t j = upN (catF a s t) (a + k) (t k) j := by
  by_cases e : j = a + k
  · rw [e, upN_s, catF_ge (by omega), Nat.add_sub_cancel_left]
  · rw [upN_n e]
set_option maxHeartbeats 4000000 in
set_option maxRecDepth 100000 in
theorem c_Cut_clear {X : mX} {h : mH} {c : Nat} {K : mCt} (hc : CutN h c K) : CnU X m_X1_clear [.ref c] h (fun v h1 => v = none ∧ CutN h1 c (rawK 0 (fun _ => 0)) ∧ Out h h1 c 6) := by
  obtain ⟨sg, st, le, fo, rk, ⟨x0, x1, x2, x3, x4, x5⟩, hL, hN, hS, hP⟩ := id hc
  refine cn_of_ev (L0 := [_]) (by decide +kernel) rfl rfl (Nat.le_of_ble_eq_true rfl) rfl ?_
  refine ev_aload_n dX1_clear_0 rfl rfl ?_
  refine ev_iconst (nI 0) dX1_clear_1 rfl ?_
  first | refine ev_putfield (fs' := [_, _, _, _, _, _, _]) dX1_clear_2 lf_1_15 rfl (x0) (Nat.le_of_ble_eq_true rfl) rfl rfl rfl ?_ | refine ev_putfield (fs' := [_, _, _, _, _, _, _]) dX1_clear_2 lf_1_15 rfl (x1) (Nat.le_of_ble_eq_true rfl) rfl rfl rfl ?_ | refine ev_putfield (fs' := [_, _, _, _, _, _, _]) dX1_clear_2 lf_1_15 rfl (x2) (Nat.le_of_ble_eq_true rfl) rfl rfl rfl ?_ | refine ev_putfield (fs' := [_, _, _, _, _, _, _]) dX1_clear_2 lf_1_15 rfl (x3) (Nat.le_of_ble_eq_true rfl) rfl rfl rfl ?_ | refine ev_putfield (fs' := [_, _, _, _, _, _, _]) dX1_clear_2 lf_1_15 rfl (x4) (Nat.le_of_ble_eq_true rfl) rfl rfl rfl ?_ | refine ev_putfield (fs' := [_, _, _, _, _, _, _]) dX1_clear_2 lf_1_15 rfl (x5) (Nat.le_of_ble_eq_true rfl) rfl rfl rfl ?_
  refine ev_aload_n dX1_clear_5 rfl rfl ?_
  refine ev_iconst (nI 0) dX1_clear_6 rfl ?_
  first | refine ev_putfield (fs' := [_, _, _, _, _, _, _]) dX1_clear_7 lf_1_32 rfl (mset_s _ _ _) (Nat.le_of_ble_eq_true rfl) rfl rfl rfl ?_ | refine ev_putfield (fs' := [_, _, _, _, _, _, _]) dX1_clear_7 lf_1_32 rfl ((mset_n (by omega)).trans (x0)) (Nat.le_of_ble_eq_true rfl) rfl rfl rfl ?_ | refine ev_putfield (fs' := [_, _, _, _, _, _, _]) dX1_clear_7 lf_1_32 rfl ((mset_n (by omega)).trans (x1)) (Nat.le_of_ble_eq_true rfl) rfl rfl rfl ?_ | refine ev_putfield (fs' := [_, _, _, _, _, _, _]) dX1_clear_7 lf_1_32 rfl ((mset_n (by omega)).trans (x2)) (Nat.le_of_ble_eq_true rfl) rfl rfl rfl ?_ | refine ev_putfield (fs' := [_, _, _, _, _, _, _]) dX1_clear_7 lf_1_32 rfl ((mset_n (by omega)).trans (x3)) (Nat.le_of_ble_eq_true rfl) rfl rfl rfl ?_ | refine ev_putfield (fs' := [_, _, _, _, _, _, _]) dX1_clear_7 lf_1_32 rfl ((mset_n (by omega)).trans (x4)) (Nat.le_of_ble_eq_true rfl) rfl rfl rfl ?_ | refine ev_putfield (fs' := [_, _, _, _, _, _, _]) dX1_clear_7 lf_1_32 rfl ((mset_n (by omega)).trans (x5)) (Nat.le_of_ble_eq_true rfl) rfl rfl rfl ?_
  refine ev_return dX1_clear_10 rfl (Or.inl rfl) (Nat.zero_le _) (Nat.zero_le _) ?_
  exact ⟨_, rfl, rfl, CutN.raw (by omega) (IsCut.obj (IsCut.obj ⟨x0, x1, x2, x3, x4, x5⟩)) (fun j hj => absurd hj (Nat.not_lt_zero j)), ((Out.set (by omega) (by omega)).tr (Out.set (by omega) (by omega)))⟩
set_option maxHeartbeats 4000000 in
set_option maxRecDepth 100000 in
theorem c_addSign {X : mX} {h : mH} {c n : Nat} {s : Nat → Nat} (hc : CutN h c (rawK n s)) (hn : n < 40) (x : Nat) (hx : x ≤ 8) : CnU X m_X1_addSign [.ref c, .int (nI x)] h (fun v h1 => v = none ∧ CutN h1 c (rawK (n + 1) (upN s n x)) ∧ Out h h1 c 6) := by
  obtain ⟨sg, st, le, fo, rk, ⟨x0, x1, x2, x3, x4, x5⟩, hL, hN, hS, hP⟩ := id hc
  refine cn_of_ev (L0 := [_, _]) (by decide +kernel) rfl rfl (Nat.le_of_ble_eq_true rfl) rfl ?_
  refine ev_aload_n dX1_addSign_0 rfl rfl ?_
  first | refine ev_getfield dX1_addSign_1 lf_1_15 (x0) rfl ?_ | refine ev_getfield dX1_addSign_1 lf_1_15 (x1) rfl ?_ | refine ev_getfield dX1_addSign_1 lf_1_15 (x2) rfl ?_ | refine ev_getfield dX1_addSign_1 lf_1_15 (x3) rfl ?_ | refine ev_getfield dX1_addSign_1 lf_1_15 (x4) rfl ?_ | refine ev_getfield dX1_addSign_1 lf_1_15 (x5) rfl ?_
  refine ev_bipush (nI 40) dX1_addSign_4 rfl ?_
  refine ev_icmp_geN 29 dX1_addSign_6 rfl (by omega) (by omega) (fun hc6 => ?_) (fun hc6 => ?_)
  · refine ev_pc (pc' := 29) rfl ?_
    exact absurd hc6 (by show ¬ 40 ≤ n; omega)
  · refine ev_pc (pc' := 9) rfl ?_
    refine ev_aload_n dX1_addSign_9 rfl rfl ?_
    first | refine ev_getfield dX1_addSign_10 lf_1_9 (x0) rfl ?_ | refine ev_getfield dX1_addSign_10 lf_1_9 (x1) rfl ?_ | refine ev_getfield dX1_addSign_10 lf_1_9 (x2) rfl ?_ | refine ev_getfield dX1_addSign_10 lf_1_9 (x3) rfl ?_ | refine ev_getfield dX1_addSign_10 lf_1_9 (x4) rfl ?_ | refine ev_getfield dX1_addSign_10 lf_1_9 (x5) rfl ?_
    refine ev_aload_n dX1_addSign_13 rfl rfl ?_
    first | refine ev_getfield dX1_addSign_14 lf_1_15 (x0) rfl ?_ | refine ev_getfield dX1_addSign_14 lf_1_15 (x1) rfl ?_ | refine ev_getfield dX1_addSign_14 lf_1_15 (x2) rfl ?_ | refine ev_getfield dX1_addSign_14 lf_1_15 (x3) rfl ?_ | refine ev_getfield dX1_addSign_14 lf_1_15 (x4) rfl ?_ | refine ev_getfield dX1_addSign_14 lf_1_15 (x5) rfl ?_
    refine ev_iload_n dX1_addSign_17 rfl rfl ?_
    first | refine ev_iastoreF dX1_addSign_18 (x0) (by omega) (by decide) ?_ | refine ev_iastoreF dX1_addSign_18 (x1) (by omega) (by decide) ?_ | refine ev_iastoreF dX1_addSign_18 (x2) (by omega) (by decide) ?_ | refine ev_iastoreF dX1_addSign_18 (x3) (by omega) (by decide) ?_ | refine ev_iastoreF dX1_addSign_18 (x4) (by omega) (by decide) ?_ | refine ev_iastoreF dX1_addSign_18 (x5) (by omega) (by decide) ?_
    refine ev_aload_n dX1_addSign_19 rfl rfl ?_
    refine ev_dup dX1_addSign_20 rfl ?_
    first | refine ev_getfield dX1_addSign_21 lf_1_15 (mset_s _ _ _) rfl ?_ | refine ev_getfield dX1_addSign_21 lf_1_15 ((mset_n (by omega)).trans (x0)) rfl ?_ | refine ev_getfield dX1_addSign_21 lf_1_15 ((mset_n (by omega)).trans (x1)) rfl ?_ | refine ev_getfield dX1_addSign_21 lf_1_15 ((mset_n (by omega)).trans (x2)) rfl ?_ | refine ev_getfield dX1_addSign_21 lf_1_15 ((mset_n (by omega)).trans (x3)) rfl ?_ | refine ev_getfield dX1_addSign_21 lf_1_15 ((mset_n (by omega)).trans (x4)) rfl ?_ | refine ev_getfield dX1_addSign_21 lf_1_15 ((mset_n (by omega)).trans (x5)) rfl ?_
    refine ev_iconst (nI 1) dX1_addSign_24 rfl ?_
    refine ev_iaddN dX1_addSign_25 ?_
    first | refine ev_putfield (fs' := [_, _, _, _, _, _, _]) dX1_addSign_26 lf_1_15 rfl (mset_s _ _ _) (Nat.le_of_ble_eq_true rfl) rfl rfl rfl ?_ | refine ev_putfield (fs' := [_, _, _, _, _, _, _]) dX1_addSign_26 lf_1_15 rfl ((mset_n (by omega)).trans (x0)) (Nat.le_of_ble_eq_true rfl) rfl rfl rfl ?_ | refine ev_putfield (fs' := [_, _, _, _, _, _, _]) dX1_addSign_26 lf_1_15 rfl ((mset_n (by omega)).trans (x1)) (Nat.le_of_ble_eq_true rfl) rfl rfl rfl ?_ | refine ev_putfield (fs' := [_, _, _, _, _, _, _]) dX1_addSign_26 lf_1_15 rfl ((mset_n (by omega)).trans (x2)) (Nat.le_of_ble_eq_true rfl) rfl rfl rfl ?_ | refine ev_putfield (fs' := [_, _, _, _, _, _, _]) dX1_addSign_26 lf_1_15 rfl ((mset_n (by omega)).trans (x3)) (Nat.le_of_ble_eq_true rfl) rfl rfl rfl ?_ | refine ev_putfield (fs' := [_, _, _, _, _, _, _]) dX1_addSign_26 lf_1_15 rfl ((mset_n (by omega)).trans (x4)) (Nat.le_of_ble_eq_true rfl) rfl rfl rfl ?_ | refine ev_putfield (fs' := [_, _, _, _, _, _, _]) dX1_addSign_26 lf_1_15 rfl ((mset_n (by omega)).trans (x5)) (Nat.le_of_ble_eq_true rfl) rfl rfl rfl ?_
    refine ev_return dX1_addSign_29 rfl (Or.inl rfl) (Nat.zero_le _) (Nat.zero_le _) ?_
    refine ⟨_, rfl, rfl, CutN.raw (by omega) (IsCut.obj (IsCut.sgn ⟨x0, x1, x2, x3, x4, x5⟩)) (fun j hj => ?_), ((Out.set (by omega) (by omega)).tr (Out.set (by omega) (by omega)))⟩
    by_cases e : j = n
    · rw [e, upN_s, upN_s]; exact ⟨rfl, hx⟩
    · rw [upN_n e, upN_n e]; exact hS j (by show j < n; omega)
set_option maxHeartbeats 4000000 in
set_option maxRecDepth 100000 in
theorem c_addSigns {X : mX} {h : mH} {c d n : Nat} {s : Nat → Nat} {E : mCt} (hc : CutN h c (rawK n s)) (hd : CutN h d E) (hdj : c + 6 ≤ d ∨ d + 6 ≤ c) (b e : Nat) (hbe : b ≤ e) (heL : e ≤ kL E) (hn : n + (e - b) ≤ 40) : CnU X m_X1_addSigns [.ref c, .ref d, .int (nI b), .int (nI e)] h (fun v h1 => v = none ∧ CutN h1 c (rawK (n + (e - b)) (catF n s (fun j => kS E (b + j)))) ∧ Out h h1 c 6) := by
  refine cn_of_ev (L0 := [_, _, _, _, _]) (by decide +kernel) rfl rfl (Nat.le_of_ble_eq_true rfl) rfl ?_
  have hE40 : kL E ≤ 40 := by obtain ⟨_, _, _, _, _, _, z, _⟩ := hd; exact z
  refine ev_iload_n dX1_addSigns_0 rfl rfl ?_
  refine ev_istore (L' := [_, _, _, _, _]) dX1_addSigns_1 (Nat.le_of_ble_eq_true rfl) rfl ?_
  refine ev_pc (pc' := 3) rfl ?_
  have LP3 : ∀ (mz : Nat) (k : Nat) (h2 : mH), e - b - k = mz → (k ≤ e - b) → (CutN h2 c (rawK (n + k) (catF n s (fun j => kS E (b + j))))) → (Out h h2 c 6) → Ev X m_X1_addSigns B0 3 [.ref c, .ref d, .int (nI b), .int (nI e), .int (nI (b + k))] [] h2 (fun o h1 => ∃ v, o = .inl v ∧ (v = none ∧ CutN h1 c (rawK (n + (e - b)) (catF n s (fun j => kS E (b + j)))) ∧ Out h h1 c 6)) := by
    intro mz
    induction mz using Nat.strongRecOn with
    | _ mz ih =>
      intro k h2 hmz hk hc2 ho
      have hd2 := hd.go ho (by omega)
      obtain ⟨-, -, -, -, -, ⟨z0, -, -, -, -, -⟩, -, -, -, -⟩ := id hc2
      obtain ⟨sg, st, le, fo, rk, ⟨x0, x1, x2, x3, x4, x5⟩, hL, hN, hS, hP⟩ := id hd2
      refine ev_iload dX1_addSigns_3 rfl ?_
      refine ev_iload_n dX1_addSigns_5 rfl rfl ?_
      refine ev_icmp_geN 35 dX1_addSigns_6 rfl (by omega) (by omega) (fun hc6 => ?_) (fun hc6 => ?_)
      · refine ev_return dX1_addSigns_35 rfl (Or.inl rfl) (Nat.zero_le _) (Nat.zero_le _) ?_
        rw [show e - b = k by omega]; exact ⟨none, rfl, rfl, hc2, ho⟩
      · refine ev_iload dX1_addSigns_9 rfl ?_
        refine ev_aload_n dX1_addSigns_11 rfl rfl ?_
        first | refine ev_getfield dX1_addSigns_12 lf_1_15 (x0) rfl ?_ | refine ev_getfield dX1_addSigns_12 lf_1_15 (x1) rfl ?_ | refine ev_getfield dX1_addSigns_12 lf_1_15 (x2) rfl ?_ | refine ev_getfield dX1_addSigns_12 lf_1_15 (x3) rfl ?_ | refine ev_getfield dX1_addSigns_12 lf_1_15 (x4) rfl ?_ | refine ev_getfield dX1_addSigns_12 lf_1_15 (x5) rfl ?_ | refine ev_getfield dX1_addSigns_12 lf_1_15 (z0) rfl ?_
        refine ev_icmp_geN 35 dX1_addSigns_15 rfl (by omega) (by omega) (fun hc15 => ?_) (fun hc15 => ?_)
        · refine ev_return dX1_addSigns_35 rfl (Or.inl rfl) (Nat.zero_le _) (Nat.zero_le _) ?_
          rw [show e - b = k by omega]; exact ⟨none, rfl, rfl, hc2, ho⟩
        · refine ev_aload_n dX1_addSigns_18 rfl rfl ?_
          refine ev_aload_n dX1_addSigns_19 rfl rfl ?_
          first | refine ev_getfield dX1_addSigns_20 lf_1_9 (x0) rfl ?_ | refine ev_getfield dX1_addSigns_20 lf_1_9 (x1) rfl ?_ | refine ev_getfield dX1_addSigns_20 lf_1_9 (x2) rfl ?_ | refine ev_getfield dX1_addSigns_20 lf_1_9 (x3) rfl ?_ | refine ev_getfield dX1_addSigns_20 lf_1_9 (x4) rfl ?_ | refine ev_getfield dX1_addSigns_20 lf_1_9 (x5) rfl ?_ | refine ev_getfield dX1_addSigns_20 lf_1_9 (z0) rfl ?_
          refine ev_iload dX1_addSigns_23 rfl ?_
          first | refine ev_ialoadF dX1_addSigns_25 (x0) (by omega) (by decide) ?_ | refine ev_ialoadF dX1_addSigns_25 (x1) (by omega) (by decide) ?_ | refine ev_ialoadF dX1_addSigns_25 (x2) (by omega) (by decide) ?_ | refine ev_ialoadF dX1_addSigns_25 (x3) (by omega) (by decide) ?_ | refine ev_ialoadF dX1_addSigns_25 (x4) (by omega) (by decide) ?_ | refine ev_ialoadF dX1_addSigns_25 (x5) (by omega) (by decide) ?_ | refine ev_ialoadF dX1_addSigns_25 (z0) (by omega) (by decide) ?_
          rw [(hS (b + k) (by omega)).1]
          first | refine ev_callVU1 dX1_addSigns_26 cal_X1_addSign lk_1_35 ⟨(Nat.le_of_ble_eq_true rfl), (Nat.le_of_ble_eq_true rfl)⟩ rfl (x0) (Nat.le_of_ble_eq_true rfl) (c_addSign hc2 (by omega) (kS E (b + k)) (hS (b + k) (by omega)).2) (fun v h26 hq26 => ?_) | refine ev_callVU1 dX1_addSigns_26 cal_X1_addSign lk_1_35 ⟨(Nat.le_of_ble_eq_true rfl), (Nat.le_of_ble_eq_true rfl)⟩ rfl (x1) (Nat.le_of_ble_eq_true rfl) (c_addSign hc2 (by omega) (kS E (b + k)) (hS (b + k) (by omega)).2) (fun v h26 hq26 => ?_) | refine ev_callVU1 dX1_addSigns_26 cal_X1_addSign lk_1_35 ⟨(Nat.le_of_ble_eq_true rfl), (Nat.le_of_ble_eq_true rfl)⟩ rfl (x2) (Nat.le_of_ble_eq_true rfl) (c_addSign hc2 (by omega) (kS E (b + k)) (hS (b + k) (by omega)).2) (fun v h26 hq26 => ?_) | refine ev_callVU1 dX1_addSigns_26 cal_X1_addSign lk_1_35 ⟨(Nat.le_of_ble_eq_true rfl), (Nat.le_of_ble_eq_true rfl)⟩ rfl (x3) (Nat.le_of_ble_eq_true rfl) (c_addSign hc2 (by omega) (kS E (b + k)) (hS (b + k) (by omega)).2) (fun v h26 hq26 => ?_) | refine ev_callVU1 dX1_addSigns_26 cal_X1_addSign lk_1_35 ⟨(Nat.le_of_ble_eq_true rfl), (Nat.le_of_ble_eq_true rfl)⟩ rfl (x4) (Nat.le_of_ble_eq_true rfl) (c_addSign hc2 (by omega) (kS E (b + k)) (hS (b + k) (by omega)).2) (fun v h26 hq26 => ?_) | refine ev_callVU1 dX1_addSigns_26 cal_X1_addSign lk_1_35 ⟨(Nat.le_of_ble_eq_true rfl), (Nat.le_of_ble_eq_true rfl)⟩ rfl (x5) (Nat.le_of_ble_eq_true rfl) (c_addSign hc2 (by omega) (kS E (b + k)) (hS (b + k) (by omega)).2) (fun v h26 hq26 => ?_) | refine ev_callVU1 dX1_addSigns_26 cal_X1_addSign lk_1_35 ⟨(Nat.le_of_ble_eq_true rfl), (Nat.le_of_ble_eq_true rfl)⟩ rfl (z0) (Nat.le_of_ble_eq_true rfl) (c_addSign hc2 (by omega) (kS E (b + k)) (hS (b + k) (by omega)).2) (fun v h26 hq26 => ?_)
          refine ev_pc (pc' := 29) rfl ?_
          obtain ⟨rfl, hc3, ho3⟩ := hq26
          refine ev_iincN (L' := [_, _, _, _, _]) 1 dX1_addSigns_29 rfl rfl ?_
          refine ev_goto 3 dX1_addSigns_32 rfl ?_
          exact ih _ (by omega) (k + 1) _ rfl (by omega) (hc3.ext (fun j hj => catF_up hj)) (ho.tr ho3)
  exact LP3 _ 0 h rfl (Nat.zero_le _) (hc.ext (fun j hj => catF_lt hj)) Out.rf
set_option maxHeartbeats 4000000 in
set_option maxRecDepth 100000 in
theorem c_becomeSignsOf {X : mX} {h : mH} {c d : Nat} {K E : mCt} (hc : CutN h c K) (hd : CutN h d E) (hdj : c + 6 ≤ d ∨ d + 6 ≤ c) : CnU X m_X1_becomeSignsOf [.ref c, .ref d] h (fun v h1 => v = none ∧ CutN h1 c (rawK (kL E) (kS E)) ∧ Out h h1 c 6) := by
  obtain ⟨sg, st, le, fo, rk, ⟨x0, x1, x2, x3, x4, x5⟩, hL, hN, hS, hP⟩ := id hc
  refine cn_of_ev (L0 := [_, _]) (by decide +kernel) rfl rfl (Nat.le_of_ble_eq_true rfl) rfl ?_
  have hE40 : kL E ≤ 40 := by obtain ⟨_, _, _, _, _, _, z, _⟩ := hd; exact z
  refine ev_aload_n dX1_becomeSignsOf_0 rfl rfl ?_
  first | refine ev_callVU0 dX1_becomeSignsOf_1 cal_X1_clear lk_1_39 ⟨(Nat.le_of_ble_eq_true rfl), (Nat.le_of_ble_eq_true rfl)⟩ rfl (x0) (Nat.le_of_ble_eq_true rfl) (c_Cut_clear hc) (fun v h1 hq1 => ?_) | refine ev_callVU0 dX1_becomeSignsOf_1 cal_X1_clear lk_1_39 ⟨(Nat.le_of_ble_eq_true rfl), (Nat.le_of_ble_eq_true rfl)⟩ rfl (x1) (Nat.le_of_ble_eq_true rfl) (c_Cut_clear hc) (fun v h1 hq1 => ?_) | refine ev_callVU0 dX1_becomeSignsOf_1 cal_X1_clear lk_1_39 ⟨(Nat.le_of_ble_eq_true rfl), (Nat.le_of_ble_eq_true rfl)⟩ rfl (x2) (Nat.le_of_ble_eq_true rfl) (c_Cut_clear hc) (fun v h1 hq1 => ?_) | refine ev_callVU0 dX1_becomeSignsOf_1 cal_X1_clear lk_1_39 ⟨(Nat.le_of_ble_eq_true rfl), (Nat.le_of_ble_eq_true rfl)⟩ rfl (x3) (Nat.le_of_ble_eq_true rfl) (c_Cut_clear hc) (fun v h1 hq1 => ?_) | refine ev_callVU0 dX1_becomeSignsOf_1 cal_X1_clear lk_1_39 ⟨(Nat.le_of_ble_eq_true rfl), (Nat.le_of_ble_eq_true rfl)⟩ rfl (x4) (Nat.le_of_ble_eq_true rfl) (c_Cut_clear hc) (fun v h1 hq1 => ?_) | refine ev_callVU0 dX1_becomeSignsOf_1 cal_X1_clear lk_1_39 ⟨(Nat.le_of_ble_eq_true rfl), (Nat.le_of_ble_eq_true rfl)⟩ rfl (x5) (Nat.le_of_ble_eq_true rfl) (c_Cut_clear hc) (fun v h1 hq1 => ?_)
  refine ev_pc (pc' := 4) rfl ?_
  obtain ⟨rfl, hc3, ho3⟩ := hq1
  have hd3 := hd.go ho3 (by omega)
  obtain ⟨-, -, -, -, -, ⟨z0, -, -, -, -, -⟩, -, -, -, -⟩ := id hc3
  obtain ⟨-, -, -, -, -, ⟨y0, -, -, -, -, -⟩, -, -, -, -⟩ := id hd3
  refine ev_aload_n dX1_becomeSignsOf_4 rfl rfl ?_
  refine ev_aload_n dX1_becomeSignsOf_5 rfl rfl ?_
  refine ev_iconst (nI 0) dX1_becomeSignsOf_6 rfl ?_
  refine ev_aload_n dX1_becomeSignsOf_7 rfl rfl ?_
  first | refine ev_getfield dX1_becomeSignsOf_8 lf_1_15 (z0) rfl ?_ | refine ev_getfield dX1_becomeSignsOf_8 lf_1_15 (y0) rfl ?_
  first | refine ev_callVU3 dX1_becomeSignsOf_11 cal_X1_addSigns lk_1_42 ⟨(Nat.le_of_ble_eq_true rfl), (Nat.le_of_ble_eq_true rfl)⟩ rfl (z0) (Nat.le_of_ble_eq_true rfl) (c_addSigns hc3 hd3 hdj 0 (kL E) (Nat.zero_le _) (Nat.le_refl _) (by omega)) (fun v h11 hq11 => ?_) | refine ev_callVU3 dX1_becomeSignsOf_11 cal_X1_addSigns lk_1_42 ⟨(Nat.le_of_ble_eq_true rfl), (Nat.le_of_ble_eq_true rfl)⟩ rfl (y0) (Nat.le_of_ble_eq_true rfl) (c_addSigns hc3 hd3 hdj 0 (kL E) (Nat.zero_le _) (Nat.le_refl _) (by omega)) (fun v h11 hq11 => ?_)
  refine ev_pc (pc' := 14) rfl ?_
  obtain ⟨rfl, hc4, ho4⟩ := hq11
  rw [show 0 + (kL E - 0) = kL E by omega] at hc4
  refine ev_return dX1_becomeSignsOf_14 rfl (Or.inl rfl) (Nat.zero_le _) (Nat.zero_le _) ?_
  refine ⟨none, rfl, rfl, hc4.ext (fun j hj => ?_), ho3.tr ho4⟩
  rw [catF_ge (Nat.zero_le _), Nat.sub_zero, Nat.zero_add]
set_option maxHeartbeats 4000000 in
set_option maxRecDepth 100000 in
theorem c_Cut_become {X : mX} {h : mH} {c d : Nat} {K E : mCt} (hc : CutN h c K) (hd : CutN h d E) (hdj : c + 6 ≤ d ∨ d + 6 ≤ c) : CnU X m_X1_become [.ref d, .ref c] h (fun v h1 => v = none ∧ CutN h1 d K ∧ Out h h1 d 6) := by
  obtain ⟨sg, st, le, fo, rk, ⟨x0, x1, x2, x3, x4, x5⟩, hL, hN, hS, hP⟩ := id hc
  obtain ⟨sgz, stz, lez, foz, rkz, ⟨z0, z1, z2, z3, z4, z5⟩, -, -, -, -⟩ := id hd
  refine cn_of_ev (L0 := [_, _]) (by decide +kernel) rfl rfl (Nat.le_of_ble_eq_true rfl) rfl ?_
  refine ev_aload_n dX1_become_0 rfl rfl ?_
  refine ev_aload_n dX1_become_1 rfl rfl ?_
  first | refine ev_getfield dX1_become_2 lf_1_15 (z0) rfl ?_ | refine ev_getfield dX1_become_2 lf_1_15 (x0) rfl ?_
  first | refine ev_putfield (fs' := [_, _, _, _, _, _, _]) dX1_become_5 lf_1_15 rfl (z0) (Nat.le_of_ble_eq_true rfl) rfl rfl rfl ?_ | refine ev_putfield (fs' := [_, _, _, _, _, _, _]) dX1_become_5 lf_1_15 rfl (x0) (Nat.le_of_ble_eq_true rfl) rfl rfl rfl ?_
  refine ev_aload_n dX1_become_8 rfl rfl ?_
  refine ev_aload_n dX1_become_9 rfl rfl ?_
  first | refine ev_getfield dX1_become_10 lf_1_32 (mset_s _ _ _) rfl ?_ | refine ev_getfield dX1_become_10 lf_1_32 ((mset_n (by omega)).trans (z0)) rfl ?_ | refine ev_getfield dX1_become_10 lf_1_32 ((mset_n (by omega)).trans (x0)) rfl ?_
  first | refine ev_putfield (fs' := [_, _, _, _, _, _, _]) dX1_become_13 lf_1_32 rfl (mset_s _ _ _) (Nat.le_of_ble_eq_true rfl) rfl rfl rfl ?_ | refine ev_putfield (fs' := [_, _, _, _, _, _, _]) dX1_become_13 lf_1_32 rfl ((mset_n (by omega)).trans (z0)) (Nat.le_of_ble_eq_true rfl) rfl rfl rfl ?_ | refine ev_putfield (fs' := [_, _, _, _, _, _, _]) dX1_become_13 lf_1_32 rfl ((mset_n (by omega)).trans (x0)) (Nat.le_of_ble_eq_true rfl) rfl rfl rfl ?_
  refine ev_aload_n dX1_become_16 rfl rfl ?_
  first | refine ev_getfield dX1_become_17 lf_1_9 (mset_s _ _ _) rfl ?_ | refine ev_getfield dX1_become_17 lf_1_9 ((mset_n (by omega)).trans (mset_s _ _ _)) rfl ?_ | refine ev_getfield dX1_become_17 lf_1_9 ((mset_n (by omega)).trans ((mset_n (by omega)).trans (z0))) rfl ?_ | refine ev_getfield dX1_become_17 lf_1_9 ((mset_n (by omega)).trans ((mset_n (by omega)).trans (x0))) rfl ?_
  refine ev_iconst (nI 0) dX1_become_20 rfl ?_
  refine ev_aload_n dX1_become_21 rfl rfl ?_
  first | refine ev_getfield dX1_become_22 lf_1_9 (mset_s _ _ _) rfl ?_ | refine ev_getfield dX1_become_22 lf_1_9 ((mset_n (by omega)).trans (mset_s _ _ _)) rfl ?_ | refine ev_getfield dX1_become_22 lf_1_9 ((mset_n (by omega)).trans ((mset_n (by omega)).trans (z0))) rfl ?_ | refine ev_getfield dX1_become_22 lf_1_9 ((mset_n (by omega)).trans ((mset_n (by omega)).trans (x0))) rfl ?_
  refine ev_iconst (nI 0) dX1_become_25 rfl ?_
  refine ev_bipush (nI 40) dX1_become_26 rfl ?_
  refine ev_copyI0 dX1_become_28 lk_1_46 w_an w_as w_ai (by omega) ((mset_n (by omega)).trans ((mset_n (by omega)).trans (x1))) ((mset_n (by omega)).trans ((mset_n (by omega)).trans (z1))) rfl (by decide) (Nat.le_of_ble_eq_true rfl) (Nat.le_of_ble_eq_true rfl) ?_
  refine ev_aload_n dX1_become_31 rfl rfl ?_
  first | refine ev_getfield dX1_become_32 lf_1_19 (mset_s _ _ _) rfl ?_ | refine ev_getfield dX1_become_32 lf_1_19 ((mset_n (by omega)).trans (mset_s _ _ _)) rfl ?_ | refine ev_getfield dX1_become_32 lf_1_19 ((mset_n (by omega)).trans ((mset_n (by omega)).trans (mset_s _ _ _))) rfl ?_ | refine ev_getfield dX1_become_32 lf_1_19 ((mset_n (by omega)).trans ((mset_n (by omega)).trans ((mset_n (by omega)).trans (z0)))) rfl ?_ | refine ev_getfield dX1_become_32 lf_1_19 ((mset_n (by omega)).trans ((mset_n (by omega)).trans ((mset_n (by omega)).trans (x0)))) rfl ?_
  refine ev_iconst (nI 0) dX1_become_35 rfl ?_
  refine ev_aload_n dX1_become_36 rfl rfl ?_
  first | refine ev_getfield dX1_become_37 lf_1_19 (mset_s _ _ _) rfl ?_ | refine ev_getfield dX1_become_37 lf_1_19 ((mset_n (by omega)).trans (mset_s _ _ _)) rfl ?_ | refine ev_getfield dX1_become_37 lf_1_19 ((mset_n (by omega)).trans ((mset_n (by omega)).trans (mset_s _ _ _))) rfl ?_ | refine ev_getfield dX1_become_37 lf_1_19 ((mset_n (by omega)).trans ((mset_n (by omega)).trans ((mset_n (by omega)).trans (z0)))) rfl ?_ | refine ev_getfield dX1_become_37 lf_1_19 ((mset_n (by omega)).trans ((mset_n (by omega)).trans ((mset_n (by omega)).trans (x0)))) rfl ?_
  refine ev_iconst (nI 0) dX1_become_40 rfl ?_
  refine ev_bipush (nI 40) dX1_become_41 rfl ?_
  refine ev_copyI0 dX1_become_43 lk_1_46 w_an w_as w_ai (by omega) ((mset_n (by omega)).trans ((mset_n (by omega)).trans ((mset_n (by omega)).trans (x2)))) ((mset_n (by omega)).trans ((mset_n (by omega)).trans ((mset_n (by omega)).trans (z2)))) rfl (by decide) (Nat.le_of_ble_eq_true rfl) (Nat.le_of_ble_eq_true rfl) ?_
  refine ev_aload_n dX1_become_46 rfl rfl ?_
  first | refine ev_getfield dX1_become_47 lf_1_22 (mset_s _ _ _) rfl ?_ | refine ev_getfield dX1_become_47 lf_1_22 ((mset_n (by omega)).trans (mset_s _ _ _)) rfl ?_ | refine ev_getfield dX1_become_47 lf_1_22 ((mset_n (by omega)).trans ((mset_n (by omega)).trans (mset_s _ _ _))) rfl ?_ | refine ev_getfield dX1_become_47 lf_1_22 ((mset_n (by omega)).trans ((mset_n (by omega)).trans ((mset_n (by omega)).trans (mset_s _ _ _)))) rfl ?_ | refine ev_getfield dX1_become_47 lf_1_22 ((mset_n (by omega)).trans ((mset_n (by omega)).trans ((mset_n (by omega)).trans ((mset_n (by omega)).trans (z0))))) rfl ?_ | refine ev_getfield dX1_become_47 lf_1_22 ((mset_n (by omega)).trans ((mset_n (by omega)).trans ((mset_n (by omega)).trans ((mset_n (by omega)).trans (x0))))) rfl ?_
  refine ev_iconst (nI 0) dX1_become_50 rfl ?_
  refine ev_aload_n dX1_become_51 rfl rfl ?_
  first | refine ev_getfield dX1_become_52 lf_1_22 (mset_s _ _ _) rfl ?_ | refine ev_getfield dX1_become_52 lf_1_22 ((mset_n (by omega)).trans (mset_s _ _ _)) rfl ?_ | refine ev_getfield dX1_become_52 lf_1_22 ((mset_n (by omega)).trans ((mset_n (by omega)).trans (mset_s _ _ _))) rfl ?_ | refine ev_getfield dX1_become_52 lf_1_22 ((mset_n (by omega)).trans ((mset_n (by omega)).trans ((mset_n (by omega)).trans (mset_s _ _ _)))) rfl ?_ | refine ev_getfield dX1_become_52 lf_1_22 ((mset_n (by omega)).trans ((mset_n (by omega)).trans ((mset_n (by omega)).trans ((mset_n (by omega)).trans (z0))))) rfl ?_ | refine ev_getfield dX1_become_52 lf_1_22 ((mset_n (by omega)).trans ((mset_n (by omega)).trans ((mset_n (by omega)).trans ((mset_n (by omega)).trans (x0))))) rfl ?_
  refine ev_iconst (nI 0) dX1_become_55 rfl ?_
  refine ev_bipush (nI 40) dX1_become_56 rfl ?_
  refine ev_copyI0 dX1_become_58 lk_1_46 w_an w_as w_ai (by omega) ((mset_n (by omega)).trans ((mset_n (by omega)).trans ((mset_n (by omega)).trans ((mset_n (by omega)).trans (x3))))) ((mset_n (by omega)).trans ((mset_n (by omega)).trans ((mset_n (by omega)).trans ((mset_n (by omega)).trans (z3))))) rfl (by decide) (Nat.le_of_ble_eq_true rfl) (Nat.le_of_ble_eq_true rfl) ?_
  refine ev_aload_n dX1_become_61 rfl rfl ?_
  first | refine ev_getfield dX1_become_62 lf_1_25 (mset_s _ _ _) rfl ?_ | refine ev_getfield dX1_become_62 lf_1_25 ((mset_n (by omega)).trans (mset_s _ _ _)) rfl ?_ | refine ev_getfield dX1_become_62 lf_1_25 ((mset_n (by omega)).trans ((mset_n (by omega)).trans (mset_s _ _ _))) rfl ?_ | refine ev_getfield dX1_become_62 lf_1_25 ((mset_n (by omega)).trans ((mset_n (by omega)).trans ((mset_n (by omega)).trans (mset_s _ _ _)))) rfl ?_ | refine ev_getfield dX1_become_62 lf_1_25 ((mset_n (by omega)).trans ((mset_n (by omega)).trans ((mset_n (by omega)).trans ((mset_n (by omega)).trans (mset_s _ _ _))))) rfl ?_ | refine ev_getfield dX1_become_62 lf_1_25 ((mset_n (by omega)).trans ((mset_n (by omega)).trans ((mset_n (by omega)).trans ((mset_n (by omega)).trans ((mset_n (by omega)).trans (z0)))))) rfl ?_ | refine ev_getfield dX1_become_62 lf_1_25 ((mset_n (by omega)).trans ((mset_n (by omega)).trans ((mset_n (by omega)).trans ((mset_n (by omega)).trans ((mset_n (by omega)).trans (x0)))))) rfl ?_
  refine ev_iconst (nI 0) dX1_become_65 rfl ?_
  refine ev_aload_n dX1_become_66 rfl rfl ?_
  first | refine ev_getfield dX1_become_67 lf_1_25 (mset_s _ _ _) rfl ?_ | refine ev_getfield dX1_become_67 lf_1_25 ((mset_n (by omega)).trans (mset_s _ _ _)) rfl ?_ | refine ev_getfield dX1_become_67 lf_1_25 ((mset_n (by omega)).trans ((mset_n (by omega)).trans (mset_s _ _ _))) rfl ?_ | refine ev_getfield dX1_become_67 lf_1_25 ((mset_n (by omega)).trans ((mset_n (by omega)).trans ((mset_n (by omega)).trans (mset_s _ _ _)))) rfl ?_ | refine ev_getfield dX1_become_67 lf_1_25 ((mset_n (by omega)).trans ((mset_n (by omega)).trans ((mset_n (by omega)).trans ((mset_n (by omega)).trans (mset_s _ _ _))))) rfl ?_ | refine ev_getfield dX1_become_67 lf_1_25 ((mset_n (by omega)).trans ((mset_n (by omega)).trans ((mset_n (by omega)).trans ((mset_n (by omega)).trans ((mset_n (by omega)).trans (z0)))))) rfl ?_ | refine ev_getfield dX1_become_67 lf_1_25 ((mset_n (by omega)).trans ((mset_n (by omega)).trans ((mset_n (by omega)).trans ((mset_n (by omega)).trans ((mset_n (by omega)).trans (x0)))))) rfl ?_
  refine ev_iconst (nI 0) dX1_become_70 rfl ?_
  refine ev_bipush (nI 40) dX1_become_71 rfl ?_
  refine ev_copyI0 dX1_become_73 lk_1_46 w_an w_as w_ai (by omega) ((mset_n (by omega)).trans ((mset_n (by omega)).trans ((mset_n (by omega)).trans ((mset_n (by omega)).trans ((mset_n (by omega)).trans (x4)))))) ((mset_n (by omega)).trans ((mset_n (by omega)).trans ((mset_n (by omega)).trans ((mset_n (by omega)).trans ((mset_n (by omega)).trans (z4)))))) rfl (by decide) (Nat.le_of_ble_eq_true rfl) (Nat.le_of_ble_eq_true rfl) ?_
  refine ev_aload_n dX1_become_76 rfl rfl ?_
  first | refine ev_getfield dX1_become_77 lf_1_28 (mset_s _ _ _) rfl ?_ | refine ev_getfield dX1_become_77 lf_1_28 ((mset_n (by omega)).trans (mset_s _ _ _)) rfl ?_ | refine ev_getfield dX1_become_77 lf_1_28 ((mset_n (by omega)).trans ((mset_n (by omega)).trans (mset_s _ _ _))) rfl ?_ | refine ev_getfield dX1_become_77 lf_1_28 ((mset_n (by omega)).trans ((mset_n (by omega)).trans ((mset_n (by omega)).trans (mset_s _ _ _)))) rfl ?_ | refine ev_getfield dX1_become_77 lf_1_28 ((mset_n (by omega)).trans ((mset_n (by omega)).trans ((mset_n (by omega)).trans ((mset_n (by omega)).trans (mset_s _ _ _))))) rfl ?_ | refine ev_getfield dX1_become_77 lf_1_28 ((mset_n (by omega)).trans ((mset_n (by omega)).trans ((mset_n (by omega)).trans ((mset_n (by omega)).trans ((mset_n (by omega)).trans (mset_s _ _ _)))))) rfl ?_ | refine ev_getfield dX1_become_77 lf_1_28 ((mset_n (by omega)).trans ((mset_n (by omega)).trans ((mset_n (by omega)).trans ((mset_n (by omega)).trans ((mset_n (by omega)).trans ((mset_n (by omega)).trans (z0))))))) rfl ?_ | refine ev_getfield dX1_become_77 lf_1_28 ((mset_n (by omega)).trans ((mset_n (by omega)).trans ((mset_n (by omega)).trans ((mset_n (by omega)).trans ((mset_n (by omega)).trans ((mset_n (by omega)).trans (x0))))))) rfl ?_
  refine ev_iconst (nI 0) dX1_become_80 rfl ?_
  refine ev_aload_n dX1_become_81 rfl rfl ?_
  first | refine ev_getfield dX1_become_82 lf_1_28 (mset_s _ _ _) rfl ?_ | refine ev_getfield dX1_become_82 lf_1_28 ((mset_n (by omega)).trans (mset_s _ _ _)) rfl ?_ | refine ev_getfield dX1_become_82 lf_1_28 ((mset_n (by omega)).trans ((mset_n (by omega)).trans (mset_s _ _ _))) rfl ?_ | refine ev_getfield dX1_become_82 lf_1_28 ((mset_n (by omega)).trans ((mset_n (by omega)).trans ((mset_n (by omega)).trans (mset_s _ _ _)))) rfl ?_ | refine ev_getfield dX1_become_82 lf_1_28 ((mset_n (by omega)).trans ((mset_n (by omega)).trans ((mset_n (by omega)).trans ((mset_n (by omega)).trans (mset_s _ _ _))))) rfl ?_ | refine ev_getfield dX1_become_82 lf_1_28 ((mset_n (by omega)).trans ((mset_n (by omega)).trans ((mset_n (by omega)).trans ((mset_n (by omega)).trans ((mset_n (by omega)).trans (mset_s _ _ _)))))) rfl ?_ | refine ev_getfield dX1_become_82 lf_1_28 ((mset_n (by omega)).trans ((mset_n (by omega)).trans ((mset_n (by omega)).trans ((mset_n (by omega)).trans ((mset_n (by omega)).trans ((mset_n (by omega)).trans (z0))))))) rfl ?_ | refine ev_getfield dX1_become_82 lf_1_28 ((mset_n (by omega)).trans ((mset_n (by omega)).trans ((mset_n (by omega)).trans ((mset_n (by omega)).trans ((mset_n (by omega)).trans ((mset_n (by omega)).trans (x0))))))) rfl ?_
  refine ev_iconst (nI 0) dX1_become_85 rfl ?_
  refine ev_bipush (nI 40) dX1_become_86 rfl ?_
  refine ev_copyL0 dX1_become_88 lk_1_46 w_an w_as w_ai (by omega) ((mset_n (by omega)).trans ((mset_n (by omega)).trans ((mset_n (by omega)).trans ((mset_n (by omega)).trans ((mset_n (by omega)).trans ((mset_n (by omega)).trans (x5))))))) ((mset_n (by omega)).trans ((mset_n (by omega)).trans ((mset_n (by omega)).trans ((mset_n (by omega)).trans ((mset_n (by omega)).trans ((mset_n (by omega)).trans (z5))))))) rfl (by decide) (Nat.le_of_ble_eq_true rfl) (Nat.le_of_ble_eq_true rfl) ?_
  refine ev_return dX1_become_91 rfl (Or.inl rfl) (Nat.zero_le _) (Nat.zero_le _) ?_
  refine ⟨_, rfl, rfl, ⟨_, _, _, _, _, IsCut.row (IsCut.frc (IsCut.len (IsCut.sta (IsCut.sgn (IsCut.obj (IsCut.obj ⟨z0, z1, z2, z3, z4, z5⟩)))))), hL, hN, fun j hj => ?_, fun p hp => ?_⟩, (((((((Out.set (by omega) (by omega)).tr (Out.set (by omega) (by omega))).tr (Out.set (by omega) (by omega))).tr (Out.set (by omega) (by omega))).tr (Out.set (by omega) (by omega))).tr (Out.set (by omega) (by omega))).tr (Out.set (by omega) (by omega)))⟩
  · rw [cpN_0 (by omega)]; exact hS j hj
  · rw [cpN_0 (by omega), cpN_0 (by omega), cpN_0 (by omega), cpL_0 (by omega)]; exact hP p hp
