def putS (S : mSo) (w : Int64) : mSo := (vp_updL (sR S) (slU S 0) w, upN (sO S) (slU S 0) 0, sC S + 1, sW S)
def ownS (S : mSo) (u : Nat) : mSo := (sR S, upN (sO S) u (sO S u + 1), sC S, sW S)
def gt1 (S : mSo) (w : Int64) : mSo := if slU S w < 60 then ownS S (slU S w) else ownS (putS S w) (slU S 0)
def gtN (S : mSo) (K : mCt) : Nat → mSo
  | 0 => S
  | n + 1 => gt1 (gtN S K n) (kR K n)
theorem StoV.put {S : mSo} {rr : Nat → Int64} {ln ow : Nat → Nat} {w : Int64} {x : Nat} (v : StoV S rr ln ow) (hu : slU S 0 < 60) (hx : x = rl w) : StoV (putS S w) (vp_updL rr (slU S 0) w) (upN ln (slU S 0) x) (upN ow (slU S 0) 0) := fun k hk => by
  by_cases e : k = slU S 0
  · rw [e]
    show vp_updL rr (slU S 0) w (slU S 0) = vp_updL (sR S) (slU S 0) w (slU S 0) ∧ (vp_updL (sR S) (slU S 0) w (slU S 0) ≠ 0 → upN ln (slU S 0) x (slU S 0) = rl (vp_updL (sR S) (slU S 0) w (slU S 0)) ∧ upN ow (slU S 0) 0 (slU S 0) = upN (sO S) (slU S 0) 0 (slU S 0))
    rw [upL_s, upL_s, upN_s, upN_s, upN_s]
    exact ⟨rfl, fun _ => ⟨hx, rfl⟩⟩
  · show vp_updL rr (slU S 0) w k = vp_updL (sR S) (slU S 0) w k ∧ (vp_updL (sR S) (slU S 0) w k ≠ 0 → upN ln (slU S 0) x k = rl (vp_updL (sR S) (slU S 0) w k) ∧ upN ow (slU S 0) 0 k = upN (sO S) (slU S 0) 0 k)
    rw [upL_n e, upL_n e, upN_n e, upN_n e, upN_n e]
    exact v k hk
theorem StoV.own1 {S : mSo} {rr : Nat → Int64} {ln ow : Nat → Nat} {u : Nat} (v : StoV S rr ln ow) (hu : u < 60) (hz : sR S u ≠ 0) : StoV (ownS S u) rr ln (upN ow u (ow u + 1)) :=
  v.own (fun _ _ => rfl) hu (fun q => by rw [((v u hu).2 hz).2]; exact (upN_s (sO S) u (sO S u + 1)).symm) (fun k _ e _ => upN_n e)
theorem nI_m1 {n : Nat} (h : n < 60) : ¬ nI n = -1 := fun z => slI_eq (u := n) (by rw [slI_y h]; exact z) h
theorem gtN_s (S : mSo) (K : mCt) (n : Nat) : gtN S K (n + 1) = gt1 (gtN S K n) (kR K n) := rfl
set_option maxHeartbeats 4000000 in
set_option maxRecDepth 100000 in
theorem c_takeIn {X : mX} {h : mH} {d : Nat} {S : mSo} (hs : StoreN h d S) (w : Int64) (n : Nat) (hn : n = rl w) (hu : slU S 0 < 60) : CnU X m_X5_takeIn [.ref d, .long w, .int (nI n)] h (fun v h1 => v = some (.int (nI (slU S 0))) ∧ StoreN h1 d (putS S w) ∧ Out h h1 d 4) := by
  obtain ⟨rr, ln, ow, ⟨y0, y1, y2, y3⟩, hV⟩ := id hs
  refine cn_of_ev (L0 := [_, _, _, _, _]) (by decide +kernel) rfl rfl (Nat.le_of_ble_eq_true rfl) rfl ?_
  have e1 : slI (slU S (lN 0)) = nI (slU S 0) := slI_y hu
  refine ev_aload_n dX5_takeIn_0 rfl rfl ?_
  refine ev_lconst (lN 0) dX5_takeIn_1 rfl ?_
  first | refine ev_callVP1 dX5_takeIn_2 cal_X5_slotOf lk_5_43 ⟨(Nat.le_of_ble_eq_true rfl), (Nat.le_of_ble_eq_true rfl)⟩ rfl (y0) (Nat.le_of_ble_eq_true rfl) (c_slotOf hs _) ?_ | refine ev_callVP1 dX5_takeIn_2 cal_X5_slotOf lk_5_43 ⟨(Nat.le_of_ble_eq_true rfl), (Nat.le_of_ble_eq_true rfl)⟩ rfl (y1) (Nat.le_of_ble_eq_true rfl) (c_slotOf hs _) ?_ | refine ev_callVP1 dX5_takeIn_2 cal_X5_slotOf lk_5_43 ⟨(Nat.le_of_ble_eq_true rfl), (Nat.le_of_ble_eq_true rfl)⟩ rfl (y2) (Nat.le_of_ble_eq_true rfl) (c_slotOf hs _) ?_ | refine ev_callVP1 dX5_takeIn_2 cal_X5_slotOf lk_5_43 ⟨(Nat.le_of_ble_eq_true rfl), (Nat.le_of_ble_eq_true rfl)⟩ rfl (y3) (Nat.le_of_ble_eq_true rfl) (c_slotOf hs _) ?_
  refine ev_istore (L' := [_, _, _, _, _]) dX5_takeIn_5 (Nat.le_of_ble_eq_true rfl) rfl ?_
  refine ev_iload dX5_takeIn_7 rfl ?_
  refine ev_iconst (-1) dX5_takeIn_9 rfl ?_
  refine ev_icmp_eq 47 dX5_takeIn_10 rfl (fun hc10 => ?_) (fun hc10 => ?_)
  · refine ev_pc (pc' := 47) rfl ?_
    exact absurd hu (slI_eq hc10)
  · refine ev_pc (pc' := 13) rfl ?_
    rw [e1]
    refine ev_aload_n dX5_takeIn_13 rfl rfl ?_
    first | refine ev_getfield dX5_takeIn_14 lf_5_9 (y0) rfl ?_ | refine ev_getfield dX5_takeIn_14 lf_5_9 (y1) rfl ?_ | refine ev_getfield dX5_takeIn_14 lf_5_9 (y2) rfl ?_ | refine ev_getfield dX5_takeIn_14 lf_5_9 (y3) rfl ?_
    refine ev_iload dX5_takeIn_17 rfl ?_
    refine ev_lload_n dX5_takeIn_19 rfl rfl ?_
    first | refine ev_lastoreN dX5_takeIn_20 (y0) (by omega) (by decide) ?_ | refine ev_lastoreN dX5_takeIn_20 (y1) (by omega) (by decide) ?_ | refine ev_lastoreN dX5_takeIn_20 (y2) (by omega) (by decide) ?_ | refine ev_lastoreN dX5_takeIn_20 (y3) (by omega) (by decide) ?_
    refine ev_aload_n dX5_takeIn_21 rfl rfl ?_
    first | refine ev_getfield dX5_takeIn_22 lf_5_15 (mset_s _ _ _) rfl ?_ | refine ev_getfield dX5_takeIn_22 lf_5_15 ((mset_n (by omega)).trans (y0)) rfl ?_ | refine ev_getfield dX5_takeIn_22 lf_5_15 ((mset_n (by omega)).trans (y1)) rfl ?_ | refine ev_getfield dX5_takeIn_22 lf_5_15 ((mset_n (by omega)).trans (y2)) rfl ?_ | refine ev_getfield dX5_takeIn_22 lf_5_15 ((mset_n (by omega)).trans (y3)) rfl ?_
    refine ev_iload dX5_takeIn_25 rfl ?_
    refine ev_iload_n dX5_takeIn_27 rfl rfl ?_
    first | refine ev_iastoreF dX5_takeIn_28 (mset_s _ _ _) (by omega) (by decide) ?_ | refine ev_iastoreF dX5_takeIn_28 ((mset_n (by omega)).trans (y0)) (by omega) (by decide) ?_ | refine ev_iastoreF dX5_takeIn_28 ((mset_n (by omega)).trans (y1)) (by omega) (by decide) ?_ | refine ev_iastoreF dX5_takeIn_28 ((mset_n (by omega)).trans (y2)) (by omega) (by decide) ?_ | refine ev_iastoreF dX5_takeIn_28 ((mset_n (by omega)).trans (y3)) (by omega) (by decide) ?_
    refine ev_aload_n dX5_takeIn_29 rfl rfl ?_
    first | refine ev_getfield dX5_takeIn_30 lf_5_19 (mset_s _ _ _) rfl ?_ | refine ev_getfield dX5_takeIn_30 lf_5_19 ((mset_n (by omega)).trans (mset_s _ _ _)) rfl ?_ | refine ev_getfield dX5_takeIn_30 lf_5_19 ((mset_n (by omega)).trans ((mset_n (by omega)).trans (y0))) rfl ?_ | refine ev_getfield dX5_takeIn_30 lf_5_19 ((mset_n (by omega)).trans ((mset_n (by omega)).trans (y1))) rfl ?_ | refine ev_getfield dX5_takeIn_30 lf_5_19 ((mset_n (by omega)).trans ((mset_n (by omega)).trans (y2))) rfl ?_ | refine ev_getfield dX5_takeIn_30 lf_5_19 ((mset_n (by omega)).trans ((mset_n (by omega)).trans (y3))) rfl ?_
    refine ev_iload dX5_takeIn_33 rfl ?_
    refine ev_iconst (nI 0) dX5_takeIn_35 rfl ?_
    first | refine ev_iastoreF dX5_takeIn_36 (mset_s _ _ _) (by omega) (by decide) ?_ | refine ev_iastoreF dX5_takeIn_36 ((mset_n (by omega)).trans (mset_s _ _ _)) (by omega) (by decide) ?_ | refine ev_iastoreF dX5_takeIn_36 ((mset_n (by omega)).trans ((mset_n (by omega)).trans (y0))) (by omega) (by decide) ?_ | refine ev_iastoreF dX5_takeIn_36 ((mset_n (by omega)).trans ((mset_n (by omega)).trans (y1))) (by omega) (by decide) ?_ | refine ev_iastoreF dX5_takeIn_36 ((mset_n (by omega)).trans ((mset_n (by omega)).trans (y2))) (by omega) (by decide) ?_ | refine ev_iastoreF dX5_takeIn_36 ((mset_n (by omega)).trans ((mset_n (by omega)).trans (y3))) (by omega) (by decide) ?_
    refine ev_aload_n dX5_takeIn_37 rfl rfl ?_
    refine ev_dup dX5_takeIn_38 rfl ?_
    first | refine ev_getfield dX5_takeIn_39 lf_5_22 (mset_s _ _ _) rfl ?_ | refine ev_getfield dX5_takeIn_39 lf_5_22 ((mset_n (by omega)).trans (mset_s _ _ _)) rfl ?_ | refine ev_getfield dX5_takeIn_39 lf_5_22 ((mset_n (by omega)).trans ((mset_n (by omega)).trans (mset_s _ _ _))) rfl ?_ | refine ev_getfield dX5_takeIn_39 lf_5_22 ((mset_n (by omega)).trans ((mset_n (by omega)).trans ((mset_n (by omega)).trans (y0)))) rfl ?_ | refine ev_getfield dX5_takeIn_39 lf_5_22 ((mset_n (by omega)).trans ((mset_n (by omega)).trans ((mset_n (by omega)).trans (y1)))) rfl ?_ | refine ev_getfield dX5_takeIn_39 lf_5_22 ((mset_n (by omega)).trans ((mset_n (by omega)).trans ((mset_n (by omega)).trans (y2)))) rfl ?_ | refine ev_getfield dX5_takeIn_39 lf_5_22 ((mset_n (by omega)).trans ((mset_n (by omega)).trans ((mset_n (by omega)).trans (y3)))) rfl ?_
    refine ev_iconst (nI 1) dX5_takeIn_42 rfl ?_
    refine ev_iaddN dX5_takeIn_43 ?_
    first | refine ev_putfield (fs' := [_, _, _, _, _]) dX5_takeIn_44 lf_5_22 rfl (mset_s _ _ _) (Nat.le_of_ble_eq_true rfl) rfl rfl rfl ?_ | refine ev_putfield (fs' := [_, _, _, _, _]) dX5_takeIn_44 lf_5_22 rfl ((mset_n (by omega)).trans (mset_s _ _ _)) (Nat.le_of_ble_eq_true rfl) rfl rfl rfl ?_ | refine ev_putfield (fs' := [_, _, _, _, _]) dX5_takeIn_44 lf_5_22 rfl ((mset_n (by omega)).trans ((mset_n (by omega)).trans (mset_s _ _ _))) (Nat.le_of_ble_eq_true rfl) rfl rfl rfl ?_ | refine ev_putfield (fs' := [_, _, _, _, _]) dX5_takeIn_44 lf_5_22 rfl ((mset_n (by omega)).trans ((mset_n (by omega)).trans ((mset_n (by omega)).trans (y0)))) (Nat.le_of_ble_eq_true rfl) rfl rfl rfl ?_ | refine ev_putfield (fs' := [_, _, _, _, _]) dX5_takeIn_44 lf_5_22 rfl ((mset_n (by omega)).trans ((mset_n (by omega)).trans ((mset_n (by omega)).trans (y1)))) (Nat.le_of_ble_eq_true rfl) rfl rfl rfl ?_ | refine ev_putfield (fs' := [_, _, _, _, _]) dX5_takeIn_44 lf_5_22 rfl ((mset_n (by omega)).trans ((mset_n (by omega)).trans ((mset_n (by omega)).trans (y2)))) (Nat.le_of_ble_eq_true rfl) rfl rfl rfl ?_ | refine ev_putfield (fs' := [_, _, _, _, _]) dX5_takeIn_44 lf_5_22 rfl ((mset_n (by omega)).trans ((mset_n (by omega)).trans ((mset_n (by omega)).trans (y3)))) (Nat.le_of_ble_eq_true rfl) rfl rfl rfl ?_
    refine ev_iload dX5_takeIn_47 rfl ?_
    refine ev_ireturn dX5_takeIn_49 rfl (Or.inl rfl) (Nat.zero_le _) (Nat.zero_le _) ?_
    refine ⟨_, rfl, rfl, ⟨_, _, _, ⟨mset_s _ _ _, ?_, ?_, ?_⟩, hV.put hu hn⟩, ((((Out.set (by omega) (by omega)).tr (Out.set (by omega) (by omega))).tr (Out.set (by omega) (by omega))).tr (Out.set (by omega) (by omega)))⟩
    · exact (mset_n (by omega)).trans ((mset_n (by omega)).trans ((mset_n (by omega)).trans (mset_s _ _ _)))
    · exact (mset_n (by omega)).trans ((mset_n (by omega)).trans (mset_s _ _ _))
    · exact (mset_n (by omega)).trans (mset_s _ _ _)
set_option maxHeartbeats 4000000 in
set_option maxRecDepth 100000 in
theorem c_getOwner {X : mX} {h : mH} {c d : Nat} {S : mSo} {K : mCt} (hs : StoreN h d S) (hc : CutN h c K) (hdj : c + 6 ≤ d ∨ d + 4 ≤ c) (hR : ∀ p, p < kN K → kR K p ≠ 0 ∧ kQ K p = rl (kR K p)) (hF : ∀ p, p < kN K → slU (gtN S K p) (kR K p) < 60 ∨ slU (gtN S K p) 0 < 60) : CnU X m_X5_getOwner [.ref d, .ref c] h (fun v h1 => v = none ∧ StoreN h1 d (gtN S K (kN K)) ∧ Out h h1 d 4) := by
  refine cn_of_ev (L0 := [_, _, _, _]) (by decide +kernel) rfl rfl (Nat.le_of_ble_eq_true rfl) rfl ?_
  refine ev_iconst (nI 0) dX5_getOwner_0 rfl ?_
  refine ev_istore_n (L' := [_, _, _, _]) dX5_getOwner_1 rfl (Nat.le_of_ble_eq_true rfl) rfl ?_
  refine ev_pc (pc' := 2) rfl ?_
  have LP2 : ∀ (n : Nat) (k : Nat) (h2 : mH), kN K - k = n → (k ≤ kN K) → (StoreN h2 d (gtN S K k)) → (Out h h2 d 4) → Ev X m_X5_getOwner B0 2 [.ref d, .ref c, .int (nI k), jk] [] h2 (fun o h1 => ∃ v, o = .inl v ∧ (v = none ∧ StoreN h1 d (gtN S K (kN K)) ∧ Out h h1 d 4)) := by
    intro n
    induction n using Nat.strongRecOn with
    | _ n ih =>
      intro k h2 hn hk hs2 ho
      have hc2 := hc.go ho (by omega)
      obtain ⟨rr, ln, ow, ⟨y0, y1, y2, y3⟩, hV⟩ := id hs2
      obtain ⟨sg, st, le, fo, rk, ⟨x0, x1, x2, x3, x4, x5⟩, hL, hN, hS, hP⟩ := id hc2
      clear hc
      refine ev_iload_n dX5_getOwner_2 rfl rfl ?_
      refine ev_aload_n dX5_getOwner_3 rfl rfl ?_
      first | refine ev_getfield dX5_getOwner_4 lf_5_37 (x0) rfl ?_ | refine ev_getfield dX5_getOwner_4 lf_5_37 (x1) rfl ?_ | refine ev_getfield dX5_getOwner_4 lf_5_37 (x2) rfl ?_ | refine ev_getfield dX5_getOwner_4 lf_5_37 (x3) rfl ?_ | refine ev_getfield dX5_getOwner_4 lf_5_37 (x4) rfl ?_ | refine ev_getfield dX5_getOwner_4 lf_5_37 (x5) rfl ?_ | refine ev_getfield dX5_getOwner_4 lf_5_37 (y0) rfl ?_ | refine ev_getfield dX5_getOwner_4 lf_5_37 (y1) rfl ?_ | refine ev_getfield dX5_getOwner_4 lf_5_37 (y2) rfl ?_ | refine ev_getfield dX5_getOwner_4 lf_5_37 (y3) rfl ?_
      refine ev_icmp_geN 64 dX5_getOwner_7 rfl (by omega) (by omega) (fun hc7 => ?_) (fun hc7 => ?_)
      · refine ev_return dX5_getOwner_64 rfl (Or.inl rfl) (Nat.zero_le _) (Nat.zero_le _) ?_
        rw [show kN K = k by omega]; exact ⟨none, rfl, rfl, hs2, ho⟩
      · refine ev_aload_n dX5_getOwner_10 rfl rfl ?_
        refine ev_aload_n dX5_getOwner_11 rfl rfl ?_
        first | refine ev_getfield dX5_getOwner_12 lf_5_42 (x0) rfl ?_ | refine ev_getfield dX5_getOwner_12 lf_5_42 (x1) rfl ?_ | refine ev_getfield dX5_getOwner_12 lf_5_42 (x2) rfl ?_ | refine ev_getfield dX5_getOwner_12 lf_5_42 (x3) rfl ?_ | refine ev_getfield dX5_getOwner_12 lf_5_42 (x4) rfl ?_ | refine ev_getfield dX5_getOwner_12 lf_5_42 (x5) rfl ?_ | refine ev_getfield dX5_getOwner_12 lf_5_42 (y0) rfl ?_ | refine ev_getfield dX5_getOwner_12 lf_5_42 (y1) rfl ?_ | refine ev_getfield dX5_getOwner_12 lf_5_42 (y2) rfl ?_ | refine ev_getfield dX5_getOwner_12 lf_5_42 (y3) rfl ?_
        refine ev_iload_n dX5_getOwner_15 rfl rfl ?_
        first | refine ev_laloadN dX5_getOwner_16 (x0) (by omega) (by decide) ?_ | refine ev_laloadN dX5_getOwner_16 (x1) (by omega) (by decide) ?_ | refine ev_laloadN dX5_getOwner_16 (x2) (by omega) (by decide) ?_ | refine ev_laloadN dX5_getOwner_16 (x3) (by omega) (by decide) ?_ | refine ev_laloadN dX5_getOwner_16 (x4) (by omega) (by decide) ?_ | refine ev_laloadN dX5_getOwner_16 (x5) (by omega) (by decide) ?_ | refine ev_laloadN dX5_getOwner_16 (y0) (by omega) (by decide) ?_ | refine ev_laloadN dX5_getOwner_16 (y1) (by omega) (by decide) ?_ | refine ev_laloadN dX5_getOwner_16 (y2) (by omega) (by decide) ?_ | refine ev_laloadN dX5_getOwner_16 (y3) (by omega) (by decide) ?_
        rw [(hP k (by omega)).2.2.2.1]
        first | refine ev_callVP1 dX5_getOwner_17 cal_X5_slotOf lk_5_43 ⟨(Nat.le_of_ble_eq_true rfl), (Nat.le_of_ble_eq_true rfl)⟩ rfl (x0) (Nat.le_of_ble_eq_true rfl) (c_slotOf hs2 (kR K k)) ?_ | refine ev_callVP1 dX5_getOwner_17 cal_X5_slotOf lk_5_43 ⟨(Nat.le_of_ble_eq_true rfl), (Nat.le_of_ble_eq_true rfl)⟩ rfl (x1) (Nat.le_of_ble_eq_true rfl) (c_slotOf hs2 (kR K k)) ?_ | refine ev_callVP1 dX5_getOwner_17 cal_X5_slotOf lk_5_43 ⟨(Nat.le_of_ble_eq_true rfl), (Nat.le_of_ble_eq_true rfl)⟩ rfl (x2) (Nat.le_of_ble_eq_true rfl) (c_slotOf hs2 (kR K k)) ?_ | refine ev_callVP1 dX5_getOwner_17 cal_X5_slotOf lk_5_43 ⟨(Nat.le_of_ble_eq_true rfl), (Nat.le_of_ble_eq_true rfl)⟩ rfl (x3) (Nat.le_of_ble_eq_true rfl) (c_slotOf hs2 (kR K k)) ?_ | refine ev_callVP1 dX5_getOwner_17 cal_X5_slotOf lk_5_43 ⟨(Nat.le_of_ble_eq_true rfl), (Nat.le_of_ble_eq_true rfl)⟩ rfl (x4) (Nat.le_of_ble_eq_true rfl) (c_slotOf hs2 (kR K k)) ?_ | refine ev_callVP1 dX5_getOwner_17 cal_X5_slotOf lk_5_43 ⟨(Nat.le_of_ble_eq_true rfl), (Nat.le_of_ble_eq_true rfl)⟩ rfl (x5) (Nat.le_of_ble_eq_true rfl) (c_slotOf hs2 (kR K k)) ?_ | refine ev_callVP1 dX5_getOwner_17 cal_X5_slotOf lk_5_43 ⟨(Nat.le_of_ble_eq_true rfl), (Nat.le_of_ble_eq_true rfl)⟩ rfl (y0) (Nat.le_of_ble_eq_true rfl) (c_slotOf hs2 (kR K k)) ?_ | refine ev_callVP1 dX5_getOwner_17 cal_X5_slotOf lk_5_43 ⟨(Nat.le_of_ble_eq_true rfl), (Nat.le_of_ble_eq_true rfl)⟩ rfl (y1) (Nat.le_of_ble_eq_true rfl) (c_slotOf hs2 (kR K k)) ?_ | refine ev_callVP1 dX5_getOwner_17 cal_X5_slotOf lk_5_43 ⟨(Nat.le_of_ble_eq_true rfl), (Nat.le_of_ble_eq_true rfl)⟩ rfl (y2) (Nat.le_of_ble_eq_true rfl) (c_slotOf hs2 (kR K k)) ?_ | refine ev_callVP1 dX5_getOwner_17 cal_X5_slotOf lk_5_43 ⟨(Nat.le_of_ble_eq_true rfl), (Nat.le_of_ble_eq_true rfl)⟩ rfl (y3) (Nat.le_of_ble_eq_true rfl) (c_slotOf hs2 (kR K k)) ?_
        refine ev_istore_n (L' := [_, _, _, _]) dX5_getOwner_20 rfl (Nat.le_of_ble_eq_true rfl) rfl ?_
        refine ev_iload_n dX5_getOwner_21 rfl rfl ?_
        refine ev_iconst (-1) dX5_getOwner_22 rfl ?_
        refine ev_icmp_ne 43 dX5_getOwner_23 rfl (fun hc23 => ?_) (fun hc23 => ?_)
        · refine ev_pc (pc' := 43) rfl ?_
          have hu : slU (gtN S K k) (kR K k) < 60 := slI_ne hc23
          have hat : sR (gtN S K k) (slU (gtN S K k) (kR K k)) = kR K k := slU_at hu
          have hz : sR (gtN S K k) (slU (gtN S K k) (kR K k)) ≠ 0 := by rw [hat]; exact (hR k (by omega)).1
          rw [slI_y hu]
          have hg : gtN S K (k + 1) = ownS (gtN S K k) (slU (gtN S K k) (kR K k)) := by rw [gtN_s, gt1, if_pos hu]
          generalize slU (gtN S K k) (kR K k) = u at *
          refine ev_iload_n dX5_getOwner_43 rfl rfl ?_
          refine ev_iconst (-1) dX5_getOwner_44 rfl ?_
          refine ev_icmp_eq 58 dX5_getOwner_45 rfl (fun hc45 => ?_) (fun hc45 => ?_)
          · refine ev_pc (pc' := 58) rfl ?_
            exact absurd hc45 (nI_m1 hu)
          · refine ev_pc (pc' := 48) rfl ?_
            refine ev_aload_n dX5_getOwner_48 rfl rfl ?_
            first | refine ev_getfield dX5_getOwner_49 lf_5_19 (x0) rfl ?_ | refine ev_getfield dX5_getOwner_49 lf_5_19 (x1) rfl ?_ | refine ev_getfield dX5_getOwner_49 lf_5_19 (x2) rfl ?_ | refine ev_getfield dX5_getOwner_49 lf_5_19 (x3) rfl ?_ | refine ev_getfield dX5_getOwner_49 lf_5_19 (x4) rfl ?_ | refine ev_getfield dX5_getOwner_49 lf_5_19 (x5) rfl ?_ | refine ev_getfield dX5_getOwner_49 lf_5_19 (y0) rfl ?_ | refine ev_getfield dX5_getOwner_49 lf_5_19 (y1) rfl ?_ | refine ev_getfield dX5_getOwner_49 lf_5_19 (y2) rfl ?_ | refine ev_getfield dX5_getOwner_49 lf_5_19 (y3) rfl ?_
            refine ev_iload_n dX5_getOwner_52 rfl rfl ?_
            refine ev_dup2 dX5_getOwner_53 rfl rfl ?_
            first | refine ev_ialoadF dX5_getOwner_54 (x0) (by omega) (by decide) ?_ | refine ev_ialoadF dX5_getOwner_54 (x1) (by omega) (by decide) ?_ | refine ev_ialoadF dX5_getOwner_54 (x2) (by omega) (by decide) ?_ | refine ev_ialoadF dX5_getOwner_54 (x3) (by omega) (by decide) ?_ | refine ev_ialoadF dX5_getOwner_54 (x4) (by omega) (by decide) ?_ | refine ev_ialoadF dX5_getOwner_54 (x5) (by omega) (by decide) ?_ | refine ev_ialoadF dX5_getOwner_54 (y0) (by omega) (by decide) ?_ | refine ev_ialoadF dX5_getOwner_54 (y1) (by omega) (by decide) ?_ | refine ev_ialoadF dX5_getOwner_54 (y2) (by omega) (by decide) ?_ | refine ev_ialoadF dX5_getOwner_54 (y3) (by omega) (by decide) ?_
            refine ev_iconst (nI 1) dX5_getOwner_55 rfl ?_
            refine ev_iaddN dX5_getOwner_56 ?_
            first | refine ev_iastoreF dX5_getOwner_57 (x0) (by omega) (by decide) ?_ | refine ev_iastoreF dX5_getOwner_57 (x1) (by omega) (by decide) ?_ | refine ev_iastoreF dX5_getOwner_57 (x2) (by omega) (by decide) ?_ | refine ev_iastoreF dX5_getOwner_57 (x3) (by omega) (by decide) ?_ | refine ev_iastoreF dX5_getOwner_57 (x4) (by omega) (by decide) ?_ | refine ev_iastoreF dX5_getOwner_57 (x5) (by omega) (by decide) ?_ | refine ev_iastoreF dX5_getOwner_57 (y0) (by omega) (by decide) ?_ | refine ev_iastoreF dX5_getOwner_57 (y1) (by omega) (by decide) ?_ | refine ev_iastoreF dX5_getOwner_57 (y2) (by omega) (by decide) ?_ | refine ev_iastoreF dX5_getOwner_57 (y3) (by omega) (by decide) ?_
            refine ev_iincN (L' := [_, _, _, _]) 1 dX5_getOwner_58 rfl rfl ?_
            refine ev_goto 2 dX5_getOwner_61 rfl ?_
            refine ev_pc (pc' := 2) rfl ?_
            refine ev_fgt 3 (L' := [_, _, _, _]) rfl ?_
            refine ih _ (by omega) (k + 1) _ rfl (by omega) ?_ (Out.tr ?_ (Out.set (by omega) (by omega)))
            · rw [hg]; exact ⟨rr, ln, _, ⟨(mset_n (by omega)).trans y0, (mset_n (by omega)).trans y1, (mset_n (by omega)).trans y2, mset_s _ _ _⟩, hV.own1 hu hz⟩
            · exact ho
        · refine ev_pc (pc' := 26) rfl ?_
          have hno : ¬ slU (gtN S K k) (kR K k) < 60 := slI_eq hc23
          have hu : slU (gtN S K k) 0 < 60 := (hF k (by omega)).resolve_left hno
          have hg : gtN S K (k + 1) = ownS (putS (gtN S K k) (kR K k)) (slU (gtN S K k) 0) := by rw [gtN_s, gt1, if_neg hno]
          refine ev_aload_n dX5_getOwner_26 rfl rfl ?_
          refine ev_aload_n dX5_getOwner_27 rfl rfl ?_
          first | refine ev_getfield dX5_getOwner_28 lf_5_42 (x0) rfl ?_ | refine ev_getfield dX5_getOwner_28 lf_5_42 (x1) rfl ?_ | refine ev_getfield dX5_getOwner_28 lf_5_42 (x2) rfl ?_ | refine ev_getfield dX5_getOwner_28 lf_5_42 (x3) rfl ?_ | refine ev_getfield dX5_getOwner_28 lf_5_42 (x4) rfl ?_ | refine ev_getfield dX5_getOwner_28 lf_5_42 (x5) rfl ?_ | refine ev_getfield dX5_getOwner_28 lf_5_42 (y0) rfl ?_ | refine ev_getfield dX5_getOwner_28 lf_5_42 (y1) rfl ?_ | refine ev_getfield dX5_getOwner_28 lf_5_42 (y2) rfl ?_ | refine ev_getfield dX5_getOwner_28 lf_5_42 (y3) rfl ?_
          refine ev_iload_n dX5_getOwner_31 rfl rfl ?_
          first | refine ev_laloadN dX5_getOwner_32 (x0) (by omega) (by decide) ?_ | refine ev_laloadN dX5_getOwner_32 (x1) (by omega) (by decide) ?_ | refine ev_laloadN dX5_getOwner_32 (x2) (by omega) (by decide) ?_ | refine ev_laloadN dX5_getOwner_32 (x3) (by omega) (by decide) ?_ | refine ev_laloadN dX5_getOwner_32 (x4) (by omega) (by decide) ?_ | refine ev_laloadN dX5_getOwner_32 (x5) (by omega) (by decide) ?_ | refine ev_laloadN dX5_getOwner_32 (y0) (by omega) (by decide) ?_ | refine ev_laloadN dX5_getOwner_32 (y1) (by omega) (by decide) ?_ | refine ev_laloadN dX5_getOwner_32 (y2) (by omega) (by decide) ?_ | refine ev_laloadN dX5_getOwner_32 (y3) (by omega) (by decide) ?_
          rw [(hP k (by omega)).2.2.2.1]
          refine ev_aload_n dX5_getOwner_33 rfl rfl ?_
          first | refine ev_getfield dX5_getOwner_34 lf_5_47 (x0) rfl ?_ | refine ev_getfield dX5_getOwner_34 lf_5_47 (x1) rfl ?_ | refine ev_getfield dX5_getOwner_34 lf_5_47 (x2) rfl ?_ | refine ev_getfield dX5_getOwner_34 lf_5_47 (x3) rfl ?_ | refine ev_getfield dX5_getOwner_34 lf_5_47 (x4) rfl ?_ | refine ev_getfield dX5_getOwner_34 lf_5_47 (x5) rfl ?_ | refine ev_getfield dX5_getOwner_34 lf_5_47 (y0) rfl ?_ | refine ev_getfield dX5_getOwner_34 lf_5_47 (y1) rfl ?_ | refine ev_getfield dX5_getOwner_34 lf_5_47 (y2) rfl ?_ | refine ev_getfield dX5_getOwner_34 lf_5_47 (y3) rfl ?_
          refine ev_iload_n dX5_getOwner_37 rfl rfl ?_
          first | refine ev_ialoadF dX5_getOwner_38 (x0) (by omega) (by decide) ?_ | refine ev_ialoadF dX5_getOwner_38 (x1) (by omega) (by decide) ?_ | refine ev_ialoadF dX5_getOwner_38 (x2) (by omega) (by decide) ?_ | refine ev_ialoadF dX5_getOwner_38 (x3) (by omega) (by decide) ?_ | refine ev_ialoadF dX5_getOwner_38 (x4) (by omega) (by decide) ?_ | refine ev_ialoadF dX5_getOwner_38 (x5) (by omega) (by decide) ?_ | refine ev_ialoadF dX5_getOwner_38 (y0) (by omega) (by decide) ?_ | refine ev_ialoadF dX5_getOwner_38 (y1) (by omega) (by decide) ?_ | refine ev_ialoadF dX5_getOwner_38 (y2) (by omega) (by decide) ?_ | refine ev_ialoadF dX5_getOwner_38 (y3) (by omega) (by decide) ?_
          rw [(hP k (by omega)).2.1]
          first | refine ev_callVU2 dX5_getOwner_39 cal_X5_takeIn lk_5_48 ⟨(Nat.le_of_ble_eq_true rfl), (Nat.le_of_ble_eq_true rfl)⟩ rfl (x0) (Nat.le_of_ble_eq_true rfl) (c_takeIn hs2 (kR K k) (kQ K k) (hR k (by omega)).2 hu) (fun v h39 hq39 => ?_) | refine ev_callVU2 dX5_getOwner_39 cal_X5_takeIn lk_5_48 ⟨(Nat.le_of_ble_eq_true rfl), (Nat.le_of_ble_eq_true rfl)⟩ rfl (x1) (Nat.le_of_ble_eq_true rfl) (c_takeIn hs2 (kR K k) (kQ K k) (hR k (by omega)).2 hu) (fun v h39 hq39 => ?_) | refine ev_callVU2 dX5_getOwner_39 cal_X5_takeIn lk_5_48 ⟨(Nat.le_of_ble_eq_true rfl), (Nat.le_of_ble_eq_true rfl)⟩ rfl (x2) (Nat.le_of_ble_eq_true rfl) (c_takeIn hs2 (kR K k) (kQ K k) (hR k (by omega)).2 hu) (fun v h39 hq39 => ?_) | refine ev_callVU2 dX5_getOwner_39 cal_X5_takeIn lk_5_48 ⟨(Nat.le_of_ble_eq_true rfl), (Nat.le_of_ble_eq_true rfl)⟩ rfl (x3) (Nat.le_of_ble_eq_true rfl) (c_takeIn hs2 (kR K k) (kQ K k) (hR k (by omega)).2 hu) (fun v h39 hq39 => ?_) | refine ev_callVU2 dX5_getOwner_39 cal_X5_takeIn lk_5_48 ⟨(Nat.le_of_ble_eq_true rfl), (Nat.le_of_ble_eq_true rfl)⟩ rfl (x4) (Nat.le_of_ble_eq_true rfl) (c_takeIn hs2 (kR K k) (kQ K k) (hR k (by omega)).2 hu) (fun v h39 hq39 => ?_) | refine ev_callVU2 dX5_getOwner_39 cal_X5_takeIn lk_5_48 ⟨(Nat.le_of_ble_eq_true rfl), (Nat.le_of_ble_eq_true rfl)⟩ rfl (x5) (Nat.le_of_ble_eq_true rfl) (c_takeIn hs2 (kR K k) (kQ K k) (hR k (by omega)).2 hu) (fun v h39 hq39 => ?_) | refine ev_callVU2 dX5_getOwner_39 cal_X5_takeIn lk_5_48 ⟨(Nat.le_of_ble_eq_true rfl), (Nat.le_of_ble_eq_true rfl)⟩ rfl (y0) (Nat.le_of_ble_eq_true rfl) (c_takeIn hs2 (kR K k) (kQ K k) (hR k (by omega)).2 hu) (fun v h39 hq39 => ?_) | refine ev_callVU2 dX5_getOwner_39 cal_X5_takeIn lk_5_48 ⟨(Nat.le_of_ble_eq_true rfl), (Nat.le_of_ble_eq_true rfl)⟩ rfl (y1) (Nat.le_of_ble_eq_true rfl) (c_takeIn hs2 (kR K k) (kQ K k) (hR k (by omega)).2 hu) (fun v h39 hq39 => ?_) | refine ev_callVU2 dX5_getOwner_39 cal_X5_takeIn lk_5_48 ⟨(Nat.le_of_ble_eq_true rfl), (Nat.le_of_ble_eq_true rfl)⟩ rfl (y2) (Nat.le_of_ble_eq_true rfl) (c_takeIn hs2 (kR K k) (kQ K k) (hR k (by omega)).2 hu) (fun v h39 hq39 => ?_) | refine ev_callVU2 dX5_getOwner_39 cal_X5_takeIn lk_5_48 ⟨(Nat.le_of_ble_eq_true rfl), (Nat.le_of_ble_eq_true rfl)⟩ rfl (y3) (Nat.le_of_ble_eq_true rfl) (c_takeIn hs2 (kR K k) (kQ K k) (hR k (by omega)).2 hu) (fun v h39 hq39 => ?_)
          refine ev_pc (pc' := 42) rfl ?_
          obtain ⟨rfl, hs3, ho3⟩ := hq39
          clear y0 y1 y2 y3 hV
          obtain ⟨rr, ln, ow, ⟨y0, y1, y2, y3⟩, hV⟩ := id hs3
          have hz : sR (putS (gtN S K k) (kR K k)) (slU (gtN S K k) 0) ≠ 0 := by
            show vp_updL _ _ _ _ ≠ 0
            rw [upL_s]; exact (hR k (by omega)).1
          generalize slU (gtN S K k) 0 = u at *
          refine ev_istore_n (L' := [_, _, _, _]) dX5_getOwner_42 rfl (Nat.le_of_ble_eq_true rfl) rfl ?_
          refine ev_iload_n dX5_getOwner_43 rfl rfl ?_
          refine ev_iconst (-1) dX5_getOwner_44 rfl ?_
          refine ev_icmp_eq 58 dX5_getOwner_45 rfl (fun hc45 => ?_) (fun hc45 => ?_)
          · refine ev_pc (pc' := 58) rfl ?_
            exact absurd hc45 (nI_m1 hu)
          · refine ev_pc (pc' := 48) rfl ?_
            refine ev_aload_n dX5_getOwner_48 rfl rfl ?_
            first | refine ev_getfield dX5_getOwner_49 lf_5_19 (y0) rfl ?_ | refine ev_getfield dX5_getOwner_49 lf_5_19 (y1) rfl ?_ | refine ev_getfield dX5_getOwner_49 lf_5_19 (y2) rfl ?_ | refine ev_getfield dX5_getOwner_49 lf_5_19 (y3) rfl ?_
            refine ev_iload_n dX5_getOwner_52 rfl rfl ?_
            refine ev_dup2 dX5_getOwner_53 rfl rfl ?_
            first | refine ev_ialoadF dX5_getOwner_54 (y0) (by omega) (by decide) ?_ | refine ev_ialoadF dX5_getOwner_54 (y1) (by omega) (by decide) ?_ | refine ev_ialoadF dX5_getOwner_54 (y2) (by omega) (by decide) ?_ | refine ev_ialoadF dX5_getOwner_54 (y3) (by omega) (by decide) ?_
            refine ev_iconst (nI 1) dX5_getOwner_55 rfl ?_
            refine ev_iaddN dX5_getOwner_56 ?_
            first | refine ev_iastoreF dX5_getOwner_57 (y0) (by omega) (by decide) ?_ | refine ev_iastoreF dX5_getOwner_57 (y1) (by omega) (by decide) ?_ | refine ev_iastoreF dX5_getOwner_57 (y2) (by omega) (by decide) ?_ | refine ev_iastoreF dX5_getOwner_57 (y3) (by omega) (by decide) ?_
            refine ev_iincN (L' := [_, _, _, _]) 1 dX5_getOwner_58 rfl rfl ?_
            refine ev_goto 2 dX5_getOwner_61 rfl ?_
            refine ev_pc (pc' := 2) rfl ?_
            refine ev_fgt 3 (L' := [_, _, _, _]) rfl ?_
            refine ih _ (by omega) (k + 1) _ rfl (by omega) ?_ (Out.tr ?_ (Out.set (by omega) (by omega)))
            · rw [hg]; exact ⟨rr, ln, _, ⟨(mset_n (by omega)).trans y0, (mset_n (by omega)).trans y1, (mset_n (by omega)).trans y2, mset_s _ _ _⟩, hV.own1 hu hz⟩
            · exact ho.tr ho3
  exact LP2 _ 0 h rfl (Nat.zero_le _) hs Out.rf
def rmS (S : mSo) (K : mCt) (k : Nat) : Bool := isU S k && !(exN (fun p => kR K p == sR S k) (kN K))
theorem rmS_y {S : mSo} {K : mCt} {k : Nat} (h1 : isU S k = true) (h2 : exN (fun p => kR K p == sR S k) (kN K) = false) : rmS S K k = true := by simp [rmS, h1, h2]
theorem rmS_n1 {S : mSo} {K : mCt} {k : Nat} (h1 : isU S k = false) : rmS S K k = false := by simp [rmS, h1]
theorem rmS_n2 {S : mSo} {K : mCt} {k : Nat} (h2 : exN (fun p => kR K p == sR S k) (kN K) = true) : rmS S K k = false := by simp [rmS, h2]
def swN (S : mSo) (K : mCt) (n w : Nat) : mSo := (fun k => if decide (k < n) && rmS S K k then 0 else sR S k, sO S, sC S, w)
theorem swN_0 (S : mSo) (K : mCt) : swN S K 0 (sW S) = S := by
  unfold swN
  simp
theorem swN_ge {S : mSo} {K : mCt} {n w k : Nat} (h : n ≤ k) : sR (swN S K n w) k = sR S k := by
  show (if decide (k < n) && rmS S K k then 0 else sR S k) = _
  rw [decide_eq_false (by omega)]
  rfl
theorem swN_SoB {S : mSo} {K : mCt} {n w : Nat} (h : SoB S) : SoB (swN S K n w) := fun k hk => by
  show (if decide (k < n) && rmS S K k then 0 else sR S k) ≠ 0 → rl (if decide (k < n) && rmS S K k then 0 else sR S k) ≤ 20 ∧ sO S k ≤ 200
  split
  · exact fun z => absurd rfl z
  · exact h k hk
theorem swN_isU {S : mSo} {K : mCt} {n w k : Nat} (h : n ≤ k) : isU (swN S K n w) k = isU S k := by
  show (!(sR (swN S K n w) k == 0) && sO S k == 0) = _
  rw [swN_ge h]
  rfl
theorem StoV.sw_n {S : mSo} {K : mCt} {rr : Nat → Int64} {ln ow : Nat → Nat} {n w : Nat} (v : StoV (swN S K n w) rr ln ow) (h : rmS S K n = false) : StoV (swN S K (n + 1) w) rr ln ow := fun k hk => by
  have e : sR (swN S K (n + 1) w) k = sR (swN S K n w) k := by
    show (if decide (k < n + 1) && rmS S K k then 0 else sR S k) = (if decide (k < n) && rmS S K k then 0 else sR S k)
    by_cases q : k = n
    · rw [q, h, Bool.and_false, Bool.and_false]
    · rw [show decide (k < n + 1) = decide (k < n) from by rw [decide_eq_decide]; omega]
  rw [e]
  exact v k hk
theorem StoV.sw_y {S : mSo} {K : mCt} {rr : Nat → Int64} {ln ow : Nat → Nat} {n w : Nat} (v : StoV (swN S K n w) rr ln ow) (h : rmS S K n = true) : StoV (swN S K (n + 1) w) (vp_updL rr n 0) ln ow := fun k hk => by
  by_cases q : k = n
  · have e : sR (swN S K (n + 1) w) k = 0 := by
      show (if decide (k < n + 1) && rmS S K k then 0 else sR S k) = 0
      rw [q, h, decide_eq_true (by omega)]; rfl
    rw [e]
    refine ⟨by rw [q]; exact upL_s _ _ _, fun z => absurd rfl z⟩
  · have e : sR (swN S K (n + 1) w) k = sR (swN S K n w) k := by
      show (if decide (k < n + 1) && rmS S K k then 0 else sR S k) = (if decide (k < n) && rmS S K k then 0 else sR S k)
      rw [show decide (k < n + 1) = decide (k < n) from by rw [decide_eq_decide]; omega]
    rw [e, upL_n q]
    exact v k hk
set_option maxHeartbeats 4000000 in
set_option maxRecDepth 100000 in
theorem c_removeUnownedBut {X : mX} {h : mH} {c d : Nat} {S : mSo} {K : mCt} (hs : StoreN h d S) (hc : CutN h c K) (hdj : c + 6 ≤ d ∨ d + 4 ≤ c) (hB : SoB S) : CnU X m_X5_removeUnownedBut [.ref d, .ref c] h (fun v h1 => v = some (.int (nI (ctN (rmS S K) 60))) ∧ StoreN h1 d (swN S K 60 (sW S + ctN (rmS S K) 60)) ∧ Out h h1 d 4) := by
  refine cn_of_ev (L0 := [_, _, _, _]) (by decide +kernel) rfl rfl (Nat.le_of_ble_eq_true rfl) rfl ?_
  refine ev_iconst (nI 0) dX5_removeUnownedBut_0 rfl ?_
  refine ev_istore_n (L' := [_, _, _, _]) dX5_removeUnownedBut_1 rfl (Nat.le_of_ble_eq_true rfl) rfl ?_
  refine ev_iconst (nI 0) dX5_removeUnownedBut_2 rfl ?_
  refine ev_istore_n (L' := [_, _, _, _]) dX5_removeUnownedBut_3 rfl (Nat.le_of_ble_eq_true rfl) rfl ?_
  refine ev_pc (pc' := 4) rfl ?_
  have LP4 : ∀ (n : Nat) (k : Nat) (h2 : mH), 60 - k = n → (k ≤ 60) → (StoreN h2 d (swN S K k (sW S))) → (Out h h2 d 4) → Ev X m_X5_removeUnownedBut B0 4 [.ref d, .ref c, .int (nI (ctN (rmS S K) k)), .int (nI k)] [] h2 (fun o h1 => ∃ v, o = .inl v ∧ (v = some (.int (nI (ctN (rmS S K) 60))) ∧ StoreN h1 d (swN S K 60 (sW S + ctN (rmS S K) 60)) ∧ Out h h1 d 4)) := by
    intro n
    induction n using Nat.strongRecOn with
    | _ n ih =>
      intro k h2 hn hk hs2 ho
      have hc2 := hc.go ho (by omega)
      obtain ⟨rr, ln, ow, ⟨y0, y1, y2, y3⟩, hV⟩ := id hs2
      obtain ⟨sg, st, le, fo, rk, ⟨x0, x1, x2, x3, x4, x5⟩, hL, hN, hS, hP⟩ := id hc2
      clear hc
      refine ev_iload_n dX5_removeUnownedBut_4 rfl rfl ?_
      refine ev_bipush (nI 60) dX5_removeUnownedBut_5 rfl ?_
      refine ev_icmp_geN 47 dX5_removeUnownedBut_7 rfl (by omega) (by omega) (fun hc7 => ?_) (fun hc7 => ?_)
      · refine ev_aload_n dX5_removeUnownedBut_47 rfl rfl ?_
        refine ev_dup dX5_removeUnownedBut_48 rfl ?_
        first | refine ev_getfield dX5_removeUnownedBut_49 lf_5_26 (x0) rfl ?_ | refine ev_getfield dX5_removeUnownedBut_49 lf_5_26 (x1) rfl ?_ | refine ev_getfield dX5_removeUnownedBut_49 lf_5_26 (x2) rfl ?_ | refine ev_getfield dX5_removeUnownedBut_49 lf_5_26 (x3) rfl ?_ | refine ev_getfield dX5_removeUnownedBut_49 lf_5_26 (x4) rfl ?_ | refine ev_getfield dX5_removeUnownedBut_49 lf_5_26 (x5) rfl ?_ | refine ev_getfield dX5_removeUnownedBut_49 lf_5_26 (y0) rfl ?_ | refine ev_getfield dX5_removeUnownedBut_49 lf_5_26 (y1) rfl ?_ | refine ev_getfield dX5_removeUnownedBut_49 lf_5_26 (y2) rfl ?_ | refine ev_getfield dX5_removeUnownedBut_49 lf_5_26 (y3) rfl ?_
        refine ev_iload_n dX5_removeUnownedBut_52 rfl rfl ?_
        refine ev_iaddN dX5_removeUnownedBut_53 ?_
        first | refine ev_putfield (fs' := [_, _, _, _, _]) dX5_removeUnownedBut_54 lf_5_26 rfl (x0) (Nat.le_of_ble_eq_true rfl) rfl rfl rfl ?_ | refine ev_putfield (fs' := [_, _, _, _, _]) dX5_removeUnownedBut_54 lf_5_26 rfl (x1) (Nat.le_of_ble_eq_true rfl) rfl rfl rfl ?_ | refine ev_putfield (fs' := [_, _, _, _, _]) dX5_removeUnownedBut_54 lf_5_26 rfl (x2) (Nat.le_of_ble_eq_true rfl) rfl rfl rfl ?_ | refine ev_putfield (fs' := [_, _, _, _, _]) dX5_removeUnownedBut_54 lf_5_26 rfl (x3) (Nat.le_of_ble_eq_true rfl) rfl rfl rfl ?_ | refine ev_putfield (fs' := [_, _, _, _, _]) dX5_removeUnownedBut_54 lf_5_26 rfl (x4) (Nat.le_of_ble_eq_true rfl) rfl rfl rfl ?_ | refine ev_putfield (fs' := [_, _, _, _, _]) dX5_removeUnownedBut_54 lf_5_26 rfl (x5) (Nat.le_of_ble_eq_true rfl) rfl rfl rfl ?_ | refine ev_putfield (fs' := [_, _, _, _, _]) dX5_removeUnownedBut_54 lf_5_26 rfl (y0) (Nat.le_of_ble_eq_true rfl) rfl rfl rfl ?_ | refine ev_putfield (fs' := [_, _, _, _, _]) dX5_removeUnownedBut_54 lf_5_26 rfl (y1) (Nat.le_of_ble_eq_true rfl) rfl rfl rfl ?_ | refine ev_putfield (fs' := [_, _, _, _, _]) dX5_removeUnownedBut_54 lf_5_26 rfl (y2) (Nat.le_of_ble_eq_true rfl) rfl rfl rfl ?_ | refine ev_putfield (fs' := [_, _, _, _, _]) dX5_removeUnownedBut_54 lf_5_26 rfl (y3) (Nat.le_of_ble_eq_true rfl) rfl rfl rfl ?_
        refine ev_iload_n dX5_removeUnownedBut_57 rfl rfl ?_
        refine ev_ireturn dX5_removeUnownedBut_58 rfl (Or.inl rfl) (Nat.zero_le _) (Nat.zero_le _) ?_
        have e60 : k = 60 := by omega
        subst e60
        exact ⟨_, rfl, rfl, ⟨rr, ln, ow, ⟨mset_s _ _ _, (mset_n (by omega)).trans y1, (mset_n (by omega)).trans y2, (mset_n (by omega)).trans y3⟩, hV⟩, ho.tr (Out.set (by omega) (by omega))⟩
      · refine ev_aload_n dX5_removeUnownedBut_10 rfl rfl ?_
        refine ev_iload_n dX5_removeUnownedBut_11 rfl rfl ?_
        first | refine ev_callVP1 dX5_removeUnownedBut_12 cal_X5_isUnowned lk_5_52 ⟨(Nat.le_of_ble_eq_true rfl), (Nat.le_of_ble_eq_true rfl)⟩ rfl (x0) (Nat.le_of_ble_eq_true rfl) ((show CnP X m_X5_isUnowned [.ref d, .int (nI k)] h2 (some (.int (bI (isU S k)))) from by have := c_isUnowned (X := X) hs2 (swN_SoB hB) k (by omega); rwa [swN_isU (Nat.le_refl _)] at this)) ?_ | refine ev_callVP1 dX5_removeUnownedBut_12 cal_X5_isUnowned lk_5_52 ⟨(Nat.le_of_ble_eq_true rfl), (Nat.le_of_ble_eq_true rfl)⟩ rfl (x1) (Nat.le_of_ble_eq_true rfl) ((show CnP X m_X5_isUnowned [.ref d, .int (nI k)] h2 (some (.int (bI (isU S k)))) from by have := c_isUnowned (X := X) hs2 (swN_SoB hB) k (by omega); rwa [swN_isU (Nat.le_refl _)] at this)) ?_ | refine ev_callVP1 dX5_removeUnownedBut_12 cal_X5_isUnowned lk_5_52 ⟨(Nat.le_of_ble_eq_true rfl), (Nat.le_of_ble_eq_true rfl)⟩ rfl (x2) (Nat.le_of_ble_eq_true rfl) ((show CnP X m_X5_isUnowned [.ref d, .int (nI k)] h2 (some (.int (bI (isU S k)))) from by have := c_isUnowned (X := X) hs2 (swN_SoB hB) k (by omega); rwa [swN_isU (Nat.le_refl _)] at this)) ?_ | refine ev_callVP1 dX5_removeUnownedBut_12 cal_X5_isUnowned lk_5_52 ⟨(Nat.le_of_ble_eq_true rfl), (Nat.le_of_ble_eq_true rfl)⟩ rfl (x3) (Nat.le_of_ble_eq_true rfl) ((show CnP X m_X5_isUnowned [.ref d, .int (nI k)] h2 (some (.int (bI (isU S k)))) from by have := c_isUnowned (X := X) hs2 (swN_SoB hB) k (by omega); rwa [swN_isU (Nat.le_refl _)] at this)) ?_ | refine ev_callVP1 dX5_removeUnownedBut_12 cal_X5_isUnowned lk_5_52 ⟨(Nat.le_of_ble_eq_true rfl), (Nat.le_of_ble_eq_true rfl)⟩ rfl (x4) (Nat.le_of_ble_eq_true rfl) ((show CnP X m_X5_isUnowned [.ref d, .int (nI k)] h2 (some (.int (bI (isU S k)))) from by have := c_isUnowned (X := X) hs2 (swN_SoB hB) k (by omega); rwa [swN_isU (Nat.le_refl _)] at this)) ?_ | refine ev_callVP1 dX5_removeUnownedBut_12 cal_X5_isUnowned lk_5_52 ⟨(Nat.le_of_ble_eq_true rfl), (Nat.le_of_ble_eq_true rfl)⟩ rfl (x5) (Nat.le_of_ble_eq_true rfl) ((show CnP X m_X5_isUnowned [.ref d, .int (nI k)] h2 (some (.int (bI (isU S k)))) from by have := c_isUnowned (X := X) hs2 (swN_SoB hB) k (by omega); rwa [swN_isU (Nat.le_refl _)] at this)) ?_ | refine ev_callVP1 dX5_removeUnownedBut_12 cal_X5_isUnowned lk_5_52 ⟨(Nat.le_of_ble_eq_true rfl), (Nat.le_of_ble_eq_true rfl)⟩ rfl (y0) (Nat.le_of_ble_eq_true rfl) ((show CnP X m_X5_isUnowned [.ref d, .int (nI k)] h2 (some (.int (bI (isU S k)))) from by have := c_isUnowned (X := X) hs2 (swN_SoB hB) k (by omega); rwa [swN_isU (Nat.le_refl _)] at this)) ?_ | refine ev_callVP1 dX5_removeUnownedBut_12 cal_X5_isUnowned lk_5_52 ⟨(Nat.le_of_ble_eq_true rfl), (Nat.le_of_ble_eq_true rfl)⟩ rfl (y1) (Nat.le_of_ble_eq_true rfl) ((show CnP X m_X5_isUnowned [.ref d, .int (nI k)] h2 (some (.int (bI (isU S k)))) from by have := c_isUnowned (X := X) hs2 (swN_SoB hB) k (by omega); rwa [swN_isU (Nat.le_refl _)] at this)) ?_ | refine ev_callVP1 dX5_removeUnownedBut_12 cal_X5_isUnowned lk_5_52 ⟨(Nat.le_of_ble_eq_true rfl), (Nat.le_of_ble_eq_true rfl)⟩ rfl (y2) (Nat.le_of_ble_eq_true rfl) ((show CnP X m_X5_isUnowned [.ref d, .int (nI k)] h2 (some (.int (bI (isU S k)))) from by have := c_isUnowned (X := X) hs2 (swN_SoB hB) k (by omega); rwa [swN_isU (Nat.le_refl _)] at this)) ?_ | refine ev_callVP1 dX5_removeUnownedBut_12 cal_X5_isUnowned lk_5_52 ⟨(Nat.le_of_ble_eq_true rfl), (Nat.le_of_ble_eq_true rfl)⟩ rfl (y3) (Nat.le_of_ble_eq_true rfl) ((show CnP X m_X5_isUnowned [.ref d, .int (nI k)] h2 (some (.int (bI (isU S k)))) from by have := c_isUnowned (X := X) hs2 (swN_SoB hB) k (by omega); rwa [swN_isU (Nat.le_refl _)] at this)) ?_
        refine ev_if_eqB 41 dX5_removeUnownedBut_15 rfl (fun hc15 => ?_) (fun hc15 => ?_)
        · refine ev_pc (pc' := 41) rfl ?_
          first
            | (have e := rmS_y (S := S) (K := K) (k := k) hc15 hc28; rw [show ctN (rmS S K) k + 1 = ctN (rmS S K) (k + 1) from (ctN_y e).symm]; refine ev_iincN (L' := [_, _, _, _]) 1 dX5_removeUnownedBut_41 rfl rfl ?_; refine ev_goto 4 dX5_removeUnownedBut_44 rfl ?_; exact ih _ (by omega) (k + 1) _ rfl (by omega) ⟨_, ln, ow, ⟨(mset_n (by omega)).trans y0, mset_s _ _ _, (mset_n (by omega)).trans y2, (mset_n (by omega)).trans y3⟩, hV.sw_y e⟩ (ho.tr (Out.set (by omega) (by omega))))
            | (have e := rmS_n1 (S := S) (K := K) (k := k) hc15; rw [show ctN (rmS S K) k = ctN (rmS S K) (k + 1) from (ctN_n e).symm]; refine ev_iincN (L' := [_, _, _, _]) 1 dX5_removeUnownedBut_41 rfl rfl ?_; refine ev_goto 4 dX5_removeUnownedBut_44 rfl ?_; exact ih _ (by omega) (k + 1) _ rfl (by omega) ⟨_, ln, ow, ⟨y0, y1, y2, y3⟩, hV.sw_n e⟩ ho)
            | (have e := rmS_n2 (S := S) (K := K) (k := k) hc28; rw [show ctN (rmS S K) k = ctN (rmS S K) (k + 1) from (ctN_n e).symm]; refine ev_iincN (L' := [_, _, _, _]) 1 dX5_removeUnownedBut_41 rfl rfl ?_; refine ev_goto 4 dX5_removeUnownedBut_44 rfl ?_; exact ih _ (by omega) (k + 1) _ rfl (by omega) ⟨_, ln, ow, ⟨y0, y1, y2, y3⟩, hV.sw_n e⟩ ho)
        · refine ev_aload_n dX5_removeUnownedBut_18 rfl rfl ?_
          refine ev_aload_n dX5_removeUnownedBut_19 rfl rfl ?_
          first | refine ev_getfield dX5_removeUnownedBut_20 lf_5_9 (x0) rfl ?_ | refine ev_getfield dX5_removeUnownedBut_20 lf_5_9 (x1) rfl ?_ | refine ev_getfield dX5_removeUnownedBut_20 lf_5_9 (x2) rfl ?_ | refine ev_getfield dX5_removeUnownedBut_20 lf_5_9 (x3) rfl ?_ | refine ev_getfield dX5_removeUnownedBut_20 lf_5_9 (x4) rfl ?_ | refine ev_getfield dX5_removeUnownedBut_20 lf_5_9 (x5) rfl ?_ | refine ev_getfield dX5_removeUnownedBut_20 lf_5_9 (y0) rfl ?_ | refine ev_getfield dX5_removeUnownedBut_20 lf_5_9 (y1) rfl ?_ | refine ev_getfield dX5_removeUnownedBut_20 lf_5_9 (y2) rfl ?_ | refine ev_getfield dX5_removeUnownedBut_20 lf_5_9 (y3) rfl ?_
          refine ev_iload_n dX5_removeUnownedBut_23 rfl rfl ?_
          first | refine ev_laloadN dX5_removeUnownedBut_24 (x0) (by omega) (by decide) ?_ | refine ev_laloadN dX5_removeUnownedBut_24 (x1) (by omega) (by decide) ?_ | refine ev_laloadN dX5_removeUnownedBut_24 (x2) (by omega) (by decide) ?_ | refine ev_laloadN dX5_removeUnownedBut_24 (x3) (by omega) (by decide) ?_ | refine ev_laloadN dX5_removeUnownedBut_24 (x4) (by omega) (by decide) ?_ | refine ev_laloadN dX5_removeUnownedBut_24 (x5) (by omega) (by decide) ?_ | refine ev_laloadN dX5_removeUnownedBut_24 (y0) (by omega) (by decide) ?_ | refine ev_laloadN dX5_removeUnownedBut_24 (y1) (by omega) (by decide) ?_ | refine ev_laloadN dX5_removeUnownedBut_24 (y2) (by omega) (by decide) ?_ | refine ev_laloadN dX5_removeUnownedBut_24 (y3) (by omega) (by decide) ?_
          rw [show rr k = sR S k from ((hV k (by omega)).1).trans (swN_ge (Nat.le_refl _))]
          first | refine ev_callVP1 dX5_removeUnownedBut_25 cal_X1_has lk_5_56 ⟨(Nat.le_of_ble_eq_true rfl), (Nat.le_of_ble_eq_true rfl)⟩ rfl (x0) (Nat.le_of_ble_eq_true rfl) (c_has hc2 _) ?_ | refine ev_callVP1 dX5_removeUnownedBut_25 cal_X1_has lk_5_56 ⟨(Nat.le_of_ble_eq_true rfl), (Nat.le_of_ble_eq_true rfl)⟩ rfl (x1) (Nat.le_of_ble_eq_true rfl) (c_has hc2 _) ?_ | refine ev_callVP1 dX5_removeUnownedBut_25 cal_X1_has lk_5_56 ⟨(Nat.le_of_ble_eq_true rfl), (Nat.le_of_ble_eq_true rfl)⟩ rfl (x2) (Nat.le_of_ble_eq_true rfl) (c_has hc2 _) ?_ | refine ev_callVP1 dX5_removeUnownedBut_25 cal_X1_has lk_5_56 ⟨(Nat.le_of_ble_eq_true rfl), (Nat.le_of_ble_eq_true rfl)⟩ rfl (x3) (Nat.le_of_ble_eq_true rfl) (c_has hc2 _) ?_ | refine ev_callVP1 dX5_removeUnownedBut_25 cal_X1_has lk_5_56 ⟨(Nat.le_of_ble_eq_true rfl), (Nat.le_of_ble_eq_true rfl)⟩ rfl (x4) (Nat.le_of_ble_eq_true rfl) (c_has hc2 _) ?_ | refine ev_callVP1 dX5_removeUnownedBut_25 cal_X1_has lk_5_56 ⟨(Nat.le_of_ble_eq_true rfl), (Nat.le_of_ble_eq_true rfl)⟩ rfl (x5) (Nat.le_of_ble_eq_true rfl) (c_has hc2 _) ?_ | refine ev_callVP1 dX5_removeUnownedBut_25 cal_X1_has lk_5_56 ⟨(Nat.le_of_ble_eq_true rfl), (Nat.le_of_ble_eq_true rfl)⟩ rfl (y0) (Nat.le_of_ble_eq_true rfl) (c_has hc2 _) ?_ | refine ev_callVP1 dX5_removeUnownedBut_25 cal_X1_has lk_5_56 ⟨(Nat.le_of_ble_eq_true rfl), (Nat.le_of_ble_eq_true rfl)⟩ rfl (y1) (Nat.le_of_ble_eq_true rfl) (c_has hc2 _) ?_ | refine ev_callVP1 dX5_removeUnownedBut_25 cal_X1_has lk_5_56 ⟨(Nat.le_of_ble_eq_true rfl), (Nat.le_of_ble_eq_true rfl)⟩ rfl (y2) (Nat.le_of_ble_eq_true rfl) (c_has hc2 _) ?_ | refine ev_callVP1 dX5_removeUnownedBut_25 cal_X1_has lk_5_56 ⟨(Nat.le_of_ble_eq_true rfl), (Nat.le_of_ble_eq_true rfl)⟩ rfl (y3) (Nat.le_of_ble_eq_true rfl) (c_has hc2 _) ?_
          refine ev_if_neB 41 dX5_removeUnownedBut_28 rfl (fun hc28 => ?_) (fun hc28 => ?_)
          · refine ev_pc (pc' := 41) rfl ?_
            first
              | (have e := rmS_y (S := S) (K := K) (k := k) hc15 hc28; rw [show ctN (rmS S K) k + 1 = ctN (rmS S K) (k + 1) from (ctN_y e).symm]; refine ev_iincN (L' := [_, _, _, _]) 1 dX5_removeUnownedBut_41 rfl rfl ?_; refine ev_goto 4 dX5_removeUnownedBut_44 rfl ?_; exact ih _ (by omega) (k + 1) _ rfl (by omega) ⟨_, ln, ow, ⟨(mset_n (by omega)).trans y0, mset_s _ _ _, (mset_n (by omega)).trans y2, (mset_n (by omega)).trans y3⟩, hV.sw_y e⟩ (ho.tr (Out.set (by omega) (by omega))))
              | (have e := rmS_n1 (S := S) (K := K) (k := k) hc15; rw [show ctN (rmS S K) k = ctN (rmS S K) (k + 1) from (ctN_n e).symm]; refine ev_iincN (L' := [_, _, _, _]) 1 dX5_removeUnownedBut_41 rfl rfl ?_; refine ev_goto 4 dX5_removeUnownedBut_44 rfl ?_; exact ih _ (by omega) (k + 1) _ rfl (by omega) ⟨_, ln, ow, ⟨y0, y1, y2, y3⟩, hV.sw_n e⟩ ho)
              | (have e := rmS_n2 (S := S) (K := K) (k := k) hc28; rw [show ctN (rmS S K) k = ctN (rmS S K) (k + 1) from (ctN_n e).symm]; refine ev_iincN (L' := [_, _, _, _]) 1 dX5_removeUnownedBut_41 rfl rfl ?_; refine ev_goto 4 dX5_removeUnownedBut_44 rfl ?_; exact ih _ (by omega) (k + 1) _ rfl (by omega) ⟨_, ln, ow, ⟨y0, y1, y2, y3⟩, hV.sw_n e⟩ ho)
          · refine ev_aload_n dX5_removeUnownedBut_31 rfl rfl ?_
            first | refine ev_getfield dX5_removeUnownedBut_32 lf_5_9 (x0) rfl ?_ | refine ev_getfield dX5_removeUnownedBut_32 lf_5_9 (x1) rfl ?_ | refine ev_getfield dX5_removeUnownedBut_32 lf_5_9 (x2) rfl ?_ | refine ev_getfield dX5_removeUnownedBut_32 lf_5_9 (x3) rfl ?_ | refine ev_getfield dX5_removeUnownedBut_32 lf_5_9 (x4) rfl ?_ | refine ev_getfield dX5_removeUnownedBut_32 lf_5_9 (x5) rfl ?_ | refine ev_getfield dX5_removeUnownedBut_32 lf_5_9 (y0) rfl ?_ | refine ev_getfield dX5_removeUnownedBut_32 lf_5_9 (y1) rfl ?_ | refine ev_getfield dX5_removeUnownedBut_32 lf_5_9 (y2) rfl ?_ | refine ev_getfield dX5_removeUnownedBut_32 lf_5_9 (y3) rfl ?_
            refine ev_iload_n dX5_removeUnownedBut_35 rfl rfl ?_
            refine ev_lconst (lN 0) dX5_removeUnownedBut_36 rfl ?_
            first | refine ev_lastoreN dX5_removeUnownedBut_37 (x0) (by omega) (by decide) ?_ | refine ev_lastoreN dX5_removeUnownedBut_37 (x1) (by omega) (by decide) ?_ | refine ev_lastoreN dX5_removeUnownedBut_37 (x2) (by omega) (by decide) ?_ | refine ev_lastoreN dX5_removeUnownedBut_37 (x3) (by omega) (by decide) ?_ | refine ev_lastoreN dX5_removeUnownedBut_37 (x4) (by omega) (by decide) ?_ | refine ev_lastoreN dX5_removeUnownedBut_37 (x5) (by omega) (by decide) ?_ | refine ev_lastoreN dX5_removeUnownedBut_37 (y0) (by omega) (by decide) ?_ | refine ev_lastoreN dX5_removeUnownedBut_37 (y1) (by omega) (by decide) ?_ | refine ev_lastoreN dX5_removeUnownedBut_37 (y2) (by omega) (by decide) ?_ | refine ev_lastoreN dX5_removeUnownedBut_37 (y3) (by omega) (by decide) ?_
            refine ev_iincN (L' := [_, _, _, _]) 1 dX5_removeUnownedBut_38 rfl rfl ?_
            refine ev_pc (pc' := 41) rfl ?_
            first
              | (have e := rmS_y (S := S) (K := K) (k := k) hc15 hc28; rw [show ctN (rmS S K) k + 1 = ctN (rmS S K) (k + 1) from (ctN_y e).symm]; refine ev_iincN (L' := [_, _, _, _]) 1 dX5_removeUnownedBut_41 rfl rfl ?_; refine ev_goto 4 dX5_removeUnownedBut_44 rfl ?_; exact ih _ (by omega) (k + 1) _ rfl (by omega) ⟨_, ln, ow, ⟨(mset_n (by omega)).trans y0, mset_s _ _ _, (mset_n (by omega)).trans y2, (mset_n (by omega)).trans y3⟩, hV.sw_y e⟩ (ho.tr (Out.set (by omega) (by omega))))
              | (have e := rmS_n1 (S := S) (K := K) (k := k) hc15; rw [show ctN (rmS S K) k = ctN (rmS S K) (k + 1) from (ctN_n e).symm]; refine ev_iincN (L' := [_, _, _, _]) 1 dX5_removeUnownedBut_41 rfl rfl ?_; refine ev_goto 4 dX5_removeUnownedBut_44 rfl ?_; exact ih _ (by omega) (k + 1) _ rfl (by omega) ⟨_, ln, ow, ⟨y0, y1, y2, y3⟩, hV.sw_n e⟩ ho)
              | (have e := rmS_n2 (S := S) (K := K) (k := k) hc28; rw [show ctN (rmS S K) k = ctN (rmS S K) (k + 1) from (ctN_n e).symm]; refine ev_iincN (L' := [_, _, _, _]) 1 dX5_removeUnownedBut_41 rfl rfl ?_; refine ev_goto 4 dX5_removeUnownedBut_44 rfl ?_; exact ih _ (by omega) (k + 1) _ rfl (by omega) ⟨_, ln, ow, ⟨y0, y1, y2, y3⟩, hV.sw_n e⟩ ho)
  exact LP4 _ 0 h rfl (Nat.zero_le _) (by rw [swN_0]; exact hs) Out.rf
set_option maxHeartbeats 4000000 in
set_option maxRecDepth 100000 in
theorem c_Store_become {X : mX} {h : mH} {c d : Nat} {S S0 : mSo} (hs : StoreN h c S) (hs0 : StoreN h d S0) (hdj : c + 4 ≤ d ∨ d + 4 ≤ c) : CnU X m_X5_become [.ref d, .ref c] h (fun v h1 => v = none ∧ StoreN h1 d S ∧ Out h h1 d 4) := by
  obtain ⟨rr, ln, ow, ⟨y0, y1, y2, y3⟩, hV⟩ := id hs
  obtain ⟨rrz, lnz, owz, ⟨z0, z1, z2, z3⟩, hVz⟩ := id hs0
  refine cn_of_ev (L0 := [_, _]) (by decide +kernel) rfl rfl (Nat.le_of_ble_eq_true rfl) rfl ?_
  refine ev_aload_n dX5_become_0 rfl rfl ?_
  first | refine ev_getfield dX5_become_1 lf_5_9 (z0) rfl ?_ | refine ev_getfield dX5_become_1 lf_5_9 (y0) rfl ?_
  refine ev_iconst (nI 0) dX5_become_4 rfl ?_
  refine ev_aload_n dX5_become_5 rfl rfl ?_
  first | refine ev_getfield dX5_become_6 lf_5_9 (z0) rfl ?_ | refine ev_getfield dX5_become_6 lf_5_9 (y0) rfl ?_
  refine ev_iconst (nI 0) dX5_become_9 rfl ?_
  refine ev_bipush (nI 60) dX5_become_10 rfl ?_
  refine ev_copyL0 dX5_become_12 lk_5_29 w_an w_as w_ai (by omega) (y1) (z1) rfl (by decide) (Nat.le_of_ble_eq_true rfl) (Nat.le_of_ble_eq_true rfl) ?_
  refine ev_aload_n dX5_become_15 rfl rfl ?_
  first | refine ev_getfield dX5_become_16 lf_5_15 (mset_s _ _ _) rfl ?_ | refine ev_getfield dX5_become_16 lf_5_15 ((mset_n (by omega)).trans (z0)) rfl ?_ | refine ev_getfield dX5_become_16 lf_5_15 ((mset_n (by omega)).trans (y0)) rfl ?_
  refine ev_iconst (nI 0) dX5_become_19 rfl ?_
  refine ev_aload_n dX5_become_20 rfl rfl ?_
  first | refine ev_getfield dX5_become_21 lf_5_15 (mset_s _ _ _) rfl ?_ | refine ev_getfield dX5_become_21 lf_5_15 ((mset_n (by omega)).trans (z0)) rfl ?_ | refine ev_getfield dX5_become_21 lf_5_15 ((mset_n (by omega)).trans (y0)) rfl ?_
  refine ev_iconst (nI 0) dX5_become_24 rfl ?_
  refine ev_bipush (nI 60) dX5_become_25 rfl ?_
  refine ev_copyI0 dX5_become_27 lk_5_29 w_an w_as w_ai (by omega) ((mset_n (by omega)).trans (y2)) ((mset_n (by omega)).trans (z2)) rfl (by decide) (Nat.le_of_ble_eq_true rfl) (Nat.le_of_ble_eq_true rfl) ?_
  refine ev_aload_n dX5_become_30 rfl rfl ?_
  first | refine ev_getfield dX5_become_31 lf_5_19 (mset_s _ _ _) rfl ?_ | refine ev_getfield dX5_become_31 lf_5_19 ((mset_n (by omega)).trans (mset_s _ _ _)) rfl ?_ | refine ev_getfield dX5_become_31 lf_5_19 ((mset_n (by omega)).trans ((mset_n (by omega)).trans (z0))) rfl ?_ | refine ev_getfield dX5_become_31 lf_5_19 ((mset_n (by omega)).trans ((mset_n (by omega)).trans (y0))) rfl ?_
  refine ev_iconst (nI 0) dX5_become_34 rfl ?_
  refine ev_aload_n dX5_become_35 rfl rfl ?_
  first | refine ev_getfield dX5_become_36 lf_5_19 (mset_s _ _ _) rfl ?_ | refine ev_getfield dX5_become_36 lf_5_19 ((mset_n (by omega)).trans (mset_s _ _ _)) rfl ?_ | refine ev_getfield dX5_become_36 lf_5_19 ((mset_n (by omega)).trans ((mset_n (by omega)).trans (z0))) rfl ?_ | refine ev_getfield dX5_become_36 lf_5_19 ((mset_n (by omega)).trans ((mset_n (by omega)).trans (y0))) rfl ?_
  refine ev_iconst (nI 0) dX5_become_39 rfl ?_
  refine ev_bipush (nI 60) dX5_become_40 rfl ?_
  refine ev_copyI0 dX5_become_42 lk_5_29 w_an w_as w_ai (by omega) ((mset_n (by omega)).trans ((mset_n (by omega)).trans (y3))) ((mset_n (by omega)).trans ((mset_n (by omega)).trans (z3))) rfl (by decide) (Nat.le_of_ble_eq_true rfl) (Nat.le_of_ble_eq_true rfl) ?_
  refine ev_aload_n dX5_become_45 rfl rfl ?_
  refine ev_aload_n dX5_become_46 rfl rfl ?_
  first | refine ev_getfield dX5_become_47 lf_5_22 (mset_s _ _ _) rfl ?_ | refine ev_getfield dX5_become_47 lf_5_22 ((mset_n (by omega)).trans (mset_s _ _ _)) rfl ?_ | refine ev_getfield dX5_become_47 lf_5_22 ((mset_n (by omega)).trans ((mset_n (by omega)).trans (mset_s _ _ _))) rfl ?_ | refine ev_getfield dX5_become_47 lf_5_22 ((mset_n (by omega)).trans ((mset_n (by omega)).trans ((mset_n (by omega)).trans (z0)))) rfl ?_ | refine ev_getfield dX5_become_47 lf_5_22 ((mset_n (by omega)).trans ((mset_n (by omega)).trans ((mset_n (by omega)).trans (y0)))) rfl ?_
  first | refine ev_putfield (fs' := [_, _, _, _, _]) dX5_become_50 lf_5_22 rfl (mset_s _ _ _) (Nat.le_of_ble_eq_true rfl) rfl rfl rfl ?_ | refine ev_putfield (fs' := [_, _, _, _, _]) dX5_become_50 lf_5_22 rfl ((mset_n (by omega)).trans (mset_s _ _ _)) (Nat.le_of_ble_eq_true rfl) rfl rfl rfl ?_ | refine ev_putfield (fs' := [_, _, _, _, _]) dX5_become_50 lf_5_22 rfl ((mset_n (by omega)).trans ((mset_n (by omega)).trans (mset_s _ _ _))) (Nat.le_of_ble_eq_true rfl) rfl rfl rfl ?_ | refine ev_putfield (fs' := [_, _, _, _, _]) dX5_become_50 lf_5_22 rfl ((mset_n (by omega)).trans ((mset_n (by omega)).trans ((mset_n (by omega)).trans (z0)))) (Nat.le_of_ble_eq_true rfl) rfl rfl rfl ?_ | refine ev_putfield (fs' := [_, _, _, _, _]) dX5_become_50 lf_5_22 rfl ((mset_n (by omega)).trans ((mset_n (by omega)).trans ((mset_n (by omega)).trans (y0)))) (Nat.le_of_ble_eq_true rfl) rfl rfl rfl ?_
  refine ev_aload_n dX5_become_53 rfl rfl ?_
  refine ev_aload_n dX5_become_54 rfl rfl ?_
  first | refine ev_getfield dX5_become_55 lf_5_26 (mset_s _ _ _) rfl ?_ | refine ev_getfield dX5_become_55 lf_5_26 ((mset_n (by omega)).trans (mset_s _ _ _)) rfl ?_ | refine ev_getfield dX5_become_55 lf_5_26 ((mset_n (by omega)).trans ((mset_n (by omega)).trans (mset_s _ _ _))) rfl ?_ | refine ev_getfield dX5_become_55 lf_5_26 ((mset_n (by omega)).trans ((mset_n (by omega)).trans ((mset_n (by omega)).trans (mset_s _ _ _)))) rfl ?_ | refine ev_getfield dX5_become_55 lf_5_26 ((mset_n (by omega)).trans ((mset_n (by omega)).trans ((mset_n (by omega)).trans ((mset_n (by omega)).trans (z0))))) rfl ?_ | refine ev_getfield dX5_become_55 lf_5_26 ((mset_n (by omega)).trans ((mset_n (by omega)).trans ((mset_n (by omega)).trans ((mset_n (by omega)).trans (y0))))) rfl ?_
  first | refine ev_putfield (fs' := [_, _, _, _, _]) dX5_become_58 lf_5_26 rfl (mset_s _ _ _) (Nat.le_of_ble_eq_true rfl) rfl rfl rfl ?_ | refine ev_putfield (fs' := [_, _, _, _, _]) dX5_become_58 lf_5_26 rfl ((mset_n (by omega)).trans (mset_s _ _ _)) (Nat.le_of_ble_eq_true rfl) rfl rfl rfl ?_ | refine ev_putfield (fs' := [_, _, _, _, _]) dX5_become_58 lf_5_26 rfl ((mset_n (by omega)).trans ((mset_n (by omega)).trans (mset_s _ _ _))) (Nat.le_of_ble_eq_true rfl) rfl rfl rfl ?_ | refine ev_putfield (fs' := [_, _, _, _, _]) dX5_become_58 lf_5_26 rfl ((mset_n (by omega)).trans ((mset_n (by omega)).trans ((mset_n (by omega)).trans (mset_s _ _ _)))) (Nat.le_of_ble_eq_true rfl) rfl rfl rfl ?_ | refine ev_putfield (fs' := [_, _, _, _, _]) dX5_become_58 lf_5_26 rfl ((mset_n (by omega)).trans ((mset_n (by omega)).trans ((mset_n (by omega)).trans ((mset_n (by omega)).trans (z0))))) (Nat.le_of_ble_eq_true rfl) rfl rfl rfl ?_ | refine ev_putfield (fs' := [_, _, _, _, _]) dX5_become_58 lf_5_26 rfl ((mset_n (by omega)).trans ((mset_n (by omega)).trans ((mset_n (by omega)).trans ((mset_n (by omega)).trans (y0))))) (Nat.le_of_ble_eq_true rfl) rfl rfl rfl ?_
  refine ev_return dX5_become_61 rfl (Or.inl rfl) (Nat.zero_le _) (Nat.zero_le _) ?_
  refine ⟨_, rfl, rfl, ⟨va_cpy rr rrz 0 0 60, cpN ln lnz 0 0 60, cpN ow owz 0 0 60, ⟨mset_s _ _ _, ?_, ?_, ?_⟩, fun k hk => ?_⟩, (((((Out.set (by omega) (by omega)).tr (Out.set (by omega) (by omega))).tr (Out.set (by omega) (by omega))).tr (Out.set (by omega) (by omega))).tr (Out.set (by omega) (by omega)))⟩
  · exact (mset_n (by omega)).trans ((mset_n (by omega)).trans ((mset_n (by omega)).trans ((mset_n (by omega)).trans (mset_s _ _ _))))
  · exact (mset_n (by omega)).trans ((mset_n (by omega)).trans ((mset_n (by omega)).trans (mset_s _ _ _)))
  · exact (mset_n (by omega)).trans ((mset_n (by omega)).trans (mset_s _ _ _))
  · rw [cpL_0 hk, cpN_0 hk, cpN_0 hk]; exact hV k hk
