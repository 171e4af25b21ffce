/-- the saved states: n of them, Ts; their rooms lie at c + 2 + 32 π i -/
def HisN (h : mH) (c n : Nat) (Ts : Nat → mSt) : Prop := h c = some (aO 2 [.ref (c + 1), .int (nI n)]) ∧ n ≤ 6 ∧ ∃ (f : Nat → Option Nat) (π : Nat → Nat), h (c + 1) = some (aR 3 6 f) ∧ (∀ i, i < 6 → f i = some (c + 2 + 32 * π i) ∧ π i < 6) ∧ (∀ i j, i < 6 → j < 6 → π i = π j → i = j) ∧ ∀ i, i < 6 → ∃ T, StN h (c + 2 + 32 * π i) T ∧ (i < n → T = Ts i)
theorem HisN.go {h h1 : mH} {c a m n : Nat} {Ts : Nat → mSt} (x : HisN h c n Ts) (o : Out h h1 a m) (hd : c + 194 ≤ a ∨ a + m ≤ c) : HisN h1 c n Ts := by
  obtain ⟨x0, hn, f, π, x1, x2, x3, x4⟩ := x
  refine ⟨by rw [o _ (by omega)]; exact x0, hn, f, π, by rw [o _ (by omega)]; exact x1, x2, x3, fun i hi => ?_⟩
  obtain ⟨T, y1, y2⟩ := x4 i hi
  have := (x2 i hi).2
  exact ⟨T, y1.go o (by omega), y2⟩
/-- turned by one -/
def rotP (π : Nat → Nat) : Nat → Nat := fun i => if i = 5 then π 0 else π (i + 1)
theorem rotP_lt {π : Nat → Nat} (h : ∀ i, i < 6 → π i < 6) {i : Nat} (hi : i < 6) : rotP π i < 6 := by
  unfold rotP
  split
  · exact h 0 (by omega)
  · exact h (i + 1) (by omega)
theorem rotP_inj {π : Nat → Nat} (h : ∀ i j, i < 6 → j < 6 → π i = π j → i = j) (i j : Nat) (hi : i < 6) (hj : j < 6) (e : rotP π i = rotP π j) : i = j := by
  unfold rotP at e
  split at e
  · split at e
    · omega
    · have := h 0 (j + 1) (by omega) (by omega) e; omega
  · split at e
    · have := h (i + 1) 0 (by omega) (by omega) e; omega
    · have := h (i + 1) (j + 1) (by omega) (by omega) e; omega
set_option maxHeartbeats 4000000 in
set_option maxRecDepth 100000 in
theorem c_dropOldest {X : mX} {h : mH} {c : Nat} {Ts : Nat → mSt} (hs : HisN h c 6 Ts) : CnU X m_X2_dropOldest [.ref c] h (fun v h1 => v = none ∧ HisN h1 c 5 (fun i => Ts (i + 1)) ∧ Out h h1 c 2) := by
  obtain ⟨x0, hn, f, π, x1, x2, x3, x4⟩ := id hs
  have hx0 := (x2 0 (by omega)).1
  have hp0 := (x2 0 (by omega)).2
  refine cn_of_ev (L0 := [_, _, _]) (by decide +kernel) rfl rfl (Nat.le_of_ble_eq_true rfl) rfl ?_
  refine ev_aload_n dX2_dropOldest_0 rfl rfl ?_
  first | refine ev_getfield dX2_dropOldest_1 lf_2_11 (x0) rfl ?_ | refine ev_getfield dX2_dropOldest_1 lf_2_11 (x1) rfl ?_
  refine ev_iconst (nI 0) dX2_dropOldest_4 rfl ?_
  refine ev_aaloadN dX2_dropOldest_5 (Or.inr rfl) x1 (by omega) (by decide) hx0 ?_
  refine ev_astore_n (L' := [_, _, _]) dX2_dropOldest_6 rfl (Nat.le_of_ble_eq_true rfl) rfl ?_
  refine ev_iconst (nI 1) dX2_dropOldest_7 rfl ?_
  refine ev_istore_n (L' := [_, _, _]) dX2_dropOldest_8 rfl (Nat.le_of_ble_eq_true rfl) rfl ?_
  refine ev_pc (pc' := 9) rfl ?_
  have LP9 : ∀ (mz : Nat) (k : Nat) (h2 : mH) (g : Nat → Option Nat), 6 - k = mz → (1 ≤ k ∧ k ≤ 6) → (h2 (c + 1) = some (aR 3 6 g)) → (∀ i, i < 6 → g i = if i + 1 < k then f (i + 1) else f i) → (Out h h2 (c + 1) 1) → Ev X m_X2_dropOldest B0 9 [.ref c, .ref (c + 2 + 32 * π 0), .int (nI k)] [] h2 (fun o h1 => ∃ v, o = .inl v ∧ (v = none ∧ HisN h1 c 5 (fun i => Ts (i + 1)) ∧ Out h h1 c 2)) := by
    intro mz
    induction mz using Nat.strongRecOn with
    | _ mz ih =>
      intro k h2 g hmz hk g1 g2 ho
      have w0 := (ho c (by omega)).trans x0
      refine ev_iload_n dX2_dropOldest_9 rfl rfl ?_
      refine ev_bipush (nI 6) dX2_dropOldest_10 rfl ?_
      refine ev_icmp_geN 35 dX2_dropOldest_12 rfl (by omega) (by omega) (fun hc12 => ?_) (fun hc12 => ?_)
      · refine ev_pc (pc' := 35) rfl ?_
        obtain ⟨T, ⟨t0, -⟩, -⟩ := x4 0 (by omega)
        have t02 := (ho _ (by omega)).trans t0
        refine ev_aload_n dX2_dropOldest_35 rfl rfl ?_
        first | refine ev_getfield dX2_dropOldest_36 lf_2_11 (w0) rfl ?_ | refine ev_getfield dX2_dropOldest_36 lf_2_11 (g1) rfl ?_
        refine ev_iconst (nI 5) dX2_dropOldest_39 rfl ?_
        refine ev_aload_n dX2_dropOldest_40 rfl rfl ?_
        refine ev_aastoreN dX2_dropOldest_41 (Or.inr ⟨rfl, rfl⟩) g1 t02 (by omega) (by decide) ?_
        refine ev_pc (pc' := 42) rfl ?_
        refine ev_aload_n dX2_dropOldest_42 rfl rfl ?_
        refine ev_iconst (nI 5) dX2_dropOldest_43 rfl ?_
        refine ev_putfield (fs' := [_, _]) dX2_dropOldest_44 lf_2_17 rfl ((mset_n (by omega)).trans w0) (Nat.le_of_ble_eq_true rfl) rfl rfl rfl ?_
        refine ev_return dX2_dropOldest_47 rfl (Or.inl rfl) (Nat.zero_le _) (Nat.zero_le _) ?_
        have hoF : Out h (mset (mset h2 (c + 1) (aR 3 6 (upR g 5 (some (c + 2 + 32 * π 0))))) c (aO 2 [.ref (c + 1), .int (nI 5)])) c 2 := (ho.up (by omega) (by omega)).tr ((Out.set (by omega) (by omega)).tr (Out.set (by omega) (by omega)))
        refine ⟨_, rfl, rfl, ⟨mset_s _ _ _, by omega, _, rotP π, (mset_n (by omega)).trans (mset_s _ _ _), fun i hi => ⟨?_, rotP_lt (fun j hj => (x2 j hj).2) hi⟩, rotP_inj x3, fun i hi => ?_⟩, hoF⟩
        · show (if i = 5 then some (c + 2 + 32 * π 0) else g i) = some (c + 2 + 32 * (if i = 5 then π 0 else π (i + 1)))
          by_cases e : i = 5
          · rw [if_pos e, if_pos e]
          · rw [if_neg e, if_neg e, g2 i hi, if_pos (by omega)]; exact (x2 (i + 1) (by omega)).1
        · by_cases e : i = 5
          · obtain ⟨T, t1, t2⟩ := x4 0 (by omega)
            refine ⟨T, ?_, fun z => absurd z (by omega)⟩
            rw [show rotP π i = π 0 from if_pos e]
            exact t1.go hoF (by omega)
          · obtain ⟨T, t1, t2⟩ := x4 (i + 1) (by omega)
            refine ⟨T, ?_, fun z => t2 (by omega)⟩
            rw [show rotP π i = π (i + 1) from if_neg e]
            exact t1.go hoF (by omega)
      · refine ev_aload_n dX2_dropOldest_15 rfl rfl ?_
        first | refine ev_getfield dX2_dropOldest_16 lf_2_11 (w0) rfl ?_ | refine ev_getfield dX2_dropOldest_16 lf_2_11 (g1) rfl ?_
        refine ev_iload_n dX2_dropOldest_19 rfl rfl ?_
        refine ev_iconst (nI 1) dX2_dropOldest_20 rfl ?_
        refine ev_isubN dX2_dropOldest_21 (by omega) ?_
        refine ev_aload_n dX2_dropOldest_22 rfl rfl ?_
        first | refine ev_getfield dX2_dropOldest_23 lf_2_11 (w0) rfl ?_ | refine ev_getfield dX2_dropOldest_23 lf_2_11 (g1) rfl ?_
        refine ev_iload_n dX2_dropOldest_26 rfl rfl ?_
        have hgk : g k = some (c + 2 + 32 * π k) := by
          rw [g2 k (by omega), if_neg (by omega)]
          exact (x2 k (by omega)).1
        have hpk := (x2 k (by omega)).2
        obtain ⟨T, ⟨t0, -⟩, -⟩ := x4 k (by omega)
        have t02 := (ho _ (by omega)).trans t0
        refine ev_aaloadN dX2_dropOldest_27 (Or.inr rfl) g1 (by omega) (by decide) hgk ?_
        refine ev_aastoreN dX2_dropOldest_28 (Or.inr ⟨rfl, rfl⟩) g1 t02 (by omega) (by decide) ?_
        refine ev_pc (pc' := 29) rfl ?_
        refine ev_iincN (L' := [_, _, _]) 1 dX2_dropOldest_29 rfl rfl ?_
        refine ev_goto 9 dX2_dropOldest_32 rfl ?_
        refine ih _ (by omega) (k + 1) _ _ rfl (by omega) (mset_s _ _ _) (fun i hi => ?_) (ho.tr (Out.set (by omega) (by omega)))
        show (if i = k - 1 then some (c + 2 + 32 * π k) else g i) = _
        by_cases e : i = k - 1
        · rw [if_pos e, if_pos (by omega), show i + 1 = k by omega]; exact ((x2 k (by omega)).1).symm
        · rw [if_neg e, g2 i hi]
          by_cases z : i + 1 < k
          · rw [if_pos z, if_pos (by omega)]
          · rw [if_neg z, if_neg (by omega)]
  exact LP9 _ 1 h f rfl (by omega) x1 (fun i hi => by rw [if_neg (by omega)]) Out.rf
def pshN (n : Nat) : Nat := if n < 6 then n + 1 else 6
def pshT (n : Nat) (Ts : Nat → mSt) (T : mSt) : Nat → mSt := if n < 6 then fun i => if i = n then T else Ts i else fun i => if i = 5 then T else Ts (i + 1)
set_option maxHeartbeats 4000000 in
set_option maxRecDepth 100000 in
theorem c_push {X : mX} {h : mH} {c d n : Nat} {Ts : Nat → mSt} {T : mSt} (hs : HisN h c n Ts) (hd : StN h d T) (hdj : c + 194 ≤ d ∨ d + 32 ≤ c) : CnU X m_X2_push [.ref c, .ref d] h (fun v h1 => v = none ∧ HisN h1 c (pshN n) (pshT n Ts T) ∧ Out h h1 c 194) := by
  obtain ⟨x0, hn, f, π, x1, x2, x3, x4⟩ := id hs
  have J13 : ∀ (h2 : mH) (m : Nat) (Us : Nat → mSt), m < 6 → HisN h2 c m Us → pshN n = m + 1 → (∀ i, i < m + 1 → pshT n Ts T i = if i = m then T else Us i) → Out h h2 c 194 → Ev X m_X2_push B0 13 [.ref c, .ref d] [] h2 (fun o h1 => ∃ v, o = .inl v ∧ (v = none ∧ HisN h1 c (pshN n) (pshT n Ts T) ∧ Out h h1 c 194)) := by
    intro h2 m Us hm hs2 eN eT ho
    clear x0 x1 x2 x3 x4
    obtain ⟨x0, hn2, f, π, x1, x2, x3, x4⟩ := id hs2
    have hxm := (x2 m hm).1
    have hpm := (x2 m hm).2
    have hd2 := hd.go ho (by omega)
    obtain ⟨T0, hT0, -⟩ := x4 m hm
    obtain ⟨t0, -⟩ := id hT0
    refine ev_aload_n dX2_push_13 rfl rfl ?_
    first | refine ev_getfield dX2_push_14 lf_2_11 (x0) rfl ?_ | refine ev_getfield dX2_push_14 lf_2_11 (x1) rfl ?_ | refine ev_getfield dX2_push_14 lf_2_11 (t0) rfl ?_
    refine ev_aload_n dX2_push_17 rfl rfl ?_
    first | refine ev_getfield dX2_push_18 lf_2_17 (x0) rfl ?_ | refine ev_getfield dX2_push_18 lf_2_17 (x1) rfl ?_ | refine ev_getfield dX2_push_18 lf_2_17 (t0) rfl ?_
    refine ev_aaloadN dX2_push_21 (Or.inr rfl) x1 (by omega) (by decide) hxm ?_
    refine ev_aload_n dX2_push_22 rfl rfl ?_
    first | refine ev_callVU1 dX2_push_23 cal_X4_become lk_2_25 ⟨(Nat.le_of_ble_eq_true rfl), (Nat.le_of_ble_eq_true rfl)⟩ rfl (x0) (Nat.le_of_ble_eq_true rfl) (c_St_become hd2 hT0 (by omega)) (fun v h23 hq23 => ?_) | refine ev_callVU1 dX2_push_23 cal_X4_become lk_2_25 ⟨(Nat.le_of_ble_eq_true rfl), (Nat.le_of_ble_eq_true rfl)⟩ rfl (x1) (Nat.le_of_ble_eq_true rfl) (c_St_become hd2 hT0 (by omega)) (fun v h23 hq23 => ?_) | refine ev_callVU1 dX2_push_23 cal_X4_become lk_2_25 ⟨(Nat.le_of_ble_eq_true rfl), (Nat.le_of_ble_eq_true rfl)⟩ rfl (t0) (Nat.le_of_ble_eq_true rfl) (c_St_become hd2 hT0 (by omega)) (fun v h23 hq23 => ?_)
    refine ev_pc (pc' := 26) rfl ?_
    obtain ⟨rfl, hs3, o3⟩ := hq23
    have w0 := (o3 c (by omega)).trans x0
    refine ev_aload_n dX2_push_26 rfl rfl ?_
    refine ev_dup dX2_push_27 rfl ?_
    refine ev_getfield dX2_push_28 lf_2_17 (w0) rfl ?_
    refine ev_iconst (nI 1) dX2_push_31 rfl ?_
    refine ev_iaddN dX2_push_32 ?_
    refine ev_putfield (fs' := [_, _]) dX2_push_33 lf_2_17 rfl (w0) (Nat.le_of_ble_eq_true rfl) rfl rfl rfl ?_
    refine ev_return dX2_push_36 rfl (Or.inl rfl) (Nat.zero_le _) (Nat.zero_le _) ?_
    refine ⟨_, rfl, rfl, ⟨by rw [eN]; exact mset_s _ _ _, by omega, f, π, (mset_n (by omega)).trans ((o3 (c + 1) (by omega)).trans x1), x2, x3, fun i hi => ?_⟩, ho.tr ((o3.up (by omega) (by omega)).tr (Out.set (by omega) (by omega)))⟩
    have hpi := (x2 i hi).2
    by_cases e : i = m
    · rw [e]
      exact ⟨T, hs3.go (Out.set (a := c) (n := 1) (by omega) (by omega)) (by omega), fun z => by rw [eT m (by omega), if_pos rfl]⟩
    · have hne : π i ≠ π m := fun z => e (x3 i m hi hm z)
      obtain ⟨U, u1, u2⟩ := x4 i hi
      exact ⟨U, (u1.go o3 (by omega)).go (Out.set (a := c) (n := 1) (by omega) (by omega)) (by omega), fun z => by rw [eT i (by omega), if_neg e]; exact u2 (by omega)⟩
  refine cn_of_ev (L0 := [_, _]) (by decide +kernel) rfl rfl (Nat.le_of_ble_eq_true rfl) rfl ?_
  refine ev_aload_n dX2_push_0 rfl rfl ?_
  refine ev_getfield dX2_push_1 lf_2_17 (x0) rfl ?_
  refine ev_bipush (nI 6) dX2_push_4 rfl ?_
  refine ev_icmp_ltN 13 dX2_push_6 rfl (by omega) (by omega) (fun hc6 => ?_) (fun hc6 => ?_)
  · refine ev_pc (pc' := 13) rfl ?_
    refine J13 _ n Ts (by omega) hs (by rw [pshN, if_pos (by omega)]) (fun i _ => by rw [pshT, if_pos (by omega)]) Out.rf
  · refine ev_aload_n dX2_push_9 rfl rfl ?_
    refine ev_callVU0 dX2_push_10 cal_X2_dropOldest lk_2_22 ⟨(Nat.le_of_ble_eq_true rfl), (Nat.le_of_ble_eq_true rfl)⟩ rfl (x0) (Nat.le_of_ble_eq_true rfl) (c_dropOldest (show HisN h c 6 Ts from (show n = 6 by omega) ▸ hs)) (fun v h10 hq10 => ?_)
    refine ev_pc (pc' := 13) rfl ?_
    obtain ⟨rfl, hs2, o2⟩ := hq10
    refine J13 _ 5 _ (by omega) hs2 (by rw [pshN, if_neg (by omega)]) (fun i _ => by rw [pshT, if_neg (by omega)]) (o2.up (by omega) (by omega))
