def los1 (T : mSt) (t : Nat) : mSo := losN (tS T) (tC T t) (kN (tC T t))
/-- the store that a text has lost, swept where the cut doesn't fit -/
def chgS (T : mSt) (t : Nat) (K : mCt) : mSo := if fitS (los1 T t) K = true then los1 T t else swN (los1 T t) K 60 (sW (los1 T t) + ctN (rmS (los1 T t) K) 60)
def okS (T : mSt) (t : Nat) (K : mCt) : Bool := fitS (chgS T t K) K
def chgT (T : mSt) (t : Nat) (K : mCt) : mSt := (fun q => if q = t then K else tC T q, gtN (chgS T t K) K (kN K), tV T)
theorem los1_SoB {T : mSt} {t : Nat} (h : SoB (tS T)) : SoB (los1 T t) := fun k hk q => by
  have := h k hk q
  refine ⟨this.1, ?_⟩
  show sO (tS T) k - _ ≤ 200
  omega
theorem chgS_SoB {T : mSt} {t : Nat} {K : mCt} (h : SoB (tS T)) : SoB (chgS T t K) := by
  unfold chgS
  split
  · exact los1_SoB h
  · exact swN_SoB (los1_SoB h)
theorem smN_le2 {f g : Nat → Nat} {n : Nat} (h : ∀ k, k < n → f k ≤ g k) : smN f n ≤ smN g n := by
  induction n with
  | zero => exact Nat.le_refl _
  | succ n ih =>
    rw [smN, smN]
    have := ih (fun k hk => h k (by omega))
    have := h n (by omega)
    omega
theorem szS_sw (S : mSo) (K : mCt) (n w : Nat) : szS (swN S K n w) ≤ szS S := smN_le2 (fun k hk => by
  show (if (sR (swN S K n w) k == 0) = true then 0 else rl (sR (swN S K n w) k)) ≤ (if (sR S k == 0) = true then 0 else rl (sR S k))
  by_cases q : sR (swN S K n w) k = 0
  · rw [if_pos (by rw [q]; rfl)]; exact Nat.zero_le _
  · have e : sR (swN S K n w) k = sR S k := by
      have q2 : (if decide (k < n) && rmS S K k then 0 else sR S k) ≠ 0 := q
      show (if decide (k < n) && rmS S K k then 0 else sR S k) = sR S k
      by_cases z : (decide (k < n) && rmS S K k) = true
      · rw [if_pos z] at q2; exact absurd rfl q2
      · rw [if_neg z]
    rw [e]; exact Nat.le_refl _)
theorem chgS_sz {T : mSt} {t : Nat} {K : mCt} (h : szS (tS T) ≤ 150) : szS (chgS T t K) ≤ 150 := by
  have e : szS (los1 T t) = szS (tS T) := rfl
  unfold chgS
  split
  · rw [e]; exact h
  · exact Nat.le_trans (szS_sw _ _ _ _) (by rw [e]; exact h)
set_option maxHeartbeats 4000000 in
set_option maxRecDepth 100000 in
theorem c_becomeChanged {X : mX} {h : mH} {c d e t : Nat} {T T0 : mSt} {K : mCt} (hs : StN h c T) (hd : StN h d T0) (he : CutN h e K) (hdj : c + 32 ≤ d ∨ d + 32 ≤ c) (hej : e + 6 ≤ d ∨ d + 32 ≤ e) (ht : t < 4) (hD : SoD (tS T)) (hB : SoB (tS T)) (hO : ∀ k, k < 60 → sR (tS T) k ≠ 0 → ctN (fun p => kR (tC T t) p == sR (tS T) k) (kN (tC T t)) ≤ sO (tS T) k) (hR : ∀ p, p < kN (tC T t) → kR (tC T t) p ≠ 0) (hz : szS (tS T) ≤ 150) (hK : ∀ p, p < kN K → kR K p ≠ 0 ∧ kQ K p = rl (kR K p)) (hF : okS T t K = true → ∀ p, p < kN K → slU (gtN (chgS T t K) K p) (kR K p) < 60 ∨ slU (gtN (chgS T t K) K p) 0 < 60) : CnU X m_X4_becomeChanged [.ref d, .ref c, .int (nI t), .ref e] h (fun v h1 => v = some (.int (bI (okS T t K))) ∧ (okS T t K = true → StN h1 d (chgT T t K)) ∧ (∃ T1, StN h1 d T1) ∧ Out h h1 d 32) := by
  obtain ⟨z0, -⟩ := id hd
  refine cn_of_ev (L0 := [_, _, _, _]) (by decide +kernel) rfl rfl (Nat.le_of_ble_eq_true rfl) rfl ?_
  refine ev_aload_n dX4_becomeChanged_0 rfl rfl ?_
  refine ev_aload_n dX4_becomeChanged_1 rfl rfl ?_
  refine ev_callVU1 dX4_becomeChanged_2 cal_X4_become lk_4_42 ⟨(Nat.le_of_ble_eq_true rfl), (Nat.le_of_ble_eq_true rfl)⟩ rfl (z0) (Nat.le_of_ble_eq_true rfl) (c_St_become hs hd hdj) (fun v h2 hq2 => ?_)
  refine ev_pc (pc' := 5) rfl ?_
  obtain ⟨rfl, hs1, o1⟩ := hq2
  have he1 := he.go o1 (by omega)
  obtain ⟨u0, ⟨f, u1, y2⟩, hcs1, hsto, hset1⟩ := id hs1
  obtain ⟨_, _, _, ⟨a0, -, -, -⟩, -⟩ := id hsto
  refine ev_aload_n dX4_becomeChanged_5 rfl rfl ?_
  first | refine ev_getfield dX4_becomeChanged_6 lf_4_20 (u0) rfl ?_ | refine ev_getfield dX4_becomeChanged_6 lf_4_20 (u1) rfl ?_ | refine ev_getfield dX4_becomeChanged_6 lf_4_20 (a0) rfl ?_
  refine ev_aload_n dX4_becomeChanged_9 rfl rfl ?_
  first | refine ev_getfield dX4_becomeChanged_10 lf_4_11 (u0) rfl ?_ | refine ev_getfield dX4_becomeChanged_10 lf_4_11 (u1) rfl ?_ | refine ev_getfield dX4_becomeChanged_10 lf_4_11 (a0) rfl ?_
  refine ev_iload_n dX4_becomeChanged_13 rfl rfl ?_
  refine ev_aaloadN dX4_becomeChanged_14 (Or.inl rfl) u1 ht (by decide) (y2 t ht) ?_
  first | refine ev_callVU1 dX4_becomeChanged_15 cal_X5_loseOwner lk_4_45 ⟨(Nat.le_of_ble_eq_true rfl), (Nat.le_of_ble_eq_true rfl)⟩ rfl (u0) (Nat.le_of_ble_eq_true rfl) (c_loseOwner hsto (hcs1 t ht) (by omega) hD hB hO hR) (fun v h15 hq15 => ?_) | refine ev_callVU1 dX4_becomeChanged_15 cal_X5_loseOwner lk_4_45 ⟨(Nat.le_of_ble_eq_true rfl), (Nat.le_of_ble_eq_true rfl)⟩ rfl (u1) (Nat.le_of_ble_eq_true rfl) (c_loseOwner hsto (hcs1 t ht) (by omega) hD hB hO hR) (fun v h15 hq15 => ?_) | refine ev_callVU1 dX4_becomeChanged_15 cal_X5_loseOwner lk_4_45 ⟨(Nat.le_of_ble_eq_true rfl), (Nat.le_of_ble_eq_true rfl)⟩ rfl (a0) (Nat.le_of_ble_eq_true rfl) (c_loseOwner hsto (hcs1 t ht) (by omega) hD hB hO hR) (fun v h15 hq15 => ?_)
  refine ev_pc (pc' := 18) rfl ?_
  obtain ⟨rfl, hs2, o2⟩ := hq15
  have y0 := (o2 d (by omega)).trans u0
  have y1 := (o2 (d + 1) (by omega)).trans u1
  have he2 := he1.go o2 (by omega)
  have hcs : ∀ q, q < 4 → CutN h15 (d + 8 + 6 * q) (tC T q) := fun q hq => (hcs1 q hq).go o2 (by omega)
  have hset := hset1.go o2 (by omega)
  obtain ⟨_, _, _, ⟨b0, -, -, -⟩, -⟩ := id hs2
  have J38 : ∀ h3 : mH, StoreN h3 (d + 2) (chgS T t K) → Out h15 h3 (d + 2) 4 → Ev X m_X4_becomeChanged B0 38 [.ref d, .ref c, .int (nI t), .ref e] [] h3 (fun o h1 => ∃ v, o = .inl v ∧ (v = some (.int (bI (okS T t K))) ∧ (okS T t K = true → StN h1 d (chgT T t K)) ∧ (∃ T1, StN h1 d T1) ∧ Out h h1 d 32)) := by
    intro h3 hso o3
    have w0 := (o3 d (by omega)).trans y0
    have w1 := (o3 (d + 1) (by omega)).trans y1
    have he3 := he2.go o3 (by omega)
    obtain ⟨_, _, _, ⟨a0, -, -, -⟩, -⟩ := id hso
    have hT3 : StN h3 d (tC T, chgS T t K, tV T) := ⟨w0, ⟨f, w1, y2⟩, fun q hq => (hcs q hq).go o3 (by omega), hso, hset.go o3 (by omega)⟩
    refine ev_aload_n dX4_becomeChanged_38 rfl rfl ?_
    first | refine ev_getfield dX4_becomeChanged_39 lf_4_20 (w0) rfl ?_ | refine ev_getfield dX4_becomeChanged_39 lf_4_20 (w1) rfl ?_ | refine ev_getfield dX4_becomeChanged_39 lf_4_20 (a0) rfl ?_
    refine ev_aload_n dX4_becomeChanged_42 rfl rfl ?_
    first | refine ev_callVP1 dX4_becomeChanged_43 cal_X5_hasRoomFor lk_4_48 ⟨(Nat.le_of_ble_eq_true rfl), (Nat.le_of_ble_eq_true rfl)⟩ rfl (w0) (Nat.le_of_ble_eq_true rfl) ((show CnP X m_X5_hasRoomFor _ h3 (some (.int (bI (okS T t K)))) from c_hasRoomFor hso he3 (chgS_SoB hB) (chgS_sz hz))) ?_ | refine ev_callVP1 dX4_becomeChanged_43 cal_X5_hasRoomFor lk_4_48 ⟨(Nat.le_of_ble_eq_true rfl), (Nat.le_of_ble_eq_true rfl)⟩ rfl (w1) (Nat.le_of_ble_eq_true rfl) ((show CnP X m_X5_hasRoomFor _ h3 (some (.int (bI (okS T t K)))) from c_hasRoomFor hso he3 (chgS_SoB hB) (chgS_sz hz))) ?_ | refine ev_callVP1 dX4_becomeChanged_43 cal_X5_hasRoomFor lk_4_48 ⟨(Nat.le_of_ble_eq_true rfl), (Nat.le_of_ble_eq_true rfl)⟩ rfl (a0) (Nat.le_of_ble_eq_true rfl) ((show CnP X m_X5_hasRoomFor _ h3 (some (.int (bI (okS T t K)))) from c_hasRoomFor hso he3 (chgS_SoB hB) (chgS_sz hz))) ?_
    refine ev_if_neB 51 dX4_becomeChanged_46 rfl (fun hc46 => ?_) (fun hc46 => ?_)
    · refine ev_aload_n dX4_becomeChanged_51 rfl rfl ?_
      first | refine ev_getfield dX4_becomeChanged_52 lf_4_20 (w0) rfl ?_ | refine ev_getfield dX4_becomeChanged_52 lf_4_20 (w1) rfl ?_ | refine ev_getfield dX4_becomeChanged_52 lf_4_20 (a0) rfl ?_
      refine ev_aload_n dX4_becomeChanged_55 rfl rfl ?_
      first | refine ev_callVU1 dX4_becomeChanged_56 cal_X5_getOwner lk_4_56 ⟨(Nat.le_of_ble_eq_true rfl), (Nat.le_of_ble_eq_true rfl)⟩ rfl (w0) (Nat.le_of_ble_eq_true rfl) (c_getOwner hso he3 (by omega) hK (hF hc46)) (fun v h56 hq56 => ?_) | refine ev_callVU1 dX4_becomeChanged_56 cal_X5_getOwner lk_4_56 ⟨(Nat.le_of_ble_eq_true rfl), (Nat.le_of_ble_eq_true rfl)⟩ rfl (w1) (Nat.le_of_ble_eq_true rfl) (c_getOwner hso he3 (by omega) hK (hF hc46)) (fun v h56 hq56 => ?_) | refine ev_callVU1 dX4_becomeChanged_56 cal_X5_getOwner lk_4_56 ⟨(Nat.le_of_ble_eq_true rfl), (Nat.le_of_ble_eq_true rfl)⟩ rfl (a0) (Nat.le_of_ble_eq_true rfl) (c_getOwner hso he3 (by omega) hK (hF hc46)) (fun v h56 hq56 => ?_)
      refine ev_pc (pc' := 59) rfl ?_
      obtain ⟨rfl, hs4, ho4⟩ := hq56
      have v0 := (ho4 d (by omega)).trans w0
      have v1 := (ho4 (d + 1) (by omega)).trans w1
      have he4 := he3.go ho4 (by omega)
      have hct4 := ((hcs t ht).go o3 (by omega)).go ho4 (by omega)
      obtain ⟨-, -, -, -, -, ⟨b0, -, -, -, -, -⟩, -, -, -, -⟩ := id hct4
      refine ev_aload_n dX4_becomeChanged_59 rfl rfl ?_
      first | refine ev_getfield dX4_becomeChanged_60 lf_4_11 (v0) rfl ?_ | refine ev_getfield dX4_becomeChanged_60 lf_4_11 (v1) rfl ?_ | refine ev_getfield dX4_becomeChanged_60 lf_4_11 (b0) rfl ?_
      refine ev_iload_n dX4_becomeChanged_63 rfl rfl ?_
      refine ev_aaloadN dX4_becomeChanged_64 (Or.inl rfl) v1 ht (by decide) (y2 t ht) ?_
      refine ev_aload_n dX4_becomeChanged_65 rfl rfl ?_
      first | refine ev_callVU1 dX4_becomeChanged_66 cal_X1_become lk_4_32 ⟨(Nat.le_of_ble_eq_true rfl), (Nat.le_of_ble_eq_true rfl)⟩ rfl (v0) (Nat.le_of_ble_eq_true rfl) (c_Cut_become he4 hct4 (by omega)) (fun v h66 hq66 => ?_) | refine ev_callVU1 dX4_becomeChanged_66 cal_X1_become lk_4_32 ⟨(Nat.le_of_ble_eq_true rfl), (Nat.le_of_ble_eq_true rfl)⟩ rfl (v1) (Nat.le_of_ble_eq_true rfl) (c_Cut_become he4 hct4 (by omega)) (fun v h66 hq66 => ?_) | refine ev_callVU1 dX4_becomeChanged_66 cal_X1_become lk_4_32 ⟨(Nat.le_of_ble_eq_true rfl), (Nat.le_of_ble_eq_true rfl)⟩ rfl (b0) (Nat.le_of_ble_eq_true rfl) (c_Cut_become he4 hct4 (by omega)) (fun v h66 hq66 => ?_)
      refine ev_pc (pc' := 69) rfl ?_
      obtain ⟨rfl, hc5, ho5⟩ := hq66
      have hT5 : StN h66 d (chgT T t K) := by
        refine ⟨(ho5 d (by omega)).trans v0, ⟨f, (ho5 (d + 1) (by omega)).trans v1, y2⟩, fun q hq => ?_, hs4.go ho5 (by omega), ((hset.go o3 (by omega)).go ho4 (by omega)).go ho5 (by omega)⟩
        by_cases z : q = t
        · rw [z, show tC (chgT T t K) t = K from if_pos rfl]; exact hc5
        · rw [show tC (chgT T t K) q = tC T q from if_neg z]; exact (((hcs q hq).go o3 (by omega)).go ho4 (by omega)).go ho5 (by omega)
      refine ev_iconst (nI 1) dX4_becomeChanged_69 rfl ?_
      refine ev_zreturn dX4_becomeChanged_70 rfl (by first | rfl | exact bI_nar _) (Or.inl rfl) (Nat.zero_le _) (Nat.zero_le _) ?_
      rw [hc46]
      exact ⟨_, rfl, rfl, fun _ => hT5, ⟨_, hT5⟩, (((o1.tr (o2.up (by omega) (by omega))).tr (o3.up (by omega) (by omega))).tr (ho4.up (by omega) (by omega))).tr (ho5.up (by omega) (by omega))⟩
    · refine ev_iconst (nI 0) dX4_becomeChanged_49 rfl ?_
      refine ev_zreturn dX4_becomeChanged_50 rfl (by first | rfl | exact bI_nar _) (Or.inl rfl) (Nat.zero_le _) (Nat.zero_le _) ?_
      rw [hc46]
      exact ⟨_, rfl, rfl, (fun z => absurd z (by decide)), ⟨_, hT3⟩, (o1.tr (o2.up (by omega) (by omega))).tr (o3.up (by omega) (by omega))⟩
  refine ev_aload_n dX4_becomeChanged_18 rfl rfl ?_
  first | refine ev_getfield dX4_becomeChanged_19 lf_4_20 (y0) rfl ?_ | refine ev_getfield dX4_becomeChanged_19 lf_4_20 (b0) rfl ?_
  refine ev_aload_n dX4_becomeChanged_22 rfl rfl ?_
  first | refine ev_callVP1 dX4_becomeChanged_23 cal_X5_hasRoomFor lk_4_48 ⟨(Nat.le_of_ble_eq_true rfl), (Nat.le_of_ble_eq_true rfl)⟩ rfl (y0) (Nat.le_of_ble_eq_true rfl) ((show CnP X m_X5_hasRoomFor _ h15 (some (.int (bI (fitS (los1 T t) K)))) from c_hasRoomFor hs2 he2 (los1_SoB hB) hz)) ?_ | refine ev_callVP1 dX4_becomeChanged_23 cal_X5_hasRoomFor lk_4_48 ⟨(Nat.le_of_ble_eq_true rfl), (Nat.le_of_ble_eq_true rfl)⟩ rfl (b0) (Nat.le_of_ble_eq_true rfl) ((show CnP X m_X5_hasRoomFor _ h15 (some (.int (bI (fitS (los1 T t) K)))) from c_hasRoomFor hs2 he2 (los1_SoB hB) hz)) ?_
  refine ev_if_neB 38 dX4_becomeChanged_26 rfl (fun hc26 => ?_) (fun hc26 => ?_)
  · refine ev_pc (pc' := 38) rfl ?_
    refine J38 _ ?_ Out.rf
    rw [chgS, if_pos hc26]
    exact hs2
  · refine ev_aload_n dX4_becomeChanged_29 rfl rfl ?_
    first | refine ev_getfield dX4_becomeChanged_30 lf_4_20 (y0) rfl ?_ | refine ev_getfield dX4_becomeChanged_30 lf_4_20 (b0) rfl ?_
    refine ev_aload_n dX4_becomeChanged_33 rfl rfl ?_
    first | refine ev_callVU1 dX4_becomeChanged_34 cal_X5_removeUnownedBut lk_4_52 ⟨(Nat.le_of_ble_eq_true rfl), (Nat.le_of_ble_eq_true rfl)⟩ rfl (y0) (Nat.le_of_ble_eq_true rfl) (c_removeUnownedBut hs2 he2 (by omega) (los1_SoB hB)) (fun v h34 hq34 => ?_) | refine ev_callVU1 dX4_becomeChanged_34 cal_X5_removeUnownedBut lk_4_52 ⟨(Nat.le_of_ble_eq_true rfl), (Nat.le_of_ble_eq_true rfl)⟩ rfl (b0) (Nat.le_of_ble_eq_true rfl) (c_removeUnownedBut hs2 he2 (by omega) (los1_SoB hB)) (fun v h34 hq34 => ?_)
    refine ev_pc (pc' := 37) rfl ?_
    obtain ⟨rfl, hs3, o3⟩ := hq34
    refine ev_pop dX4_becomeChanged_37 rfl ?_
    refine J38 _ ?_ o3
    rw [chgS, if_neg (by rw [hc26]; decide)]
    exact hs3
