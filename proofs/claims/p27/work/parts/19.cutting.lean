/-- the signs s a .. as one number, a 1 ahead, three bits a sign -/
def rowC (s : Nat → Nat) (a : Nat) : Nat → Int64
  | 0 => lN 1
  | m + 1 => (rowC s a m <<< ((nI 3).toInt64 &&& 63)) ||| lN (s (a + m) - 1)
/-- cutting: where the piece under way starts; how many pieces, their starts, lengths, whether forced, rows -/
abbrev mCs : Type := Nat × Nat × (Nat → Nat) × (Nat → Nat) × (Nat → Bool) × (Nat → Int64)
def cutE (v s : Nat → Nat) (i many : Nat) : Bool := decide (v 3 ≤ many) && decide (sumN s (v 0) i % v 1 = v 2)
def cutF (v : Nat → Nat) (many : Nat) : Bool := decide (v 4 ≤ many)
def cutH (v s : Nat → Nat) (n i many : Nat) : Bool := cutE v s i many || cutF v many || decide (i + 1 = n)
def cutP (s : Nat → Nat) (σ : mCs) (i many : Nat) (b : Bool) : mCs := (i + 1, σ.2.1 + 1, upN σ.2.2.1 σ.2.1 σ.1, upN σ.2.2.2.1 σ.2.1 many, upB σ.2.2.2.2.1 σ.2.1 b, vp_updL σ.2.2.2.2.2 σ.2.1 (rowC s σ.1 many))
def cutG (v : Nat → Nat) (n : Nat) (s : Nat → Nat) : Nat → mCs
  | 0 => (0, 0, fun _ => 0, fun _ => 0, fun _ => false, fun _ => 0)
  | i + 1 => if cutH v s n i (i - (cutG v n s i).1 + 1) then cutP s (cutG v n s i) i (i - (cutG v n s i).1 + 1) (cutF v (i - (cutG v n s i).1 + 1) && !(cutE v s i (i - (cutG v n s i).1 + 1))) else cutG v n s i
def ctK (n : Nat) (s : Nat → Nat) (σ : mCs) : mCt := (n, s, σ.2.1, σ.2.2.1, σ.2.2.2.1, σ.2.2.2.2.1, σ.2.2.2.2.2)
/-- the text cut by the settings v -/
def cutK (v : Nat → Nat) (n : Nat) (s : Nat → Nat) : mCt := ctK n s (cutG v n s n)
theorem cutG_st (v : Nat → Nat) (n : Nat) (s : Nat → Nat) : ∀ i, (cutG v n s i).1 ≤ i ∧ (cutG v n s i).2.1 ≤ (cutG v n s i).1
  | 0 => ⟨Nat.le_refl _, Nat.le_refl _⟩
  | i + 1 => by
    have := cutG_st v n s i
    rw [cutG]
    split
    · show i + 1 ≤ i + 1 ∧ (cutG v n s i).2.1 + 1 ≤ i + 1
      omega
    · omega
theorem cutG_y {v s : Nat → Nat} {n i : Nat} (h : cutH v s n i (i - (cutG v n s i).1 + 1) = true) : cutG v n s (i + 1) = cutP s (cutG v n s i) i (i - (cutG v n s i).1 + 1) (cutF v (i - (cutG v n s i).1 + 1) && !(cutE v s i (i - (cutG v n s i).1 + 1))) := by rw [cutG, if_pos h]
theorem cutG_n {v s : Nat → Nat} {n i : Nat} (h : cutH v s n i (i - (cutG v n s i).1 + 1) = false) : cutG v n s (i + 1) = cutG v n s i := by rw [cutG, if_neg (by rw [h]; decide)]
set_option maxHeartbeats 4000000 in
set_option maxRecDepth 100000 in
theorem c_packed {X : mX} {h : mH} {c : Nat} {K : mCt} (hc : CutN h c K) (a m : Nat) (ham : a + m ≤ kL K) (h1 : ∀ j, j < kL K → 1 ≤ kS K j) : CnP X m_X1_packed [.ref c, .int (nI a), .int (nI m)] h (some (.long (rowC (kS K) a m))) := by
  obtain ⟨sg, st, le, fo, rk, ⟨x0, x1, x2, x3, x4, x5⟩, hL, hN, hS, hP⟩ := id hc
  refine cn_of_ev (L0 := [_, _, _, _, _, _]) (by decide +kernel) rfl rfl (Nat.le_of_ble_eq_true rfl) rfl ?_
  refine ev_lconst (lN 1) dX1_packed_0 rfl ?_
  refine ev_lstore_n (L' := [_, _, _, _, _, _]) dX1_packed_1 rfl (Nat.le_of_ble_eq_true rfl) rfl ?_
  refine ev_iload_n dX1_packed_2 rfl rfl ?_
  refine ev_istore (L' := [_, _, _, _, _, _]) dX1_packed_3 (Nat.le_of_ble_eq_true rfl) rfl ?_
  refine ev_pc (pc' := 5) rfl ?_
  have LP5 : ∀ (mz : Nat) (k : Nat), m - k = mz → (k ≤ m) → Ev X m_X1_packed B0 5 [.ref c, .int (nI a), .int (nI m), .long (rowC (kS K) a k), jk, .int (nI (a + k))] [] h (fun o h1 => o = .inl (some (.long (rowC (kS K) a m))) ∧ h1 = h) := by
    intro mz
    induction mz using Nat.strongRecOn with
    | _ mz ih =>
      intro k hmz hk
      have hb : a + k < kL K → 1 ≤ kS K (a + k) ∧ kS K (a + k) ≤ 8 := fun z => ⟨h1 _ z, (hS _ z).2⟩
      refine ev_iload dX1_packed_5 rfl ?_
      refine ev_iload_n dX1_packed_7 rfl rfl ?_
      refine ev_iload_n dX1_packed_8 rfl rfl ?_
      refine ev_iaddN dX1_packed_9 ?_
      refine ev_icmp_geN 34 dX1_packed_10 rfl (by omega) (by omega) (fun hc10 => ?_) (fun hc10 => ?_)
      · refine ev_lload_n dX1_packed_34 rfl rfl ?_
        refine ev_lreturn dX1_packed_35 rfl (Or.inl rfl) (Nat.zero_le _) (Nat.zero_le _) ?_
        rw [show m = k by omega]; exact ⟨rfl, rfl⟩
      · refine ev_lload_n dX1_packed_13 rfl rfl ?_
        refine ev_iconst (nI 3) dX1_packed_14 rfl ?_
        refine ev_lshl dX1_packed_15 ?_
        refine ev_aload_n dX1_packed_16 rfl rfl ?_
        first | refine ev_getfield dX1_packed_17 lf_1_9 (x0) rfl ?_ | refine ev_getfield dX1_packed_17 lf_1_9 (x1) rfl ?_ | refine ev_getfield dX1_packed_17 lf_1_9 (x2) rfl ?_ | refine ev_getfield dX1_packed_17 lf_1_9 (x3) rfl ?_ | refine ev_getfield dX1_packed_17 lf_1_9 (x4) rfl ?_ | refine ev_getfield dX1_packed_17 lf_1_9 (x5) rfl ?_
        refine ev_iload dX1_packed_20 rfl ?_
        first | refine ev_ialoadF dX1_packed_22 (x0) (by omega) (by decide) ?_ | refine ev_ialoadF dX1_packed_22 (x1) (by omega) (by decide) ?_ | refine ev_ialoadF dX1_packed_22 (x2) (by omega) (by decide) ?_ | refine ev_ialoadF dX1_packed_22 (x3) (by omega) (by decide) ?_ | refine ev_ialoadF dX1_packed_22 (x4) (by omega) (by decide) ?_ | refine ev_ialoadF dX1_packed_22 (x5) (by omega) (by decide) ?_
        rw [(hS (a + k) (by omega)).1]
        refine ev_iconst (nI 1) dX1_packed_23 rfl ?_
        refine ev_isubN dX1_packed_24 (by omega) ?_
        refine ev_i2lN dX1_packed_25 (by omega) ?_
        refine ev_lor dX1_packed_26 ?_
        refine ev_lstore_n (L' := [_, _, _, _, _, _]) dX1_packed_27 rfl (Nat.le_of_ble_eq_true rfl) rfl ?_
        refine ev_iincN (L' := [_, _, _, _, _, _]) 1 dX1_packed_28 rfl rfl ?_
        refine ev_goto 5 dX1_packed_31 rfl ?_
        refine ev_pc (pc' := 5) rfl ?_
        exact ih _ (by omega) (k + 1) rfl (by omega)
  exact LP5 _ 0 rfl (Nat.zero_le _)
def adP (K : mCt) (a m : Nat) (b : Bool) : mCt := (kL K, kS K, kN K + 1, upN (kP K) (kN K) a, upN (kQ K) (kN K) m, upB (kF K) (kN K) b, vp_updL (kR K) (kN K) (rowC (kS K) a m))
theorem keepP {K : mCt} {st le fo : Nat → Nat} {rk : Nat → Int64} {a m x : Nat} (hP : ∀ p, p < kN K → st p = kP K p ∧ le p = kQ K p ∧ fo p = b2n (kF K p) ∧ rk p = kR K p ∧ kP K p ≤ 40 ∧ kQ K p ≤ 40) : ∀ p, p < kN K → upN st (kN K) a p = kP K p ∧ upN le (kN K) m p = kQ K p ∧ upN fo (kN K) x p = b2n (kF K p) ∧ rk p = kR K p ∧ kP K p ≤ 40 ∧ kQ K p ≤ 40 := fun p hp => by
  rw [upN_n (by omega), upN_n (by omega), upN_n (by omega)]
  exact hP p hp
set_option maxHeartbeats 4000000 in
set_option maxRecDepth 100000 in
theorem c_addPiece {X : mX} {h : mH} {c : Nat} {K : mCt} (hc : CutN h c K) (a m : Nat) (b : Bool) (hn : kN K + 1 ≤ 40) (ham : a + m ≤ kL K) (h1 : ∀ j, j < kL K → 1 ≤ kS K j) : CnU X m_X1_addPiece [.ref c, .int (nI a), .int (nI m), .int (bI b)] h (fun v h1 => v = none ∧ CutN h1 c (adP K a m b) ∧ Out h h1 c 6) := by
  obtain ⟨sg, st, le, fo, rk, ⟨x0, x1, x2, x3, x4, x5⟩, hL, hN, hS, hP⟩ := id hc
  refine cn_of_ev (L0 := [_, _, _, _]) (by decide +kernel) rfl rfl (Nat.le_of_ble_eq_true rfl) rfl ?_
  refine ev_aload_n dX1_addPiece_0 rfl rfl ?_
  first | refine ev_getfield dX1_addPiece_1 lf_1_32 (x0) rfl ?_ | refine ev_getfield dX1_addPiece_1 lf_1_32 (x1) rfl ?_ | refine ev_getfield dX1_addPiece_1 lf_1_32 (x2) rfl ?_ | refine ev_getfield dX1_addPiece_1 lf_1_32 (x3) rfl ?_ | refine ev_getfield dX1_addPiece_1 lf_1_32 (x4) rfl ?_ | refine ev_getfield dX1_addPiece_1 lf_1_32 (x5) rfl ?_
  refine ev_bipush (nI 40) dX1_addPiece_4 rfl ?_
  refine ev_icmp_geN 72 dX1_addPiece_6 rfl (by omega) (by omega) (fun hc6 => ?_) (fun hc6 => ?_)
  · refine ev_pc (pc' := 72) rfl ?_
    exact absurd hc6 (by omega)
  · refine ev_pc (pc' := 9) rfl ?_
    refine ev_aload_n dX1_addPiece_9 rfl rfl ?_
    first | refine ev_getfield dX1_addPiece_10 lf_1_19 (x0) rfl ?_ | refine ev_getfield dX1_addPiece_10 lf_1_19 (x1) rfl ?_ | refine ev_getfield dX1_addPiece_10 lf_1_19 (x2) rfl ?_ | refine ev_getfield dX1_addPiece_10 lf_1_19 (x3) rfl ?_ | refine ev_getfield dX1_addPiece_10 lf_1_19 (x4) rfl ?_ | refine ev_getfield dX1_addPiece_10 lf_1_19 (x5) rfl ?_
    refine ev_aload_n dX1_addPiece_13 rfl rfl ?_
    first | refine ev_getfield dX1_addPiece_14 lf_1_32 (x0) rfl ?_ | refine ev_getfield dX1_addPiece_14 lf_1_32 (x1) rfl ?_ | refine ev_getfield dX1_addPiece_14 lf_1_32 (x2) rfl ?_ | refine ev_getfield dX1_addPiece_14 lf_1_32 (x3) rfl ?_ | refine ev_getfield dX1_addPiece_14 lf_1_32 (x4) rfl ?_ | refine ev_getfield dX1_addPiece_14 lf_1_32 (x5) rfl ?_
    refine ev_iload_n dX1_addPiece_17 rfl rfl ?_
    first | refine ev_iastoreF dX1_addPiece_18 (x0) (by omega) (by decide) ?_ | refine ev_iastoreF dX1_addPiece_18 (x1) (by omega) (by decide) ?_ | refine ev_iastoreF dX1_addPiece_18 (x2) (by omega) (by decide) ?_ | refine ev_iastoreF dX1_addPiece_18 (x3) (by omega) (by decide) ?_ | refine ev_iastoreF dX1_addPiece_18 (x4) (by omega) (by decide) ?_ | refine ev_iastoreF dX1_addPiece_18 (x5) (by omega) (by decide) ?_
    refine ev_aload_n dX1_addPiece_19 rfl rfl ?_
    first | refine ev_getfield dX1_addPiece_20 lf_1_22 (mset_s _ _ _) rfl ?_ | refine ev_getfield dX1_addPiece_20 lf_1_22 ((mset_n (by omega)).trans (x0)) rfl ?_ | refine ev_getfield dX1_addPiece_20 lf_1_22 ((mset_n (by omega)).trans (x1)) rfl ?_ | refine ev_getfield dX1_addPiece_20 lf_1_22 ((mset_n (by omega)).trans (x2)) rfl ?_ | refine ev_getfield dX1_addPiece_20 lf_1_22 ((mset_n (by omega)).trans (x3)) rfl ?_ | refine ev_getfield dX1_addPiece_20 lf_1_22 ((mset_n (by omega)).trans (x4)) rfl ?_ | refine ev_getfield dX1_addPiece_20 lf_1_22 ((mset_n (by omega)).trans (x5)) rfl ?_
    refine ev_aload_n dX1_addPiece_23 rfl rfl ?_
    first | refine ev_getfield dX1_addPiece_24 lf_1_32 (mset_s _ _ _) rfl ?_ | refine ev_getfield dX1_addPiece_24 lf_1_32 ((mset_n (by omega)).trans (x0)) rfl ?_ | refine ev_getfield dX1_addPiece_24 lf_1_32 ((mset_n (by omega)).trans (x1)) rfl ?_ | refine ev_getfield dX1_addPiece_24 lf_1_32 ((mset_n (by omega)).trans (x2)) rfl ?_ | refine ev_getfield dX1_addPiece_24 lf_1_32 ((mset_n (by omega)).trans (x3)) rfl ?_ | refine ev_getfield dX1_addPiece_24 lf_1_32 ((mset_n (by omega)).trans (x4)) rfl ?_ | refine ev_getfield dX1_addPiece_24 lf_1_32 ((mset_n (by omega)).trans (x5)) rfl ?_
    refine ev_iload_n dX1_addPiece_27 rfl rfl ?_
    first | refine ev_iastoreF dX1_addPiece_28 (mset_s _ _ _) (by omega) (by decide) ?_ | refine ev_iastoreF dX1_addPiece_28 ((mset_n (by omega)).trans (x0)) (by omega) (by decide) ?_ | refine ev_iastoreF dX1_addPiece_28 ((mset_n (by omega)).trans (x1)) (by omega) (by decide) ?_ | refine ev_iastoreF dX1_addPiece_28 ((mset_n (by omega)).trans (x2)) (by omega) (by decide) ?_ | refine ev_iastoreF dX1_addPiece_28 ((mset_n (by omega)).trans (x3)) (by omega) (by decide) ?_ | refine ev_iastoreF dX1_addPiece_28 ((mset_n (by omega)).trans (x4)) (by omega) (by decide) ?_ | refine ev_iastoreF dX1_addPiece_28 ((mset_n (by omega)).trans (x5)) (by omega) (by decide) ?_
    refine ev_aload_n dX1_addPiece_29 rfl rfl ?_
    first | refine ev_getfield dX1_addPiece_30 lf_1_25 (mset_s _ _ _) rfl ?_ | refine ev_getfield dX1_addPiece_30 lf_1_25 ((mset_n (by omega)).trans (mset_s _ _ _)) rfl ?_ | refine ev_getfield dX1_addPiece_30 lf_1_25 ((mset_n (by omega)).trans ((mset_n (by omega)).trans (x0))) rfl ?_ | refine ev_getfield dX1_addPiece_30 lf_1_25 ((mset_n (by omega)).trans ((mset_n (by omega)).trans (x1))) rfl ?_ | refine ev_getfield dX1_addPiece_30 lf_1_25 ((mset_n (by omega)).trans ((mset_n (by omega)).trans (x2))) rfl ?_ | refine ev_getfield dX1_addPiece_30 lf_1_25 ((mset_n (by omega)).trans ((mset_n (by omega)).trans (x3))) rfl ?_ | refine ev_getfield dX1_addPiece_30 lf_1_25 ((mset_n (by omega)).trans ((mset_n (by omega)).trans (x4))) rfl ?_ | refine ev_getfield dX1_addPiece_30 lf_1_25 ((mset_n (by omega)).trans ((mset_n (by omega)).trans (x5))) rfl ?_
    refine ev_aload_n dX1_addPiece_33 rfl rfl ?_
    first | refine ev_getfield dX1_addPiece_34 lf_1_32 (mset_s _ _ _) rfl ?_ | refine ev_getfield dX1_addPiece_34 lf_1_32 ((mset_n (by omega)).trans (mset_s _ _ _)) rfl ?_ | refine ev_getfield dX1_addPiece_34 lf_1_32 ((mset_n (by omega)).trans ((mset_n (by omega)).trans (x0))) rfl ?_ | refine ev_getfield dX1_addPiece_34 lf_1_32 ((mset_n (by omega)).trans ((mset_n (by omega)).trans (x1))) rfl ?_ | refine ev_getfield dX1_addPiece_34 lf_1_32 ((mset_n (by omega)).trans ((mset_n (by omega)).trans (x2))) rfl ?_ | refine ev_getfield dX1_addPiece_34 lf_1_32 ((mset_n (by omega)).trans ((mset_n (by omega)).trans (x3))) rfl ?_ | refine ev_getfield dX1_addPiece_34 lf_1_32 ((mset_n (by omega)).trans ((mset_n (by omega)).trans (x4))) rfl ?_ | refine ev_getfield dX1_addPiece_34 lf_1_32 ((mset_n (by omega)).trans ((mset_n (by omega)).trans (x5))) rfl ?_
    refine ev_iload_n dX1_addPiece_37 rfl rfl ?_
    refine ev_if_eqB 45 dX1_addPiece_38 rfl (fun hc38 => ?_) (fun hc38 => ?_)
    · refine ev_iconst (nI 0) dX1_addPiece_45 rfl ?_
      first | refine ev_iastoreF dX1_addPiece_46 (mset_s _ _ _) (by omega) (by decide) ?_ | refine ev_iastoreF dX1_addPiece_46 ((mset_n (by omega)).trans (mset_s _ _ _)) (by omega) (by decide) ?_ | refine ev_iastoreF dX1_addPiece_46 ((mset_n (by omega)).trans ((mset_n (by omega)).trans (x0))) (by omega) (by decide) ?_ | refine ev_iastoreF dX1_addPiece_46 ((mset_n (by omega)).trans ((mset_n (by omega)).trans (x1))) (by omega) (by decide) ?_ | refine ev_iastoreF dX1_addPiece_46 ((mset_n (by omega)).trans ((mset_n (by omega)).trans (x2))) (by omega) (by decide) ?_ | refine ev_iastoreF dX1_addPiece_46 ((mset_n (by omega)).trans ((mset_n (by omega)).trans (x3))) (by omega) (by decide) ?_ | refine ev_iastoreF dX1_addPiece_46 ((mset_n (by omega)).trans ((mset_n (by omega)).trans (x4))) (by omega) (by decide) ?_ | refine ev_iastoreF dX1_addPiece_46 ((mset_n (by omega)).trans ((mset_n (by omega)).trans (x5))) (by omega) (by decide) ?_
      refine ev_aload_n dX1_addPiece_47 rfl rfl ?_
      first | refine ev_getfield dX1_addPiece_48 lf_1_28 (mset_s _ _ _) rfl ?_ | refine ev_getfield dX1_addPiece_48 lf_1_28 ((mset_n (by omega)).trans (mset_s _ _ _)) rfl ?_ | refine ev_getfield dX1_addPiece_48 lf_1_28 ((mset_n (by omega)).trans ((mset_n (by omega)).trans (mset_s _ _ _))) rfl ?_ | refine ev_getfield dX1_addPiece_48 lf_1_28 ((mset_n (by omega)).trans ((mset_n (by omega)).trans ((mset_n (by omega)).trans (x0)))) rfl ?_ | refine ev_getfield dX1_addPiece_48 lf_1_28 ((mset_n (by omega)).trans ((mset_n (by omega)).trans ((mset_n (by omega)).trans (x1)))) rfl ?_ | refine ev_getfield dX1_addPiece_48 lf_1_28 ((mset_n (by omega)).trans ((mset_n (by omega)).trans ((mset_n (by omega)).trans (x2)))) rfl ?_ | refine ev_getfield dX1_addPiece_48 lf_1_28 ((mset_n (by omega)).trans ((mset_n (by omega)).trans ((mset_n (by omega)).trans (x3)))) rfl ?_ | refine ev_getfield dX1_addPiece_48 lf_1_28 ((mset_n (by omega)).trans ((mset_n (by omega)).trans ((mset_n (by omega)).trans (x4)))) rfl ?_ | refine ev_getfield dX1_addPiece_48 lf_1_28 ((mset_n (by omega)).trans ((mset_n (by omega)).trans ((mset_n (by omega)).trans (x5)))) rfl ?_
      refine ev_aload_n dX1_addPiece_51 rfl rfl ?_
      first | refine ev_getfield dX1_addPiece_52 lf_1_32 (mset_s _ _ _) rfl ?_ | refine ev_getfield dX1_addPiece_52 lf_1_32 ((mset_n (by omega)).trans (mset_s _ _ _)) rfl ?_ | refine ev_getfield dX1_addPiece_52 lf_1_32 ((mset_n (by omega)).trans ((mset_n (by omega)).trans (mset_s _ _ _))) rfl ?_ | refine ev_getfield dX1_addPiece_52 lf_1_32 ((mset_n (by omega)).trans ((mset_n (by omega)).trans ((mset_n (by omega)).trans (x0)))) rfl ?_ | refine ev_getfield dX1_addPiece_52 lf_1_32 ((mset_n (by omega)).trans ((mset_n (by omega)).trans ((mset_n (by omega)).trans (x1)))) rfl ?_ | refine ev_getfield dX1_addPiece_52 lf_1_32 ((mset_n (by omega)).trans ((mset_n (by omega)).trans ((mset_n (by omega)).trans (x2)))) rfl ?_ | refine ev_getfield dX1_addPiece_52 lf_1_32 ((mset_n (by omega)).trans ((mset_n (by omega)).trans ((mset_n (by omega)).trans (x3)))) rfl ?_ | refine ev_getfield dX1_addPiece_52 lf_1_32 ((mset_n (by omega)).trans ((mset_n (by omega)).trans ((mset_n (by omega)).trans (x4)))) rfl ?_ | refine ev_getfield dX1_addPiece_52 lf_1_32 ((mset_n (by omega)).trans ((mset_n (by omega)).trans ((mset_n (by omega)).trans (x5)))) rfl ?_
      refine ev_aload_n dX1_addPiece_55 rfl rfl ?_
      refine ev_iload_n dX1_addPiece_56 rfl rfl ?_
      refine ev_iload_n dX1_addPiece_57 rfl rfl ?_
      first | refine ev_callVP2 dX1_addPiece_58 cal_X1_packed lk_1_65 ⟨(Nat.le_of_ble_eq_true rfl), (Nat.le_of_ble_eq_true rfl)⟩ rfl (mset_s _ _ _) (Nat.le_of_ble_eq_true rfl) (c_packed (K := K) ⟨sg, _, _, _, _, IsCut.frc (IsCut.len (IsCut.sta ⟨x0, x1, x2, x3, x4, x5⟩)), hL, hN, hS, keepP hP⟩ a m ham h1) ?_ | refine ev_callVP2 dX1_addPiece_58 cal_X1_packed lk_1_65 ⟨(Nat.le_of_ble_eq_true rfl), (Nat.le_of_ble_eq_true rfl)⟩ rfl ((mset_n (by omega)).trans (mset_s _ _ _)) (Nat.le_of_ble_eq_true rfl) (c_packed (K := K) ⟨sg, _, _, _, _, IsCut.frc (IsCut.len (IsCut.sta ⟨x0, x1, x2, x3, x4, x5⟩)), hL, hN, hS, keepP hP⟩ a m ham h1) ?_ | refine ev_callVP2 dX1_addPiece_58 cal_X1_packed lk_1_65 ⟨(Nat.le_of_ble_eq_true rfl), (Nat.le_of_ble_eq_true rfl)⟩ rfl ((mset_n (by omega)).trans ((mset_n (by omega)).trans (mset_s _ _ _))) (Nat.le_of_ble_eq_true rfl) (c_packed (K := K) ⟨sg, _, _, _, _, IsCut.frc (IsCut.len (IsCut.sta ⟨x0, x1, x2, x3, x4, x5⟩)), hL, hN, hS, keepP hP⟩ a m ham h1) ?_ | refine ev_callVP2 dX1_addPiece_58 cal_X1_packed lk_1_65 ⟨(Nat.le_of_ble_eq_true rfl), (Nat.le_of_ble_eq_true rfl)⟩ rfl ((mset_n (by omega)).trans ((mset_n (by omega)).trans ((mset_n (by omega)).trans (x0)))) (Nat.le_of_ble_eq_true rfl) (c_packed (K := K) ⟨sg, _, _, _, _, IsCut.frc (IsCut.len (IsCut.sta ⟨x0, x1, x2, x3, x4, x5⟩)), hL, hN, hS, keepP hP⟩ a m ham h1) ?_ | refine ev_callVP2 dX1_addPiece_58 cal_X1_packed lk_1_65 ⟨(Nat.le_of_ble_eq_true rfl), (Nat.le_of_ble_eq_true rfl)⟩ rfl ((mset_n (by omega)).trans ((mset_n (by omega)).trans ((mset_n (by omega)).trans (x1)))) (Nat.le_of_ble_eq_true rfl) (c_packed (K := K) ⟨sg, _, _, _, _, IsCut.frc (IsCut.len (IsCut.sta ⟨x0, x1, x2, x3, x4, x5⟩)), hL, hN, hS, keepP hP⟩ a m ham h1) ?_ | refine ev_callVP2 dX1_addPiece_58 cal_X1_packed lk_1_65 ⟨(Nat.le_of_ble_eq_true rfl), (Nat.le_of_ble_eq_true rfl)⟩ rfl ((mset_n (by omega)).trans ((mset_n (by omega)).trans ((mset_n (by omega)).trans (x2)))) (Nat.le_of_ble_eq_true rfl) (c_packed (K := K) ⟨sg, _, _, _, _, IsCut.frc (IsCut.len (IsCut.sta ⟨x0, x1, x2, x3, x4, x5⟩)), hL, hN, hS, keepP hP⟩ a m ham h1) ?_ | refine ev_callVP2 dX1_addPiece_58 cal_X1_packed lk_1_65 ⟨(Nat.le_of_ble_eq_true rfl), (Nat.le_of_ble_eq_true rfl)⟩ rfl ((mset_n (by omega)).trans ((mset_n (by omega)).trans ((mset_n (by omega)).trans (x3)))) (Nat.le_of_ble_eq_true rfl) (c_packed (K := K) ⟨sg, _, _, _, _, IsCut.frc (IsCut.len (IsCut.sta ⟨x0, x1, x2, x3, x4, x5⟩)), hL, hN, hS, keepP hP⟩ a m ham h1) ?_ | refine ev_callVP2 dX1_addPiece_58 cal_X1_packed lk_1_65 ⟨(Nat.le_of_ble_eq_true rfl), (Nat.le_of_ble_eq_true rfl)⟩ rfl ((mset_n (by omega)).trans ((mset_n (by omega)).trans ((mset_n (by omega)).trans (x4)))) (Nat.le_of_ble_eq_true rfl) (c_packed (K := K) ⟨sg, _, _, _, _, IsCut.frc (IsCut.len (IsCut.sta ⟨x0, x1, x2, x3, x4, x5⟩)), hL, hN, hS, keepP hP⟩ a m ham h1) ?_ | refine ev_callVP2 dX1_addPiece_58 cal_X1_packed lk_1_65 ⟨(Nat.le_of_ble_eq_true rfl), (Nat.le_of_ble_eq_true rfl)⟩ rfl ((mset_n (by omega)).trans ((mset_n (by omega)).trans ((mset_n (by omega)).trans (x5)))) (Nat.le_of_ble_eq_true rfl) (c_packed (K := K) ⟨sg, _, _, _, _, IsCut.frc (IsCut.len (IsCut.sta ⟨x0, x1, x2, x3, x4, x5⟩)), hL, hN, hS, keepP hP⟩ a m ham h1) ?_
      first | refine ev_lastoreN dX1_addPiece_61 (mset_s _ _ _) (by omega) (by decide) ?_ | refine ev_lastoreN dX1_addPiece_61 ((mset_n (by omega)).trans (mset_s _ _ _)) (by omega) (by decide) ?_ | refine ev_lastoreN dX1_addPiece_61 ((mset_n (by omega)).trans ((mset_n (by omega)).trans (mset_s _ _ _))) (by omega) (by decide) ?_ | refine ev_lastoreN dX1_addPiece_61 ((mset_n (by omega)).trans ((mset_n (by omega)).trans ((mset_n (by omega)).trans (x0)))) (by omega) (by decide) ?_ | refine ev_lastoreN dX1_addPiece_61 ((mset_n (by omega)).trans ((mset_n (by omega)).trans ((mset_n (by omega)).trans (x1)))) (by omega) (by decide) ?_ | refine ev_lastoreN dX1_addPiece_61 ((mset_n (by omega)).trans ((mset_n (by omega)).trans ((mset_n (by omega)).trans (x2)))) (by omega) (by decide) ?_ | refine ev_lastoreN dX1_addPiece_61 ((mset_n (by omega)).trans ((mset_n (by omega)).trans ((mset_n (by omega)).trans (x3)))) (by omega) (by decide) ?_ | refine ev_lastoreN dX1_addPiece_61 ((mset_n (by omega)).trans ((mset_n (by omega)).trans ((mset_n (by omega)).trans (x4)))) (by omega) (by decide) ?_ | refine ev_lastoreN dX1_addPiece_61 ((mset_n (by omega)).trans ((mset_n (by omega)).trans ((mset_n (by omega)).trans (x5)))) (by omega) (by decide) ?_
      refine ev_aload_n dX1_addPiece_62 rfl rfl ?_
      refine ev_dup dX1_addPiece_63 rfl ?_
      first | refine ev_getfield dX1_addPiece_64 lf_1_32 (mset_s _ _ _) rfl ?_ | refine ev_getfield dX1_addPiece_64 lf_1_32 ((mset_n (by omega)).trans (mset_s _ _ _)) rfl ?_ | refine ev_getfield dX1_addPiece_64 lf_1_32 ((mset_n (by omega)).trans ((mset_n (by omega)).trans (mset_s _ _ _))) rfl ?_ | refine ev_getfield dX1_addPiece_64 lf_1_32 ((mset_n (by omega)).trans ((mset_n (by omega)).trans ((mset_n (by omega)).trans (mset_s _ _ _)))) rfl ?_ | refine ev_getfield dX1_addPiece_64 lf_1_32 ((mset_n (by omega)).trans ((mset_n (by omega)).trans ((mset_n (by omega)).trans ((mset_n (by omega)).trans (x0))))) rfl ?_ | refine ev_getfield dX1_addPiece_64 lf_1_32 ((mset_n (by omega)).trans ((mset_n (by omega)).trans ((mset_n (by omega)).trans ((mset_n (by omega)).trans (x1))))) rfl ?_ | refine ev_getfield dX1_addPiece_64 lf_1_32 ((mset_n (by omega)).trans ((mset_n (by omega)).trans ((mset_n (by omega)).trans ((mset_n (by omega)).trans (x2))))) rfl ?_ | refine ev_getfield dX1_addPiece_64 lf_1_32 ((mset_n (by omega)).trans ((mset_n (by omega)).trans ((mset_n (by omega)).trans ((mset_n (by omega)).trans (x3))))) rfl ?_ | refine ev_getfield dX1_addPiece_64 lf_1_32 ((mset_n (by omega)).trans ((mset_n (by omega)).trans ((mset_n (by omega)).trans ((mset_n (by omega)).trans (x4))))) rfl ?_ | refine ev_getfield dX1_addPiece_64 lf_1_32 ((mset_n (by omega)).trans ((mset_n (by omega)).trans ((mset_n (by omega)).trans ((mset_n (by omega)).trans (x5))))) rfl ?_
      refine ev_iconst (nI 1) dX1_addPiece_67 rfl ?_
      refine ev_iaddN dX1_addPiece_68 ?_
      first | refine ev_putfield (fs' := [_, _, _, _, _, _, _]) dX1_addPiece_69 lf_1_32 rfl (mset_s _ _ _) (Nat.le_of_ble_eq_true rfl) rfl rfl rfl ?_ | refine ev_putfield (fs' := [_, _, _, _, _, _, _]) dX1_addPiece_69 lf_1_32 rfl ((mset_n (by omega)).trans (mset_s _ _ _)) (Nat.le_of_ble_eq_true rfl) rfl rfl rfl ?_ | refine ev_putfield (fs' := [_, _, _, _, _, _, _]) dX1_addPiece_69 lf_1_32 rfl ((mset_n (by omega)).trans ((mset_n (by omega)).trans (mset_s _ _ _))) (Nat.le_of_ble_eq_true rfl) rfl rfl rfl ?_ | refine ev_putfield (fs' := [_, _, _, _, _, _, _]) dX1_addPiece_69 lf_1_32 rfl ((mset_n (by omega)).trans ((mset_n (by omega)).trans ((mset_n (by omega)).trans (mset_s _ _ _)))) (Nat.le_of_ble_eq_true rfl) rfl rfl rfl ?_ | refine ev_putfield (fs' := [_, _, _, _, _, _, _]) dX1_addPiece_69 lf_1_32 rfl ((mset_n (by omega)).trans ((mset_n (by omega)).trans ((mset_n (by omega)).trans ((mset_n (by omega)).trans (x0))))) (Nat.le_of_ble_eq_true rfl) rfl rfl rfl ?_ | refine ev_putfield (fs' := [_, _, _, _, _, _, _]) dX1_addPiece_69 lf_1_32 rfl ((mset_n (by omega)).trans ((mset_n (by omega)).trans ((mset_n (by omega)).trans ((mset_n (by omega)).trans (x1))))) (Nat.le_of_ble_eq_true rfl) rfl rfl rfl ?_ | refine ev_putfield (fs' := [_, _, _, _, _, _, _]) dX1_addPiece_69 lf_1_32 rfl ((mset_n (by omega)).trans ((mset_n (by omega)).trans ((mset_n (by omega)).trans ((mset_n (by omega)).trans (x2))))) (Nat.le_of_ble_eq_true rfl) rfl rfl rfl ?_ | refine ev_putfield (fs' := [_, _, _, _, _, _, _]) dX1_addPiece_69 lf_1_32 rfl ((mset_n (by omega)).trans ((mset_n (by omega)).trans ((mset_n (by omega)).trans ((mset_n (by omega)).trans (x3))))) (Nat.le_of_ble_eq_true rfl) rfl rfl rfl ?_ | refine ev_putfield (fs' := [_, _, _, _, _, _, _]) dX1_addPiece_69 lf_1_32 rfl ((mset_n (by omega)).trans ((mset_n (by omega)).trans ((mset_n (by omega)).trans ((mset_n (by omega)).trans (x4))))) (Nat.le_of_ble_eq_true rfl) rfl rfl rfl ?_ | refine ev_putfield (fs' := [_, _, _, _, _, _, _]) dX1_addPiece_69 lf_1_32 rfl ((mset_n (by omega)).trans ((mset_n (by omega)).trans ((mset_n (by omega)).trans ((mset_n (by omega)).trans (x5))))) (Nat.le_of_ble_eq_true rfl) rfl rfl rfl ?_
      refine ev_return dX1_addPiece_72 rfl (Or.inl rfl) (Nat.zero_le _) (Nat.zero_le _) ?_
      refine ⟨_, rfl, rfl, ⟨_, _, _, _, _, IsCut.obj (IsCut.row (IsCut.frc (IsCut.len (IsCut.sta ⟨x0, x1, x2, x3, x4, x5⟩)))), hL, hn, hS, fun p hp => ?_⟩, (((((Out.set (by omega) (by omega)).tr (Out.set (by omega) (by omega))).tr (Out.set (by omega) (by omega))).tr (Out.set (by omega) (by omega))).tr (Out.set (by omega) (by omega)))⟩
      by_cases e : p = kN K
      · rw [e]
        refine ⟨(upN_s _ _ _).trans (upN_s _ _ _).symm, (upN_s _ _ _).trans (upN_s _ _ _).symm, (upN_s _ _ _).trans (by show _ = b2n (upB (kF K) (kN K) b (kN K)); rw [upB_s, hc38]; rfl), (upL_s _ _ _).trans (upL_s _ _ _).symm, ?_, ?_⟩
        · show upN (kP K) (kN K) a (kN K) ≤ 40
          rw [upN_s]; omega
        · show upN (kQ K) (kN K) m (kN K) ≤ 40
          rw [upN_s]; omega
      · have q := hP p (by have : p < kN K + 1 := hp; omega)
        refine ⟨(upN_n e).trans (q.1.trans (upN_n e).symm), (upN_n e).trans (q.2.1.trans (upN_n e).symm), (upN_n e).trans (q.2.2.1.trans (by show _ = b2n (upB (kF K) (kN K) b p); rw [upB_n e])), (upL_n e).trans (q.2.2.2.1.trans (upL_n e).symm), ?_, ?_⟩
        · show upN (kP K) (kN K) a p ≤ 40
          rw [upN_n e]; exact q.2.2.2.2.1
        · show upN (kQ K) (kN K) m p ≤ 40
          rw [upN_n e]; exact q.2.2.2.2.2
    · refine ev_iconst (nI 1) dX1_addPiece_41 rfl ?_
      refine ev_goto 46 dX1_addPiece_42 rfl ?_
      first | refine ev_iastoreF dX1_addPiece_46 (mset_s _ _ _) (by omega) (by decide) ?_ | refine ev_iastoreF dX1_addPiece_46 ((mset_n (by omega)).trans (mset_s _ _ _)) (by omega) (by decide) ?_ | refine ev_iastoreF dX1_addPiece_46 ((mset_n (by omega)).trans ((mset_n (by omega)).trans (x0))) (by omega) (by decide) ?_ | refine ev_iastoreF dX1_addPiece_46 ((mset_n (by omega)).trans ((mset_n (by omega)).trans (x1))) (by omega) (by decide) ?_ | refine ev_iastoreF dX1_addPiece_46 ((mset_n (by omega)).trans ((mset_n (by omega)).trans (x2))) (by omega) (by decide) ?_ | refine ev_iastoreF dX1_addPiece_46 ((mset_n (by omega)).trans ((mset_n (by omega)).trans (x3))) (by omega) (by decide) ?_ | refine ev_iastoreF dX1_addPiece_46 ((mset_n (by omega)).trans ((mset_n (by omega)).trans (x4))) (by omega) (by decide) ?_ | refine ev_iastoreF dX1_addPiece_46 ((mset_n (by omega)).trans ((mset_n (by omega)).trans (x5))) (by omega) (by decide) ?_
      refine ev_aload_n dX1_addPiece_47 rfl rfl ?_
      first | refine ev_getfield dX1_addPiece_48 lf_1_28 (mset_s _ _ _) rfl ?_ | refine ev_getfield dX1_addPiece_48 lf_1_28 ((mset_n (by omega)).trans (mset_s _ _ _)) rfl ?_ | refine ev_getfield dX1_addPiece_48 lf_1_28 ((mset_n (by omega)).trans ((mset_n (by omega)).trans (mset_s _ _ _))) rfl ?_ | refine ev_getfield dX1_addPiece_48 lf_1_28 ((mset_n (by omega)).trans ((mset_n (by omega)).trans ((mset_n (by omega)).trans (x0)))) rfl ?_ | refine ev_getfield dX1_addPiece_48 lf_1_28 ((mset_n (by omega)).trans ((mset_n (by omega)).trans ((mset_n (by omega)).trans (x1)))) rfl ?_ | refine ev_getfield dX1_addPiece_48 lf_1_28 ((mset_n (by omega)).trans ((mset_n (by omega)).trans ((mset_n (by omega)).trans (x2)))) rfl ?_ | refine ev_getfield dX1_addPiece_48 lf_1_28 ((mset_n (by omega)).trans ((mset_n (by omega)).trans ((mset_n (by omega)).trans (x3)))) rfl ?_ | refine ev_getfield dX1_addPiece_48 lf_1_28 ((mset_n (by omega)).trans ((mset_n (by omega)).trans ((mset_n (by omega)).trans (x4)))) rfl ?_ | refine ev_getfield dX1_addPiece_48 lf_1_28 ((mset_n (by omega)).trans ((mset_n (by omega)).trans ((mset_n (by omega)).trans (x5)))) rfl ?_
      refine ev_aload_n dX1_addPiece_51 rfl rfl ?_
      first | refine ev_getfield dX1_addPiece_52 lf_1_32 (mset_s _ _ _) rfl ?_ | refine ev_getfield dX1_addPiece_52 lf_1_32 ((mset_n (by omega)).trans (mset_s _ _ _)) rfl ?_ | refine ev_getfield dX1_addPiece_52 lf_1_32 ((mset_n (by omega)).trans ((mset_n (by omega)).trans (mset_s _ _ _))) rfl ?_ | refine ev_getfield dX1_addPiece_52 lf_1_32 ((mset_n (by omega)).trans ((mset_n (by omega)).trans ((mset_n (by omega)).trans (x0)))) rfl ?_ | refine ev_getfield dX1_addPiece_52 lf_1_32 ((mset_n (by omega)).trans ((mset_n (by omega)).trans ((mset_n (by omega)).trans (x1)))) rfl ?_ | refine ev_getfield dX1_addPiece_52 lf_1_32 ((mset_n (by omega)).trans ((mset_n (by omega)).trans ((mset_n (by omega)).trans (x2)))) rfl ?_ | refine ev_getfield dX1_addPiece_52 lf_1_32 ((mset_n (by omega)).trans ((mset_n (by omega)).trans ((mset_n (by omega)).trans (x3)))) rfl ?_ | refine ev_getfield dX1_addPiece_52 lf_1_32 ((mset_n (by omega)).trans ((mset_n (by omega)).trans ((mset_n (by omega)).trans (x4)))) rfl ?_ | refine ev_getfield dX1_addPiece_52 lf_1_32 ((mset_n (by omega)).trans ((mset_n (by omega)).trans ((mset_n (by omega)).trans (x5)))) rfl ?_
      refine ev_aload_n dX1_addPiece_55 rfl rfl ?_
      refine ev_iload_n dX1_addPiece_56 rfl rfl ?_
      refine ev_iload_n dX1_addPiece_57 rfl rfl ?_
      first | refine ev_callVP2 dX1_addPiece_58 cal_X1_packed lk_1_65 ⟨(Nat.le_of_ble_eq_true rfl), (Nat.le_of_ble_eq_true rfl)⟩ rfl (mset_s _ _ _) (Nat.le_of_ble_eq_true rfl) (c_packed (K := K) ⟨sg, _, _, _, _, IsCut.frc (IsCut.len (IsCut.sta ⟨x0, x1, x2, x3, x4, x5⟩)), hL, hN, hS, keepP hP⟩ a m ham h1) ?_ | refine ev_callVP2 dX1_addPiece_58 cal_X1_packed lk_1_65 ⟨(Nat.le_of_ble_eq_true rfl), (Nat.le_of_ble_eq_true rfl)⟩ rfl ((mset_n (by omega)).trans (mset_s _ _ _)) (Nat.le_of_ble_eq_true rfl) (c_packed (K := K) ⟨sg, _, _, _, _, IsCut.frc (IsCut.len (IsCut.sta ⟨x0, x1, x2, x3, x4, x5⟩)), hL, hN, hS, keepP hP⟩ a m ham h1) ?_ | refine ev_callVP2 dX1_addPiece_58 cal_X1_packed lk_1_65 ⟨(Nat.le_of_ble_eq_true rfl), (Nat.le_of_ble_eq_true rfl)⟩ rfl ((mset_n (by omega)).trans ((mset_n (by omega)).trans (mset_s _ _ _))) (Nat.le_of_ble_eq_true rfl) (c_packed (K := K) ⟨sg, _, _, _, _, IsCut.frc (IsCut.len (IsCut.sta ⟨x0, x1, x2, x3, x4, x5⟩)), hL, hN, hS, keepP hP⟩ a m ham h1) ?_ | refine ev_callVP2 dX1_addPiece_58 cal_X1_packed lk_1_65 ⟨(Nat.le_of_ble_eq_true rfl), (Nat.le_of_ble_eq_true rfl)⟩ rfl ((mset_n (by omega)).trans ((mset_n (by omega)).trans ((mset_n (by omega)).trans (x0)))) (Nat.le_of_ble_eq_true rfl) (c_packed (K := K) ⟨sg, _, _, _, _, IsCut.frc (IsCut.len (IsCut.sta ⟨x0, x1, x2, x3, x4, x5⟩)), hL, hN, hS, keepP hP⟩ a m ham h1) ?_ | refine ev_callVP2 dX1_addPiece_58 cal_X1_packed lk_1_65 ⟨(Nat.le_of_ble_eq_true rfl), (Nat.le_of_ble_eq_true rfl)⟩ rfl ((mset_n (by omega)).trans ((mset_n (by omega)).trans ((mset_n (by omega)).trans (x1)))) (Nat.le_of_ble_eq_true rfl) (c_packed (K := K) ⟨sg, _, _, _, _, IsCut.frc (IsCut.len (IsCut.sta ⟨x0, x1, x2, x3, x4, x5⟩)), hL, hN, hS, keepP hP⟩ a m ham h1) ?_ | refine ev_callVP2 dX1_addPiece_58 cal_X1_packed lk_1_65 ⟨(Nat.le_of_ble_eq_true rfl), (Nat.le_of_ble_eq_true rfl)⟩ rfl ((mset_n (by omega)).trans ((mset_n (by omega)).trans ((mset_n (by omega)).trans (x2)))) (Nat.le_of_ble_eq_true rfl) (c_packed (K := K) ⟨sg, _, _, _, _, IsCut.frc (IsCut.len (IsCut.sta ⟨x0, x1, x2, x3, x4, x5⟩)), hL, hN, hS, keepP hP⟩ a m ham h1) ?_ | refine ev_callVP2 dX1_addPiece_58 cal_X1_packed lk_1_65 ⟨(Nat.le_of_ble_eq_true rfl), (Nat.le_of_ble_eq_true rfl)⟩ rfl ((mset_n (by omega)).trans ((mset_n (by omega)).trans ((mset_n (by omega)).trans (x3)))) (Nat.le_of_ble_eq_true rfl) (c_packed (K := K) ⟨sg, _, _, _, _, IsCut.frc (IsCut.len (IsCut.sta ⟨x0, x1, x2, x3, x4, x5⟩)), hL, hN, hS, keepP hP⟩ a m ham h1) ?_ | refine ev_callVP2 dX1_addPiece_58 cal_X1_packed lk_1_65 ⟨(Nat.le_of_ble_eq_true rfl), (Nat.le_of_ble_eq_true rfl)⟩ rfl ((mset_n (by omega)).trans ((mset_n (by omega)).trans ((mset_n (by omega)).trans (x4)))) (Nat.le_of_ble_eq_true rfl) (c_packed (K := K) ⟨sg, _, _, _, _, IsCut.frc (IsCut.len (IsCut.sta ⟨x0, x1, x2, x3, x4, x5⟩)), hL, hN, hS, keepP hP⟩ a m ham h1) ?_ | refine ev_callVP2 dX1_addPiece_58 cal_X1_packed lk_1_65 ⟨(Nat.le_of_ble_eq_true rfl), (Nat.le_of_ble_eq_true rfl)⟩ rfl ((mset_n (by omega)).trans ((mset_n (by omega)).trans ((mset_n (by omega)).trans (x5)))) (Nat.le_of_ble_eq_true rfl) (c_packed (K := K) ⟨sg, _, _, _, _, IsCut.frc (IsCut.len (IsCut.sta ⟨x0, x1, x2, x3, x4, x5⟩)), hL, hN, hS, keepP hP⟩ a m ham h1) ?_
      first | refine ev_lastoreN dX1_addPiece_61 (mset_s _ _ _) (by omega) (by decide) ?_ | refine ev_lastoreN dX1_addPiece_61 ((mset_n (by omega)).trans (mset_s _ _ _)) (by omega) (by decide) ?_ | refine ev_lastoreN dX1_addPiece_61 ((mset_n (by omega)).trans ((mset_n (by omega)).trans (mset_s _ _ _))) (by omega) (by decide) ?_ | refine ev_lastoreN dX1_addPiece_61 ((mset_n (by omega)).trans ((mset_n (by omega)).trans ((mset_n (by omega)).trans (x0)))) (by omega) (by decide) ?_ | refine ev_lastoreN dX1_addPiece_61 ((mset_n (by omega)).trans ((mset_n (by omega)).trans ((mset_n (by omega)).trans (x1)))) (by omega) (by decide) ?_ | refine ev_lastoreN dX1_addPiece_61 ((mset_n (by omega)).trans ((mset_n (by omega)).trans ((mset_n (by omega)).trans (x2)))) (by omega) (by decide) ?_ | refine ev_lastoreN dX1_addPiece_61 ((mset_n (by omega)).trans ((mset_n (by omega)).trans ((mset_n (by omega)).trans (x3)))) (by omega) (by decide) ?_ | refine ev_lastoreN dX1_addPiece_61 ((mset_n (by omega)).trans ((mset_n (by omega)).trans ((mset_n (by omega)).trans (x4)))) (by omega) (by decide) ?_ | refine ev_lastoreN dX1_addPiece_61 ((mset_n (by omega)).trans ((mset_n (by omega)).trans ((mset_n (by omega)).trans (x5)))) (by omega) (by decide) ?_
      refine ev_aload_n dX1_addPiece_62 rfl rfl ?_
      refine ev_dup dX1_addPiece_63 rfl ?_
      first | refine ev_getfield dX1_addPiece_64 lf_1_32 (mset_s _ _ _) rfl ?_ | refine ev_getfield dX1_addPiece_64 lf_1_32 ((mset_n (by omega)).trans (mset_s _ _ _)) rfl ?_ | refine ev_getfield dX1_addPiece_64 lf_1_32 ((mset_n (by omega)).trans ((mset_n (by omega)).trans (mset_s _ _ _))) rfl ?_ | refine ev_getfield dX1_addPiece_64 lf_1_32 ((mset_n (by omega)).trans ((mset_n (by omega)).trans ((mset_n (by omega)).trans (mset_s _ _ _)))) rfl ?_ | refine ev_getfield dX1_addPiece_64 lf_1_32 ((mset_n (by omega)).trans ((mset_n (by omega)).trans ((mset_n (by omega)).trans ((mset_n (by omega)).trans (x0))))) rfl ?_ | refine ev_getfield dX1_addPiece_64 lf_1_32 ((mset_n (by omega)).trans ((mset_n (by omega)).trans ((mset_n (by omega)).trans ((mset_n (by omega)).trans (x1))))) rfl ?_ | refine ev_getfield dX1_addPiece_64 lf_1_32 ((mset_n (by omega)).trans ((mset_n (by omega)).trans ((mset_n (by omega)).trans ((mset_n (by omega)).trans (x2))))) rfl ?_ | refine ev_getfield dX1_addPiece_64 lf_1_32 ((mset_n (by omega)).trans ((mset_n (by omega)).trans ((mset_n (by omega)).trans ((mset_n (by omega)).trans (x3))))) rfl ?_ | refine ev_getfield dX1_addPiece_64 lf_1_32 ((mset_n (by omega)).trans ((mset_n (by omega)).trans ((mset_n (by omega)).trans ((mset_n (by omega)).trans (x4))))) rfl ?_ | refine ev_getfield dX1_addPiece_64 lf_1_32 ((mset_n (by omega)).trans ((mset_n (by omega)).trans ((mset_n (by omega)).trans ((mset_n (by omega)).trans (x5))))) rfl ?_
      refine ev_iconst (nI 1) dX1_addPiece_67 rfl ?_
      refine ev_iaddN dX1_addPiece_68 ?_
      first | refine ev_putfield (fs' := [_, _, _, _, _, _, _]) dX1_addPiece_69 lf_1_32 rfl (mset_s _ _ _) (Nat.le_of_ble_eq_true rfl) rfl rfl rfl ?_ | refine ev_putfield (fs' := [_, _, _, _, _, _, _]) dX1_addPiece_69 lf_1_32 rfl ((mset_n (by omega)).trans (mset_s _ _ _)) (Nat.le_of_ble_eq_true rfl) rfl rfl rfl ?_ | refine ev_putfield (fs' := [_, _, _, _, _, _, _]) dX1_addPiece_69 lf_1_32 rfl ((mset_n (by omega)).trans ((mset_n (by omega)).trans (mset_s _ _ _))) (Nat.le_of_ble_eq_true rfl) rfl rfl rfl ?_ | refine ev_putfield (fs' := [_, _, _, _, _, _, _]) dX1_addPiece_69 lf_1_32 rfl ((mset_n (by omega)).trans ((mset_n (by omega)).trans ((mset_n (by omega)).trans (mset_s _ _ _)))) (Nat.le_of_ble_eq_true rfl) rfl rfl rfl ?_ | refine ev_putfield (fs' := [_, _, _, _, _, _, _]) dX1_addPiece_69 lf_1_32 rfl ((mset_n (by omega)).trans ((mset_n (by omega)).trans ((mset_n (by omega)).trans ((mset_n (by omega)).trans (x0))))) (Nat.le_of_ble_eq_true rfl) rfl rfl rfl ?_ | refine ev_putfield (fs' := [_, _, _, _, _, _, _]) dX1_addPiece_69 lf_1_32 rfl ((mset_n (by omega)).trans ((mset_n (by omega)).trans ((mset_n (by omega)).trans ((mset_n (by omega)).trans (x1))))) (Nat.le_of_ble_eq_true rfl) rfl rfl rfl ?_ | refine ev_putfield (fs' := [_, _, _, _, _, _, _]) dX1_addPiece_69 lf_1_32 rfl ((mset_n (by omega)).trans ((mset_n (by omega)).trans ((mset_n (by omega)).trans ((mset_n (by omega)).trans (x2))))) (Nat.le_of_ble_eq_true rfl) rfl rfl rfl ?_ | refine ev_putfield (fs' := [_, _, _, _, _, _, _]) dX1_addPiece_69 lf_1_32 rfl ((mset_n (by omega)).trans ((mset_n (by omega)).trans ((mset_n (by omega)).trans ((mset_n (by omega)).trans (x3))))) (Nat.le_of_ble_eq_true rfl) rfl rfl rfl ?_ | refine ev_putfield (fs' := [_, _, _, _, _, _, _]) dX1_addPiece_69 lf_1_32 rfl ((mset_n (by omega)).trans ((mset_n (by omega)).trans ((mset_n (by omega)).trans ((mset_n (by omega)).trans (x4))))) (Nat.le_of_ble_eq_true rfl) rfl rfl rfl ?_ | refine ev_putfield (fs' := [_, _, _, _, _, _, _]) dX1_addPiece_69 lf_1_32 rfl ((mset_n (by omega)).trans ((mset_n (by omega)).trans ((mset_n (by omega)).trans ((mset_n (by omega)).trans (x5))))) (Nat.le_of_ble_eq_true rfl) rfl rfl rfl ?_
      refine ev_return dX1_addPiece_72 rfl (Or.inl rfl) (Nat.zero_le _) (Nat.zero_le _) ?_
      refine ⟨_, rfl, rfl, ⟨_, _, _, _, _, IsCut.obj (IsCut.row (IsCut.frc (IsCut.len (IsCut.sta ⟨x0, x1, x2, x3, x4, x5⟩)))), hL, hn, hS, fun p hp => ?_⟩, (((((Out.set (by omega) (by omega)).tr (Out.set (by omega) (by omega))).tr (Out.set (by omega) (by omega))).tr (Out.set (by omega) (by omega))).tr (Out.set (by omega) (by omega)))⟩
      by_cases e : p = kN K
      · rw [e]
        refine ⟨(upN_s _ _ _).trans (upN_s _ _ _).symm, (upN_s _ _ _).trans (upN_s _ _ _).symm, (upN_s _ _ _).trans (by show _ = b2n (upB (kF K) (kN K) b (kN K)); rw [upB_s, hc38]; rfl), (upL_s _ _ _).trans (upL_s _ _ _).symm, ?_, ?_⟩
        · show upN (kP K) (kN K) a (kN K) ≤ 40
          rw [upN_s]; omega
        · show upN (kQ K) (kN K) m (kN K) ≤ 40
          rw [upN_s]; omega
      · have q := hP p (by have : p < kN K + 1 := hp; omega)
        refine ⟨(upN_n e).trans (q.1.trans (upN_n e).symm), (upN_n e).trans (q.2.1.trans (upN_n e).symm), (upN_n e).trans (q.2.2.1.trans (by show _ = b2n (upB (kF K) (kN K) b p); rw [upB_n e])), (upL_n e).trans (q.2.2.2.1.trans (upL_n e).symm), ?_, ?_⟩
        · show upN (kP K) (kN K) a p ≤ 40
          rw [upN_n e]; exact q.2.2.2.2.1
        · show upN (kQ K) (kN K) m p ≤ 40
          rw [upN_n e]; exact q.2.2.2.2.2
theorem cutH_1 {v s : Nat → Nat} {n i m : Nat} (h : cutE v s i m = true) : cutH v s n i m = true := by simp [cutH, h]
theorem cutH_2 {v s : Nat → Nat} {n i m : Nat} (h : cutF v m = true) : cutH v s n i m = true := by simp [cutH, h]
theorem cutH_3 {v s : Nat → Nat} {n i m : Nat} (h : i + 1 = n) : cutH v s n i m = true := by simp [cutH, h]
theorem cutH_n {v s : Nat → Nat} {n i m : Nat} (h1 : cutE v s i m = false) (h2 : cutF v m = false) (h : ¬ i + 1 = n) : cutH v s n i m = false := by simp [cutH, h1, h2, h]
set_option maxHeartbeats 4000000 in
set_option maxRecDepth 100000 in
theorem c_cutBy {X : mX} {h : mH} {c g : Nat} {K : mCt} {u : Nat → Nat} (hc : CutN h c K) (hg : SetN h g u) (hdj : c + 6 ≤ g ∨ g + 2 ≤ c) (h1 : ∀ j, j < kL K → 1 ≤ kS K j) : CnU X m_X1_cutBy [.ref c, .ref g] h (fun v h1 => v = none ∧ CutN h1 c (cutK u (kL K) (kS K)) ∧ Out h h1 c 6) := by
  obtain ⟨sg, st, le, fo, rk, ⟨x0, x1, x2, x3, x4, x5⟩, hL, hN, hS, hP⟩ := id hc
  refine cn_of_ev (L0 := [_, _, _, _, _, _, _]) (by decide +kernel) rfl rfl (Nat.le_of_ble_eq_true rfl) rfl ?_
  have hc0 : CutN (mset h c (aO 1 [.ref (c + 1), .int (nI (kL K)), .ref (c + 2), .ref (c + 3), .ref (c + 4), .ref (c + 5), .int (nI 0)])) c (ctK (kL K) (kS K) (cutG u (kL K) (kS K) 0)) := ⟨sg, st, le, fo, rk, IsCut.obj ⟨x0, x1, x2, x3, x4, x5⟩, hL, Nat.zero_le _, hS, fun p hp => absurd hp (Nat.not_lt_zero p)⟩
  have hL40 : kL K ≤ 40 := hL
  clear hL hN hS hP
  refine ev_aload_n dX1_cutBy_0 rfl rfl ?_
  refine ev_iconst (nI 0) dX1_cutBy_1 rfl ?_
  first | refine ev_putfield (fs' := [_, _, _, _, _, _, _]) dX1_cutBy_2 lf_1_32 rfl (x0) (Nat.le_of_ble_eq_true rfl) rfl rfl rfl ?_ | refine ev_putfield (fs' := [_, _, _, _, _, _, _]) dX1_cutBy_2 lf_1_32 rfl (x1) (Nat.le_of_ble_eq_true rfl) rfl rfl rfl ?_ | refine ev_putfield (fs' := [_, _, _, _, _, _, _]) dX1_cutBy_2 lf_1_32 rfl (x2) (Nat.le_of_ble_eq_true rfl) rfl rfl rfl ?_ | refine ev_putfield (fs' := [_, _, _, _, _, _, _]) dX1_cutBy_2 lf_1_32 rfl (x3) (Nat.le_of_ble_eq_true rfl) rfl rfl rfl ?_ | refine ev_putfield (fs' := [_, _, _, _, _, _, _]) dX1_cutBy_2 lf_1_32 rfl (x4) (Nat.le_of_ble_eq_true rfl) rfl rfl rfl ?_ | refine ev_putfield (fs' := [_, _, _, _, _, _, _]) dX1_cutBy_2 lf_1_32 rfl (x5) (Nat.le_of_ble_eq_true rfl) rfl rfl rfl ?_
  refine ev_iconst (nI 0) dX1_cutBy_5 rfl ?_
  refine ev_istore_n (L' := [_, _, _, _, _, _, _]) dX1_cutBy_6 rfl (Nat.le_of_ble_eq_true rfl) rfl ?_
  refine ev_iconst (nI 0) dX1_cutBy_7 rfl ?_
  refine ev_istore_n (L' := [_, _, _, _, _, _, _]) dX1_cutBy_8 rfl (Nat.le_of_ble_eq_true rfl) rfl ?_
  refine ev_pc (pc' := 9) rfl ?_
  have LP9 : ∀ (mz : Nat) (k : Nat) (h2 : mH), kL K - k = mz → (k ≤ kL K) → (CutN h2 c (ctK (kL K) (kS K) (cutG u (kL K) (kS K) k))) → (Out h h2 c 6) → Ev X m_X1_cutBy B0 9 [.ref c, .ref g, .int (nI (cutG u (kL K) (kS K) k).1), .int (nI k), jk, jk, jk] [] h2 (fun o h1 => ∃ v, o = .inl v ∧ (v = none ∧ CutN h1 c (cutK u (kL K) (kS K)) ∧ Out h h1 c 6)) := by
    intro mz
    induction mz using Nat.strongRecOn with
    | _ mz ih =>
      intro k h2 hmz hk hc2 ho
      have hLL : kL (ctK (kL K) (kS K) (cutG u (kL K) (kS K) k)) = kL K := rfl
      obtain ⟨hst, hnp⟩ := cutG_st u (kL K) (kS K) k
      have hg2 := hg.go ho (by omega)
      obtain ⟨⟨z0, w, z1, hw⟩, hv0, hv1, hv2, hv3, hv4⟩ := id hg2
      obtain ⟨sg, st, le, fo, rk, ⟨x0, x1, x2, x3, x4, x5⟩, hL, hN, hS, hP⟩ := id hc2
      have hw3 := hw 3 (by omega)
      have hw4 := hw 4 (by omega)
      have hL0 : kL K ≤ 40 := hL
      have hsk : (cutG u (kL K) (kS K) k).1 + (k - (cutG u (kL K) (kS K) k).1 + 1) = k + 1 := by omega
      refine ev_iload_n dX1_cutBy_9 rfl rfl ?_
      refine ev_aload_n dX1_cutBy_10 rfl rfl ?_
      first | refine ev_getfield dX1_cutBy_11 lf_1_15 (x0) rfl ?_ | refine ev_getfield dX1_cutBy_11 lf_1_15 (x1) rfl ?_ | refine ev_getfield dX1_cutBy_11 lf_1_15 (x2) rfl ?_ | refine ev_getfield dX1_cutBy_11 lf_1_15 (x3) rfl ?_ | refine ev_getfield dX1_cutBy_11 lf_1_15 (x4) rfl ?_ | refine ev_getfield dX1_cutBy_11 lf_1_15 (x5) rfl ?_
      refine ev_icmp_geN 121 dX1_cutBy_14 rfl (by omega) (by omega) (fun hc14 => ?_) (fun hc14 => ?_)
      · refine ev_return dX1_cutBy_121 rfl (Or.inl rfl) (Nat.zero_le _) (Nat.zero_le _) ?_
        have e9 : kL K ≤ k := hc14
        rw [show cutK u (kL K) (kS K) = ctK (kL K) (kS K) (cutG u (kL K) (kS K) k) from by rw [cutK, show k = kL K by omega]]
        exact ⟨none, rfl, rfl, hc2, ho⟩
      · refine ev_pc (pc' := 17) rfl ?_
        have hkL : k < kL K := hc14
        have J108 : cutH u (kS K) (kL K) k (k - (cutG u (kL K) (kS K) k).1 + 1) = true → Ev X m_X1_cutBy B0 108 [.ref c, .ref g, .int (nI (cutG u (kL K) (kS K) k).1), .int (nI k), .int (nI (k - (cutG u (kL K) (kS K) k).1 + 1)), .int (bI (cutE u (kS K) k (k - (cutG u (kL K) (kS K) k).1 + 1))), .int (bI (cutF u (k - (cutG u (kL K) (kS K) k).1 + 1)))] [.int (bI (cutF u (k - (cutG u (kL K) (kS K) k).1 + 1) && !(cutE u (kS K) k (k - (cutG u (kL K) (kS K) k).1 + 1)))), .int (nI (k - (cutG u (kL K) (kS K) k).1 + 1)), .int (nI (cutG u (kL K) (kS K) k).1), .ref c] h2 (fun o h1 => ∃ v, o = .inl v ∧ (v = none ∧ CutN h1 c (cutK u (kL K) (kS K)) ∧ Out h h1 c 6)) := by
          intro hH
          have hg1 := cutG_y hH
          first | refine ev_callVU3 dX1_cutBy_108 cal_X1_addPiece lk_1_61 ⟨(Nat.le_of_ble_eq_true rfl), (Nat.le_of_ble_eq_true rfl)⟩ rfl (x0) (Nat.le_of_ble_eq_true rfl) (c_addPiece hc2 (cutG u (kL K) (kS K) k).1 (k - (cutG u (kL K) (kS K) k).1 + 1) (cutF u (k - (cutG u (kL K) (kS K) k).1 + 1) && !(cutE u (kS K) k (k - (cutG u (kL K) (kS K) k).1 + 1))) (by show (cutG u (kL K) (kS K) k).2.1 + 1 ≤ 40; omega) (by show (cutG u (kL K) (kS K) k).1 + (k - (cutG u (kL K) (kS K) k).1 + 1) ≤ kL K; omega) h1) (fun v h108 hq108 => ?_) | refine ev_callVU3 dX1_cutBy_108 cal_X1_addPiece lk_1_61 ⟨(Nat.le_of_ble_eq_true rfl), (Nat.le_of_ble_eq_true rfl)⟩ rfl (x1) (Nat.le_of_ble_eq_true rfl) (c_addPiece hc2 (cutG u (kL K) (kS K) k).1 (k - (cutG u (kL K) (kS K) k).1 + 1) (cutF u (k - (cutG u (kL K) (kS K) k).1 + 1) && !(cutE u (kS K) k (k - (cutG u (kL K) (kS K) k).1 + 1))) (by show (cutG u (kL K) (kS K) k).2.1 + 1 ≤ 40; omega) (by show (cutG u (kL K) (kS K) k).1 + (k - (cutG u (kL K) (kS K) k).1 + 1) ≤ kL K; omega) h1) (fun v h108 hq108 => ?_) | refine ev_callVU3 dX1_cutBy_108 cal_X1_addPiece lk_1_61 ⟨(Nat.le_of_ble_eq_true rfl), (Nat.le_of_ble_eq_true rfl)⟩ rfl (x2) (Nat.le_of_ble_eq_true rfl) (c_addPiece hc2 (cutG u (kL K) (kS K) k).1 (k - (cutG u (kL K) (kS K) k).1 + 1) (cutF u (k - (cutG u (kL K) (kS K) k).1 + 1) && !(cutE u (kS K) k (k - (cutG u (kL K) (kS K) k).1 + 1))) (by show (cutG u (kL K) (kS K) k).2.1 + 1 ≤ 40; omega) (by show (cutG u (kL K) (kS K) k).1 + (k - (cutG u (kL K) (kS K) k).1 + 1) ≤ kL K; omega) h1) (fun v h108 hq108 => ?_) | refine ev_callVU3 dX1_cutBy_108 cal_X1_addPiece lk_1_61 ⟨(Nat.le_of_ble_eq_true rfl), (Nat.le_of_ble_eq_true rfl)⟩ rfl (x3) (Nat.le_of_ble_eq_true rfl) (c_addPiece hc2 (cutG u (kL K) (kS K) k).1 (k - (cutG u (kL K) (kS K) k).1 + 1) (cutF u (k - (cutG u (kL K) (kS K) k).1 + 1) && !(cutE u (kS K) k (k - (cutG u (kL K) (kS K) k).1 + 1))) (by show (cutG u (kL K) (kS K) k).2.1 + 1 ≤ 40; omega) (by show (cutG u (kL K) (kS K) k).1 + (k - (cutG u (kL K) (kS K) k).1 + 1) ≤ kL K; omega) h1) (fun v h108 hq108 => ?_) | refine ev_callVU3 dX1_cutBy_108 cal_X1_addPiece lk_1_61 ⟨(Nat.le_of_ble_eq_true rfl), (Nat.le_of_ble_eq_true rfl)⟩ rfl (x4) (Nat.le_of_ble_eq_true rfl) (c_addPiece hc2 (cutG u (kL K) (kS K) k).1 (k - (cutG u (kL K) (kS K) k).1 + 1) (cutF u (k - (cutG u (kL K) (kS K) k).1 + 1) && !(cutE u (kS K) k (k - (cutG u (kL K) (kS K) k).1 + 1))) (by show (cutG u (kL K) (kS K) k).2.1 + 1 ≤ 40; omega) (by show (cutG u (kL K) (kS K) k).1 + (k - (cutG u (kL K) (kS K) k).1 + 1) ≤ kL K; omega) h1) (fun v h108 hq108 => ?_) | refine ev_callVU3 dX1_cutBy_108 cal_X1_addPiece lk_1_61 ⟨(Nat.le_of_ble_eq_true rfl), (Nat.le_of_ble_eq_true rfl)⟩ rfl (x5) (Nat.le_of_ble_eq_true rfl) (c_addPiece hc2 (cutG u (kL K) (kS K) k).1 (k - (cutG u (kL K) (kS K) k).1 + 1) (cutF u (k - (cutG u (kL K) (kS K) k).1 + 1) && !(cutE u (kS K) k (k - (cutG u (kL K) (kS K) k).1 + 1))) (by show (cutG u (kL K) (kS K) k).2.1 + 1 ≤ 40; omega) (by show (cutG u (kL K) (kS K) k).1 + (k - (cutG u (kL K) (kS K) k).1 + 1) ≤ kL K; omega) h1) (fun v h108 hq108 => ?_) | refine ev_callVU3 dX1_cutBy_108 cal_X1_addPiece lk_1_61 ⟨(Nat.le_of_ble_eq_true rfl), (Nat.le_of_ble_eq_true rfl)⟩ rfl (z0) (Nat.le_of_ble_eq_true rfl) (c_addPiece hc2 (cutG u (kL K) (kS K) k).1 (k - (cutG u (kL K) (kS K) k).1 + 1) (cutF u (k - (cutG u (kL K) (kS K) k).1 + 1) && !(cutE u (kS K) k (k - (cutG u (kL K) (kS K) k).1 + 1))) (by show (cutG u (kL K) (kS K) k).2.1 + 1 ≤ 40; omega) (by show (cutG u (kL K) (kS K) k).1 + (k - (cutG u (kL K) (kS K) k).1 + 1) ≤ kL K; omega) h1) (fun v h108 hq108 => ?_) | refine ev_callVU3 dX1_cutBy_108 cal_X1_addPiece lk_1_61 ⟨(Nat.le_of_ble_eq_true rfl), (Nat.le_of_ble_eq_true rfl)⟩ rfl (z1) (Nat.le_of_ble_eq_true rfl) (c_addPiece hc2 (cutG u (kL K) (kS K) k).1 (k - (cutG u (kL K) (kS K) k).1 + 1) (cutF u (k - (cutG u (kL K) (kS K) k).1 + 1) && !(cutE u (kS K) k (k - (cutG u (kL K) (kS K) k).1 + 1))) (by show (cutG u (kL K) (kS K) k).2.1 + 1 ≤ 40; omega) (by show (cutG u (kL K) (kS K) k).1 + (k - (cutG u (kL K) (kS K) k).1 + 1) ≤ kL K; omega) h1) (fun v h108 hq108 => ?_)
          refine ev_pc (pc' := 111) rfl ?_
          obtain ⟨rfl, hc3, ho3⟩ := hq108
          refine ev_iload_n dX1_cutBy_111 rfl rfl ?_
          refine ev_iconst (nI 1) dX1_cutBy_112 rfl ?_
          refine ev_iaddN dX1_cutBy_113 ?_
          refine ev_istore_n (L' := [_, _, _, _, _, _, _]) dX1_cutBy_114 rfl (Nat.le_of_ble_eq_true rfl) rfl ?_
          refine ev_iincN (L' := [_, _, _, _, _, _, _]) 1 dX1_cutBy_115 rfl rfl ?_
          refine ev_goto 9 dX1_cutBy_118 rfl ?_
          refine ev_pc (pc' := 9) rfl ?_
          refine ev_fgt 4 (L' := [_, _, _, _, _, _, _]) rfl ?_
          refine ev_fgt 5 (L' := [_, _, _, _, _, _, _]) rfl ?_
          refine ev_fgt 6 (L' := [_, _, _, _, _, _, _]) rfl ?_
          refine ev_L (L' := [.ref c, .ref g, .int (nI (cutG u (kL K) (kS K) (k + 1)).1), .int (nI (k + 1)), jk, jk, jk]) (by rw [hg1]; rfl) rfl ?_
          exact ih _ (by omega) (k + 1) _ rfl (by omega) (by rw [hg1]; exact hc3) (ho.tr ho3)
        have J115 : cutH u (kS K) (kL K) k (k - (cutG u (kL K) (kS K) k).1 + 1) = false → Ev X m_X1_cutBy B0 115 [.ref c, .ref g, .int (nI (cutG u (kL K) (kS K) k).1), .int (nI k), .int (nI (k - (cutG u (kL K) (kS K) k).1 + 1)), .int (bI (cutE u (kS K) k (k - (cutG u (kL K) (kS K) k).1 + 1))), .int (bI (cutF u (k - (cutG u (kL K) (kS K) k).1 + 1)))] [] h2 (fun o h1 => ∃ v, o = .inl v ∧ (v = none ∧ CutN h1 c (cutK u (kL K) (kS K)) ∧ Out h h1 c 6)) := by
          intro hH
          have hg1 := cutG_n hH
          refine ev_iincN (L' := [_, _, _, _, _, _, _]) 1 dX1_cutBy_115 rfl rfl ?_
          refine ev_goto 9 dX1_cutBy_118 rfl ?_
          refine ev_pc (pc' := 9) rfl ?_
          refine ev_fgt 4 (L' := [_, _, _, _, _, _, _]) rfl ?_
          refine ev_fgt 5 (L' := [_, _, _, _, _, _, _]) rfl ?_
          refine ev_fgt 6 (L' := [_, _, _, _, _, _, _]) rfl ?_
          refine ev_L (L' := [.ref c, .ref g, .int (nI (cutG u (kL K) (kS K) (k + 1)).1), .int (nI (k + 1)), jk, jk, jk]) (by rw [hg1]) rfl ?_
          exact ih _ (by omega) (k + 1) _ rfl (by omega) (by rw [hg1]; exact hc2) ho
        have J89 : cutH u (kS K) (kL K) k (k - (cutG u (kL K) (kS K) k).1 + 1) = true → Ev X m_X1_cutBy B0 89 [.ref c, .ref g, .int (nI (cutG u (kL K) (kS K) k).1), .int (nI k), .int (nI (k - (cutG u (kL K) (kS K) k).1 + 1)), .int (bI (cutE u (kS K) k (k - (cutG u (kL K) (kS K) k).1 + 1))), .int (bI (cutF u (k - (cutG u (kL K) (kS K) k).1 + 1)))] [] h2 (fun o h1 => ∃ v, o = .inl v ∧ (v = none ∧ CutN h1 c (cutK u (kL K) (kS K)) ∧ Out h h1 c 6)) := by
          intro hH
          refine ev_aload_n dX1_cutBy_89 rfl rfl ?_
          refine ev_iload_n dX1_cutBy_90 rfl rfl ?_
          refine ev_iload dX1_cutBy_91 rfl ?_
          refine ev_iload dX1_cutBy_93 rfl ?_
          refine ev_if_eqB 107 dX1_cutBy_95 rfl (fun hc95 => ?_) (fun hc95 => ?_)
          · refine ev_iconst (nI 0) dX1_cutBy_107 rfl ?_
            refine ev_pc (pc' := 108) rfl ?_
            first
              | exact ev_L rfl (by rw [hc95, hc100]; rfl) (J108 hH)
              | exact ev_L rfl (by rw [hc95]; rfl) (J108 hH)
          · refine ev_iload dX1_cutBy_98 rfl ?_
            refine ev_if_neB 107 dX1_cutBy_100 rfl (fun hc100 => ?_) (fun hc100 => ?_)
            · refine ev_iconst (nI 0) dX1_cutBy_107 rfl ?_
              refine ev_pc (pc' := 108) rfl ?_
              first
                | exact ev_L rfl (by rw [hc95, hc100]; rfl) (J108 hH)
                | exact ev_L rfl (by rw [hc95]; rfl) (J108 hH)
            · refine ev_iconst (nI 1) dX1_cutBy_103 rfl ?_
              refine ev_goto 108 dX1_cutBy_104 rfl ?_
              refine ev_pc (pc' := 108) rfl ?_
              first
                | exact ev_L rfl (by rw [hc95, hc100]; rfl) (J108 hH)
                | exact ev_L rfl (by rw [hc95]; rfl) (J108 hH)
        have J67 : Ev X m_X1_cutBy B0 67 [.ref c, .ref g, .int (nI (cutG u (kL K) (kS K) k).1), .int (nI k), .int (nI (k - (cutG u (kL K) (kS K) k).1 + 1)), .int (bI (cutE u (kS K) k (k - (cutG u (kL K) (kS K) k).1 + 1))), jk] [.int (bI (cutF u (k - (cutG u (kL K) (kS K) k).1 + 1)))] h2 (fun o h1 => ∃ v, o = .inl v ∧ (v = none ∧ CutN h1 c (cutK u (kL K) (kS K)) ∧ Out h h1 c 6)) := by
          refine ev_istore (L' := [_, _, _, _, _, _, _]) dX1_cutBy_67 (Nat.le_of_ble_eq_true rfl) rfl ?_
          refine ev_iload dX1_cutBy_69 rfl ?_
          refine ev_if_neB 89 dX1_cutBy_71 rfl (fun hc71 => ?_) (fun hc71 => ?_)
          · refine ev_pc (pc' := 89) rfl ?_
            first
              | exact J89 (cutH_1 hc71)
              | exact J89 (cutH_2 hc76)
              | exact J89 (cutH_3 (by omega))
          · refine ev_iload dX1_cutBy_74 rfl ?_
            refine ev_if_neB 89 dX1_cutBy_76 rfl (fun hc76 => ?_) (fun hc76 => ?_)
            · refine ev_pc (pc' := 89) rfl ?_
              first
                | exact J89 (cutH_1 hc71)
                | exact J89 (cutH_2 hc76)
                | exact J89 (cutH_3 (by omega))
            · refine ev_iload_n dX1_cutBy_79 rfl rfl ?_
              refine ev_aload_n dX1_cutBy_80 rfl rfl ?_
              first | refine ev_getfield dX1_cutBy_81 lf_1_15 (x0) rfl ?_ | refine ev_getfield dX1_cutBy_81 lf_1_15 (x1) rfl ?_ | refine ev_getfield dX1_cutBy_81 lf_1_15 (x2) rfl ?_ | refine ev_getfield dX1_cutBy_81 lf_1_15 (x3) rfl ?_ | refine ev_getfield dX1_cutBy_81 lf_1_15 (x4) rfl ?_ | refine ev_getfield dX1_cutBy_81 lf_1_15 (x5) rfl ?_ | refine ev_getfield dX1_cutBy_81 lf_1_15 (z0) rfl ?_ | refine ev_getfield dX1_cutBy_81 lf_1_15 (z1) rfl ?_
              refine ev_iconst (nI 1) dX1_cutBy_84 rfl ?_
              refine ev_isubN dX1_cutBy_85 (by omega) ?_
              refine ev_icmp_neN 115 dX1_cutBy_86 rfl (by omega) (by omega) (fun hc86 => ?_) (fun hc86 => ?_)
              · refine ev_pc (pc' := 115) rfl ?_
                exact J115 (cutH_n hc71 hc76 (by omega))
              · refine ev_pc (pc' := 89) rfl ?_
                first
                  | exact J89 (cutH_1 hc71)
                  | exact J89 (cutH_2 hc76)
                  | exact J89 (cutH_3 (by omega))
        have J49 : Ev X m_X1_cutBy B0 49 [.ref c, .ref g, .int (nI (cutG u (kL K) (kS K) k).1), .int (nI k), .int (nI (k - (cutG u (kL K) (kS K) k).1 + 1)), jk, jk] [.int (bI (cutE u (kS K) k (k - (cutG u (kL K) (kS K) k).1 + 1)))] h2 (fun o h1 => ∃ v, o = .inl v ∧ (v = none ∧ CutN h1 c (cutK u (kL K) (kS K)) ∧ Out h h1 c 6)) := by
          refine ev_istore (L' := [_, _, _, _, _, _, _]) dX1_cutBy_49 (Nat.le_of_ble_eq_true rfl) rfl ?_
          refine ev_iload dX1_cutBy_51 rfl ?_
          refine ev_aload_n dX1_cutBy_53 rfl rfl ?_
          first | refine ev_getfield dX1_cutBy_54 lf_1_52 (x0) rfl ?_ | refine ev_getfield dX1_cutBy_54 lf_1_52 (x1) rfl ?_ | refine ev_getfield dX1_cutBy_54 lf_1_52 (x2) rfl ?_ | refine ev_getfield dX1_cutBy_54 lf_1_52 (x3) rfl ?_ | refine ev_getfield dX1_cutBy_54 lf_1_52 (x4) rfl ?_ | refine ev_getfield dX1_cutBy_54 lf_1_52 (x5) rfl ?_ | refine ev_getfield dX1_cutBy_54 lf_1_52 (z0) rfl ?_ | refine ev_getfield dX1_cutBy_54 lf_1_52 (z1) rfl ?_
          refine ev_iconst (nI 4) dX1_cutBy_57 rfl ?_
          first | refine ev_ialoadF dX1_cutBy_58 (x0) (by omega) (by decide) ?_ | refine ev_ialoadF dX1_cutBy_58 (x1) (by omega) (by decide) ?_ | refine ev_ialoadF dX1_cutBy_58 (x2) (by omega) (by decide) ?_ | refine ev_ialoadF dX1_cutBy_58 (x3) (by omega) (by decide) ?_ | refine ev_ialoadF dX1_cutBy_58 (x4) (by omega) (by decide) ?_ | refine ev_ialoadF dX1_cutBy_58 (x5) (by omega) (by decide) ?_ | refine ev_ialoadF dX1_cutBy_58 (z0) (by omega) (by decide) ?_ | refine ev_ialoadF dX1_cutBy_58 (z1) (by omega) (by decide) ?_
          rw [hw4]
          refine ev_icmp_ltN 66 dX1_cutBy_59 rfl (by omega) (by omega) (fun hc59 => ?_) (fun hc59 => ?_)
          · refine ev_iconst (nI 0) dX1_cutBy_66 rfl ?_
            refine ev_pc (pc' := 67) rfl ?_
            first
              | exact ev_L rfl (by rw [cutF, decide_eq_true (by omega)]; rfl) J67
              | exact ev_L rfl (by rw [cutF, decide_eq_false (by omega)]; rfl) J67
          · refine ev_iconst (nI 1) dX1_cutBy_62 rfl ?_
            refine ev_goto 67 dX1_cutBy_63 rfl ?_
            refine ev_pc (pc' := 67) rfl ?_
            first
              | exact ev_L rfl (by rw [cutF, decide_eq_true (by omega)]; rfl) J67
              | exact ev_L rfl (by rw [cutF, decide_eq_false (by omega)]; rfl) J67
        refine ev_iload_n dX1_cutBy_17 rfl rfl ?_
        refine ev_iload_n dX1_cutBy_18 rfl rfl ?_
        refine ev_isubN dX1_cutBy_19 (by omega) ?_
        refine ev_iconst (nI 1) dX1_cutBy_20 rfl ?_
        refine ev_iaddN dX1_cutBy_21 ?_
        refine ev_istore (L' := [_, _, _, _, _, _, _]) dX1_cutBy_22 (Nat.le_of_ble_eq_true rfl) rfl ?_
        refine ev_iload dX1_cutBy_24 rfl ?_
        refine ev_aload_n dX1_cutBy_26 rfl rfl ?_
        first | refine ev_getfield dX1_cutBy_27 lf_1_52 (x0) rfl ?_ | refine ev_getfield dX1_cutBy_27 lf_1_52 (x1) rfl ?_ | refine ev_getfield dX1_cutBy_27 lf_1_52 (x2) rfl ?_ | refine ev_getfield dX1_cutBy_27 lf_1_52 (x3) rfl ?_ | refine ev_getfield dX1_cutBy_27 lf_1_52 (x4) rfl ?_ | refine ev_getfield dX1_cutBy_27 lf_1_52 (x5) rfl ?_ | refine ev_getfield dX1_cutBy_27 lf_1_52 (z0) rfl ?_ | refine ev_getfield dX1_cutBy_27 lf_1_52 (z1) rfl ?_
        refine ev_iconst (nI 3) dX1_cutBy_30 rfl ?_
        first | refine ev_ialoadF dX1_cutBy_31 (x0) (by omega) (by decide) ?_ | refine ev_ialoadF dX1_cutBy_31 (x1) (by omega) (by decide) ?_ | refine ev_ialoadF dX1_cutBy_31 (x2) (by omega) (by decide) ?_ | refine ev_ialoadF dX1_cutBy_31 (x3) (by omega) (by decide) ?_ | refine ev_ialoadF dX1_cutBy_31 (x4) (by omega) (by decide) ?_ | refine ev_ialoadF dX1_cutBy_31 (x5) (by omega) (by decide) ?_ | refine ev_ialoadF dX1_cutBy_31 (z0) (by omega) (by decide) ?_ | refine ev_ialoadF dX1_cutBy_31 (z1) (by omega) (by decide) ?_
        rw [hw3]
        refine ev_icmp_ltN 48 dX1_cutBy_32 rfl (by omega) (by omega) (fun hc32 => ?_) (fun hc32 => ?_)
        · refine ev_iconst (nI 0) dX1_cutBy_48 rfl ?_
          refine ev_pc (pc' := 49) rfl ?_
          first
            | (have e41 : decide (sumN (kS K) (u 0) k % u 1 = u 2) = true := hc41; exact ev_L rfl (by rw [cutE, decide_eq_true (by omega), e41]; rfl) J49)
            | (have e41 : decide (sumN (kS K) (u 0) k % u 1 = u 2) = false := hc41; exact ev_L rfl (by rw [cutE, e41, Bool.and_false]; rfl) J49)
            | exact ev_L rfl (by rw [cutE, decide_eq_false (by omega)]; rfl) J49
        · refine ev_aload_n dX1_cutBy_35 rfl rfl ?_
          refine ev_aload_n dX1_cutBy_36 rfl rfl ?_
          refine ev_iload_n dX1_cutBy_37 rfl rfl ?_
          first | refine ev_callVP2 dX1_cutBy_38 cal_X3_endPieceAt lk_1_57 ⟨(Nat.le_of_ble_eq_true rfl), (Nat.le_of_ble_eq_true rfl)⟩ rfl (x0) (Nat.le_of_ble_eq_true rfl) (c_endPieceAt hg2 hc2 k (by show k < kL K; omega)) ?_ | refine ev_callVP2 dX1_cutBy_38 cal_X3_endPieceAt lk_1_57 ⟨(Nat.le_of_ble_eq_true rfl), (Nat.le_of_ble_eq_true rfl)⟩ rfl (x1) (Nat.le_of_ble_eq_true rfl) (c_endPieceAt hg2 hc2 k (by show k < kL K; omega)) ?_ | refine ev_callVP2 dX1_cutBy_38 cal_X3_endPieceAt lk_1_57 ⟨(Nat.le_of_ble_eq_true rfl), (Nat.le_of_ble_eq_true rfl)⟩ rfl (x2) (Nat.le_of_ble_eq_true rfl) (c_endPieceAt hg2 hc2 k (by show k < kL K; omega)) ?_ | refine ev_callVP2 dX1_cutBy_38 cal_X3_endPieceAt lk_1_57 ⟨(Nat.le_of_ble_eq_true rfl), (Nat.le_of_ble_eq_true rfl)⟩ rfl (x3) (Nat.le_of_ble_eq_true rfl) (c_endPieceAt hg2 hc2 k (by show k < kL K; omega)) ?_ | refine ev_callVP2 dX1_cutBy_38 cal_X3_endPieceAt lk_1_57 ⟨(Nat.le_of_ble_eq_true rfl), (Nat.le_of_ble_eq_true rfl)⟩ rfl (x4) (Nat.le_of_ble_eq_true rfl) (c_endPieceAt hg2 hc2 k (by show k < kL K; omega)) ?_ | refine ev_callVP2 dX1_cutBy_38 cal_X3_endPieceAt lk_1_57 ⟨(Nat.le_of_ble_eq_true rfl), (Nat.le_of_ble_eq_true rfl)⟩ rfl (x5) (Nat.le_of_ble_eq_true rfl) (c_endPieceAt hg2 hc2 k (by show k < kL K; omega)) ?_ | refine ev_callVP2 dX1_cutBy_38 cal_X3_endPieceAt lk_1_57 ⟨(Nat.le_of_ble_eq_true rfl), (Nat.le_of_ble_eq_true rfl)⟩ rfl (z0) (Nat.le_of_ble_eq_true rfl) (c_endPieceAt hg2 hc2 k (by show k < kL K; omega)) ?_ | refine ev_callVP2 dX1_cutBy_38 cal_X3_endPieceAt lk_1_57 ⟨(Nat.le_of_ble_eq_true rfl), (Nat.le_of_ble_eq_true rfl)⟩ rfl (z1) (Nat.le_of_ble_eq_true rfl) (c_endPieceAt hg2 hc2 k (by show k < kL K; omega)) ?_
          refine ev_if_eqB 48 dX1_cutBy_41 rfl (fun hc41 => ?_) (fun hc41 => ?_)
          · refine ev_iconst (nI 0) dX1_cutBy_48 rfl ?_
            refine ev_pc (pc' := 49) rfl ?_
            first
              | (have e41 : decide (sumN (kS K) (u 0) k % u 1 = u 2) = true := hc41; exact ev_L rfl (by rw [cutE, decide_eq_true (by omega), e41]; rfl) J49)
              | (have e41 : decide (sumN (kS K) (u 0) k % u 1 = u 2) = false := hc41; exact ev_L rfl (by rw [cutE, e41, Bool.and_false]; rfl) J49)
              | exact ev_L rfl (by rw [cutE, decide_eq_false (by omega)]; rfl) J49
          · refine ev_iconst (nI 1) dX1_cutBy_44 rfl ?_
            refine ev_goto 49 dX1_cutBy_45 rfl ?_
            refine ev_pc (pc' := 49) rfl ?_
            first
              | (have e41 : decide (sumN (kS K) (u 0) k % u 1 = u 2) = true := hc41; exact ev_L rfl (by rw [cutE, decide_eq_true (by omega), e41]; rfl) J49)
              | (have e41 : decide (sumN (kS K) (u 0) k % u 1 = u 2) = false := hc41; exact ev_L rfl (by rw [cutE, e41, Bool.and_false]; rfl) J49)
              | exact ev_L rfl (by rw [cutE, decide_eq_false (by omega)]; rfl) J49
  exact LP9 _ 0 _ rfl (Nat.zero_le _) hc0 (Out.set (by omega) (by omega))
