def bsD (T : mSt) : Nat → Nat × Nat
  | 0 => (1, ulL T 1)
  | n + 1 => if ulL T (n + 2) ≤ (bsD T n).2 then (n + 2, ulL T (n + 2)) else bsD T n
theorem ulL_le {T : mSt} {d : Nat} (hL : ∀ t, t < 4 → kL (tC T t) ≤ 40) : ulL T d ≤ 6400 := (ulT_le (d := d) hL 4 (Nat.le_refl _)).2
theorem bsD_le {T : mSt} (hL : ∀ t, t < 4 → kL (tC T t) ≤ 40) : ∀ n, (bsD T n).2 ≤ 6400
  | 0 => ulL_le hL
  | n + 1 => by
    rw [bsD]
    split
    · exact ulL_le hL
    · exact bsD_le hL n
theorem ClsN.hL {h : mH} {A : mAs} (hA : ClsN h A) (t : Nat) (ht : t < 4) : kL (tC (aT A) t) ≤ 40 := by
  obtain ⟨-, ⟨-, -, hcs, -, -⟩, -⟩ := hA
  obtain ⟨_, _, _, _, _, _, z, _⟩ := hcs t ht
  exact z
def mxF (f : Nat → Int32) (a : Int64) : Nat → Int64
  | 0 => a
  | n + 1 => 31 * mxF f a n + (f n).toInt64
set_option maxHeartbeats 4000000 in
set_option maxRecDepth 100000 in
theorem c_bestDivisor {X : mX} {h : mH} {A : mAs} (hA : ClsN h A) (h1 : ∀ t, t < 4 → ∀ j, j < kL (tC (aT A) t) → 1 ≤ kS (tC (aT A) t) j) : CnU X m_X6_bestDivisor [.ref 0] h (fun v h1 => v = some (.int (nI (bsD (aT A) 8).1)) ∧ ClsN h1 A ∧ Out h h1 0 270) := by
  obtain ⟨a0, hT, hH, hBf, hW⟩ := id hA
  obtain ⟨t0, ⟨f, t1, t2⟩, hcs, hsto, hset⟩ := id hT
  obtain ⟨m0, hm6, -⟩ := id hH
  obtain ⟨⟨b0, bf, b1, hbf⟩, hb60, hbd⟩ := id hBf
  refine cn_of_ev (L0 := [_, _, _, _, _]) (by decide +kernel) rfl rfl (Nat.le_of_ble_eq_true rfl) rfl ?_
  refine ev_iconst (nI 1) dX6_bestDivisor_0 rfl ?_
  refine ev_istore_n (L' := [_, _, _, _, _]) dX6_bestDivisor_1 rfl (Nat.le_of_ble_eq_true rfl) rfl ?_
  refine ev_aload_n dX6_bestDivisor_2 rfl rfl ?_
  refine ev_iconst (nI 1) dX6_bestDivisor_3 rfl ?_
  refine ev_callVU1 dX6_bestDivisor_4 cal_X6_unlikeLengthsWith lk_6_285 ⟨(Nat.le_of_ble_eq_true rfl), (Nat.le_of_ble_eq_true rfl)⟩ rfl (a0) (Nat.le_of_ble_eq_true rfl) (c_unlikeLengthsWith hA 1 (by omega) (by omega) h1) (fun v h4 hq4 => ?_)
  refine ev_pc (pc' := 7) rfl ?_
  obtain ⟨rfl, hA2, o2⟩ := hq4
  refine ev_istore_n (L' := [_, _, _, _, _]) dX6_bestDivisor_7 rfl (Nat.le_of_ble_eq_true rfl) rfl ?_
  refine ev_iconst (nI 2) dX6_bestDivisor_8 rfl ?_
  refine ev_istore_n (L' := [_, _, _, _, _]) dX6_bestDivisor_9 rfl (Nat.le_of_ble_eq_true rfl) rfl ?_
  refine ev_pc (pc' := 10) rfl ?_
  have LP10 : ∀ (mz : Nat) (n : Nat) (h2 : mH), 8 - n = mz → (n ≤ 8) → (ClsN h2 A) → (Out h h2 0 270) → Ev X m_X6_bestDivisor B0 10 [.ref 0, .int (nI (bsD (aT A) n).1), .int (nI (bsD (aT A) n).2), .int (nI (n + 2)), jk] [] h2 (fun o h1 => ∃ v, o = .inl v ∧ (v = some (.int (nI (bsD (aT A) 8).1)) ∧ ClsN h1 A ∧ Out h h1 0 270)) := by
    intro mz
    induction mz using Nat.strongRecOn with
    | _ mz ih =>
      intro n h2 hmz hn hA2 ho
      have a2 := hA2.1
      have hb := bsD_le hA.hL n
      have hu : ulL (aT A) (n + 2) ≤ 6400 := ulL_le hA.hL
      refine ev_iload_n dX6_bestDivisor_10 rfl rfl ?_
      refine ev_bipush (nI 9) dX6_bestDivisor_11 rfl ?_
      refine ev_icmp_gtN 40 dX6_bestDivisor_13 rfl (by omega) (by omega) (fun hc13 => ?_) (fun hc13 => ?_)
      · refine ev_iload_n dX6_bestDivisor_40 rfl rfl ?_
        refine ev_ireturn dX6_bestDivisor_41 rfl (Or.inl rfl) (Nat.zero_le _) (Nat.zero_le _) ?_
        rw [show 8 = n by omega]
        exact ⟨_, rfl, rfl, hA2, ho⟩
      · refine ev_aload_n dX6_bestDivisor_16 rfl rfl ?_
        refine ev_iload_n dX6_bestDivisor_17 rfl rfl ?_
        refine ev_callVU1 dX6_bestDivisor_18 cal_X6_unlikeLengthsWith lk_6_285 ⟨(Nat.le_of_ble_eq_true rfl), (Nat.le_of_ble_eq_true rfl)⟩ rfl (a2) (Nat.le_of_ble_eq_true rfl) (c_unlikeLengthsWith hA2 (n + 2) (by omega) (by omega) h1) (fun v h18 hq18 => ?_)
        refine ev_pc (pc' := 21) rfl ?_
        obtain ⟨rfl, hA3, o3⟩ := hq18
        refine ev_istore (L' := [_, _, _, _, _]) dX6_bestDivisor_21 (Nat.le_of_ble_eq_true rfl) rfl ?_
        refine ev_iload dX6_bestDivisor_23 rfl ?_
        refine ev_iload_n dX6_bestDivisor_25 rfl rfl ?_
        refine ev_icmp_gtN 34 dX6_bestDivisor_26 rfl (by omega) (by omega) (fun hc26 => ?_) (fun hc26 => ?_)
        · refine ev_pc (pc' := 34) rfl ?_
          refine ev_fgt 4 (L' := [_, _, _, _, _]) rfl ?_
          refine ev_iincN (L' := [_, _, _, _, _]) 1 dX6_bestDivisor_34 rfl rfl ?_
          refine ev_goto 10 dX6_bestDivisor_37 rfl ?_
          first
            | (have e : bsD (aT A) (n + 1) = (n + 2, ulL (aT A) (n + 2)) := (show (if _ then _ else _) = _ from if_pos hc26)
               refine ev_L (L' := [.ref 0, .int (nI (bsD (aT A) (n + 1)).1), .int (nI (bsD (aT A) (n + 1)).2), .int (nI (n + 1 + 2)), jk]) (by rw [e]) rfl ?_
               exact ih _ (by omega) (n + 1) _ rfl (by omega) hA3 (ho.tr o3))
            | (have e : bsD (aT A) (n + 1) = bsD (aT A) n := (show (if _ then _ else _) = _ from if_neg (by omega))
               refine ev_L (L' := [.ref 0, .int (nI (bsD (aT A) (n + 1)).1), .int (nI (bsD (aT A) (n + 1)).2), .int (nI (n + 1 + 2)), jk]) (by rw [e]) rfl ?_
               exact ih _ (by omega) (n + 1) _ rfl (by omega) hA3 (ho.tr o3))
        · refine ev_iload dX6_bestDivisor_29 rfl ?_
          refine ev_istore_n (L' := [_, _, _, _, _]) dX6_bestDivisor_31 rfl (Nat.le_of_ble_eq_true rfl) rfl ?_
          refine ev_iload_n dX6_bestDivisor_32 rfl rfl ?_
          refine ev_istore_n (L' := [_, _, _, _, _]) dX6_bestDivisor_33 rfl (Nat.le_of_ble_eq_true rfl) rfl ?_
          refine ev_pc (pc' := 34) rfl ?_
          refine ev_fgt 4 (L' := [_, _, _, _, _]) rfl ?_
          refine ev_iincN (L' := [_, _, _, _, _]) 1 dX6_bestDivisor_34 rfl rfl ?_
          refine ev_goto 10 dX6_bestDivisor_37 rfl ?_
          first
            | (have e : bsD (aT A) (n + 1) = (n + 2, ulL (aT A) (n + 2)) := (show (if _ then _ else _) = _ from if_pos hc26)
               refine ev_L (L' := [.ref 0, .int (nI (bsD (aT A) (n + 1)).1), .int (nI (bsD (aT A) (n + 1)).2), .int (nI (n + 1 + 2)), jk]) (by rw [e]) rfl ?_
               exact ih _ (by omega) (n + 1) _ rfl (by omega) hA3 (ho.tr o3))
            | (have e : bsD (aT A) (n + 1) = bsD (aT A) n := (show (if _ then _ else _) = _ from if_neg (by omega))
               refine ev_L (L' := [.ref 0, .int (nI (bsD (aT A) (n + 1)).1), .int (nI (bsD (aT A) (n + 1)).2), .int (nI (n + 1 + 2)), jk]) (by rw [e]) rfl ?_
               exact ih _ (by omega) (n + 1) _ rfl (by omega) hA3 (ho.tr o3))
  exact LP10 _ 0 _ rfl (by omega) hA2 o2
set_option maxHeartbeats 4000000 in
set_option maxRecDepth 100000 in
theorem c_mix {X : mX} {h : mH} (a b : Int64) : CnP X m_X6_mix [.long a, .long b] h (some (.long (31 * a + b))) := by
  refine cn_of_ev (L0 := [_, _, _, _]) (by decide +kernel) rfl rfl (Nat.le_of_ble_eq_true rfl) rfl ?_
  refine ev_ldc2 _ dX6_mix_0 lc_6_345 ?_
  refine ev_lload_n dX6_mix_3 rfl rfl ?_
  refine ev_lmul dX6_mix_4 ?_
  refine ev_lload_n dX6_mix_5 rfl rfl ?_
  refine ev_ladd dX6_mix_6 ?_
  refine ev_lreturn dX6_mix_7 rfl (Or.inl rfl) (Nat.zero_le _) (Nat.zero_le _) ?_
  exact ⟨rfl, rfl⟩
set_option maxHeartbeats 4000000 in
set_option maxRecDepth 100000 in
theorem c_mixSigns {X : mX} {h : mH} {A : mAs} (hA : ClsN h A) (t : Nat) (ht : t < 4) (a : Int64) (hq : ∀ p, p < kN (tC (aT A) t) → 1 ≤ kP (tC (aT A) t) p + kQ (tC (aT A) t) p) : CnP X m_X6_mixSigns [.ref 0, .long a, .int (nI t)] h (some (.long (mxF (fun q => nI (sgnV (aT A) t (q / 4) (q % 4))) a (4 * kL (tC (aT A) t))))) := by
  obtain ⟨a0, hT, hH, hBf, hW⟩ := id hA
  obtain ⟨t0, ⟨f, t1, t2⟩, hcs, hsto, hset⟩ := id hT
  obtain ⟨m0, hm6, -⟩ := id hH
  obtain ⟨⟨b0, bf, b1, hbf⟩, hb60, hbd⟩ := id hBf
  obtain ⟨_, _, _, _, _, ⟨c0, -, -, -, -, -⟩, hL40, hN40, -⟩ := id (hcs t ht)
  have hL4 : kL (tC (aT A) t) ≤ 40 := hL40
  have hN4 : kN (tC (aT A) t) ≤ 40 := hN40
  refine cn_of_ev (L0 := [_, _, _, _, _, _, _, _, _]) (by decide +kernel) rfl rfl (Nat.le_of_ble_eq_true rfl) rfl ?_
  refine ev_lload_n dX6_mixSigns_0 rfl rfl ?_
  refine ev_lstore (L' := [_, _, _, _, _, _, _, _, _]) dX6_mixSigns_1 (Nat.le_of_ble_eq_true rfl) rfl ?_
  refine ev_aload_n dX6_mixSigns_3 rfl rfl ?_
  first | refine ev_getfield dX6_mixSigns_4 lf_6_10 (a0) rfl ?_ | refine ev_getfield dX6_mixSigns_4 lf_6_10 (t0) rfl ?_ | refine ev_getfield dX6_mixSigns_4 lf_6_10 (c0) rfl ?_
  first | refine ev_getfield dX6_mixSigns_7 lf_6_70 (a0) rfl ?_ | refine ev_getfield dX6_mixSigns_7 lf_6_70 (t0) rfl ?_ | refine ev_getfield dX6_mixSigns_7 lf_6_70 (c0) rfl ?_
  refine ev_iload_n dX6_mixSigns_10 rfl rfl ?_
  refine ev_aaloadN dX6_mixSigns_11 (Or.inl rfl) t1 (by omega) (by decide) (t2 t ht) ?_
  first | refine ev_getfield dX6_mixSigns_12 lf_6_74 (a0) rfl ?_ | refine ev_getfield dX6_mixSigns_12 lf_6_74 (t0) rfl ?_ | refine ev_getfield dX6_mixSigns_12 lf_6_74 (c0) rfl ?_
  refine ev_istore (L' := [_, _, _, _, _, _, _, _, _]) dX6_mixSigns_15 (Nat.le_of_ble_eq_true rfl) rfl ?_
  refine ev_iconst (nI 0) dX6_mixSigns_17 rfl ?_
  refine ev_istore (L' := [_, _, _, _, _, _, _, _, _]) dX6_mixSigns_18 (Nat.le_of_ble_eq_true rfl) rfl ?_
  refine ev_pc (pc' := 20) rfl ?_
  have LP20 : ∀ (mz : Nat) (k : Nat), kL (tC (aT A) t) - k = mz → (k ≤ kL (tC (aT A) t)) → Ev X m_X6_mixSigns B0 20 [.ref 0, .long a, jk, .int (nI t), .long (mxF (fun q => nI (sgnV (aT A) t (q / 4) (q % 4))) a (4 * k)), jk, .int (nI (kL (tC (aT A) t))), .int (nI k), jk] [] h (fun o h1 => o = .inl (some (.long (mxF (fun q => nI (sgnV (aT A) t (q / 4) (q % 4))) a (4 * kL (tC (aT A) t))))) ∧ h1 = h) := by
    intro mz
    induction mz using Nat.strongRecOn with
    | _ mz ih =>
      intro k hmz hk
      refine ev_iload dX6_mixSigns_20 rfl ?_
      refine ev_iload dX6_mixSigns_22 rfl ?_
      refine ev_icmp_geN 65 dX6_mixSigns_24 rfl (by omega) (by omega) (fun hc24 => ?_) (fun hc24 => ?_)
      · refine ev_lload dX6_mixSigns_65 rfl ?_
        refine ev_lreturn dX6_mixSigns_67 rfl (Or.inl rfl) (Nat.zero_le _) (Nat.zero_le _) ?_
        rw [show kL (tC (aT A) t) = k by omega]
        exact ⟨rfl, rfl⟩
      · refine ev_iconst (nI 0) dX6_mixSigns_27 rfl ?_
        refine ev_istore (L' := [_, _, _, _, _, _, _, _, _]) dX6_mixSigns_28 (Nat.le_of_ble_eq_true rfl) rfl ?_
        refine ev_pc (pc' := 30) rfl ?_
        have ihk := ih
        clear ih
        have LP30 : ∀ (mz : Nat) (w : Nat), 4 - w = mz → (w ≤ 4) → Ev X m_X6_mixSigns B0 30 [.ref 0, .long a, jk, .int (nI t), .long (mxF (fun q => nI (sgnV (aT A) t (q / 4) (q % 4))) a (4 * k + w)), jk, .int (nI (kL (tC (aT A) t))), .int (nI k), .int (nI w)] [] h (fun o h1 => o = .inl (some (.long (mxF (fun q => nI (sgnV (aT A) t (q / 4) (q % 4))) a (4 * kL (tC (aT A) t))))) ∧ h1 = h) := by
          intro mz
          induction mz using Nat.strongRecOn with
          | _ mz ih =>
            intro w hmz hw
            refine ev_iload dX6_mixSigns_30 rfl ?_
            refine ev_iconst (nI 3) dX6_mixSigns_32 rfl ?_
            refine ev_icmp_gtN 59 dX6_mixSigns_33 rfl (by omega) (by omega) (fun hc33 => ?_) (fun hc33 => ?_)
            · refine ev_pc (pc' := 59) rfl ?_
              refine ev_fgt 8 (L' := [_, _, _, _, _, _, _, _, _]) rfl ?_
              refine ev_iincN (L' := [_, _, _, _, _, _, _, _, _]) 1 dX6_mixSigns_59 rfl rfl ?_
              refine ev_goto 20 dX6_mixSigns_62 rfl ?_
              rw [show 4 * k + w = 4 * (k + 1) by omega]
              exact ihk _ (by omega) (k + 1) rfl (by omega)
            · refine ev_lload dX6_mixSigns_36 rfl ?_
              refine ev_aload_n dX6_mixSigns_38 rfl rfl ?_
              refine ev_iload_n dX6_mixSigns_39 rfl rfl ?_
              refine ev_iload dX6_mixSigns_40 rfl ?_
              refine ev_iload dX6_mixSigns_42 rfl ?_
              refine ev_callVP3 dX6_mixSigns_44 cal_X6_sign lk_6_367 ⟨(Nat.le_of_ble_eq_true rfl), (Nat.le_of_ble_eq_true rfl)⟩ rfl (a0) (Nat.le_of_ble_eq_true rfl) (c_sign hA t k w ht (by omega) (by omega) hq) ?_
              refine ev_i2l dX6_mixSigns_47 ?_
              refine ev_callSP2 dX6_mixSigns_48 cal_X6_mix lk_6_293 ⟨(Nat.le_of_ble_eq_true rfl), (Nat.le_of_ble_eq_true rfl)⟩ rfl (Nat.le_of_ble_eq_true rfl) (c_mix _ _) ?_
              have e : 31 * mxF (fun q => nI (sgnV (aT A) t (q / 4) (q % 4))) a (4 * k + w) + ((fun q => nI (sgnV (aT A) t (q / 4) (q % 4))) (4 * k + w)).toInt64 = mxF (fun q => nI (sgnV (aT A) t (q / 4) (q % 4))) a (4 * k + (w + 1)) := rfl
              have e2 : (fun q => nI (sgnV (aT A) t (q / 4) (q % 4))) (4 * k + w) = nI (sgnV (aT A) t k w) := by
                show nI (sgnV (aT A) t ((4 * k + w) / 4) ((4 * k + w) % 4)) = _
                rw [show (4 * k + w) / 4 = k by omega, show (4 * k + w) % 4 = w by omega]
              rw [← e2, e]
              refine ev_lstore (L' := [_, _, _, _, _, _, _, _, _]) dX6_mixSigns_51 (Nat.le_of_ble_eq_true rfl) rfl ?_
              refine ev_iincN (L' := [_, _, _, _, _, _, _, _, _]) 1 dX6_mixSigns_53 rfl rfl ?_
              refine ev_goto 30 dX6_mixSigns_56 rfl ?_
              refine ev_pc (pc' := 30) rfl ?_
              exact ih _ (by omega) (w + 1) rfl (by omega)
        exact LP30 _ 0 rfl (Nat.zero_le _)
  exact LP20 _ 0 rfl (Nat.zero_le _)
set_option maxHeartbeats 4000000 in
set_option maxRecDepth 100000 in
theorem c_mixPieces {X : mX} {h : mH} {A : mAs} (hA : ClsN h A) (t : Nat) (ht : t < 4) (a : Int64) : CnP X m_X6_mixPieces [.ref 0, .long a, .int (nI t)] h (some (.long (mxF (fun q => pceV (aT A) t (q / 5) (q % 5)) a (5 * kN (tC (aT A) t))))) := by
  obtain ⟨a0, hT, hH, hBf, hW⟩ := id hA
  obtain ⟨t0, ⟨f, t1, t2⟩, hcs, hsto, hset⟩ := id hT
  obtain ⟨m0, hm6, -⟩ := id hH
  obtain ⟨⟨b0, bf, b1, hbf⟩, hb60, hbd⟩ := id hBf
  obtain ⟨_, _, _, _, _, ⟨c0, -, -, -, -, -⟩, hL40, hN40, -⟩ := id (hcs t ht)
  have hL4 : kL (tC (aT A) t) ≤ 40 := hL40
  have hN4 : kN (tC (aT A) t) ≤ 40 := hN40
  refine cn_of_ev (L0 := [_, _, _, _, _, _, _, _, _]) (by decide +kernel) rfl rfl (Nat.le_of_ble_eq_true rfl) rfl ?_
  refine ev_lload_n dX6_mixPieces_0 rfl rfl ?_
  refine ev_lstore (L' := [_, _, _, _, _, _, _, _, _]) dX6_mixPieces_1 (Nat.le_of_ble_eq_true rfl) rfl ?_
  refine ev_aload_n dX6_mixPieces_3 rfl rfl ?_
  first | refine ev_getfield dX6_mixPieces_4 lf_6_10 (a0) rfl ?_ | refine ev_getfield dX6_mixPieces_4 lf_6_10 (t0) rfl ?_ | refine ev_getfield dX6_mixPieces_4 lf_6_10 (c0) rfl ?_
  first | refine ev_getfield dX6_mixPieces_7 lf_6_70 (a0) rfl ?_ | refine ev_getfield dX6_mixPieces_7 lf_6_70 (t0) rfl ?_ | refine ev_getfield dX6_mixPieces_7 lf_6_70 (c0) rfl ?_
  refine ev_iload_n dX6_mixPieces_10 rfl rfl ?_
  refine ev_aaloadN dX6_mixPieces_11 (Or.inl rfl) t1 (by omega) (by decide) (t2 t ht) ?_
  first | refine ev_getfield dX6_mixPieces_12 lf_6_178 (a0) rfl ?_ | refine ev_getfield dX6_mixPieces_12 lf_6_178 (t0) rfl ?_ | refine ev_getfield dX6_mixPieces_12 lf_6_178 (c0) rfl ?_
  refine ev_istore (L' := [_, _, _, _, _, _, _, _, _]) dX6_mixPieces_15 (Nat.le_of_ble_eq_true rfl) rfl ?_
  refine ev_iconst (nI 0) dX6_mixPieces_17 rfl ?_
  refine ev_istore (L' := [_, _, _, _, _, _, _, _, _]) dX6_mixPieces_18 (Nat.le_of_ble_eq_true rfl) rfl ?_
  refine ev_pc (pc' := 20) rfl ?_
  have LP20 : ∀ (mz : Nat) (k : Nat), kN (tC (aT A) t) - k = mz → (k ≤ kN (tC (aT A) t)) → Ev X m_X6_mixPieces B0 20 [.ref 0, .long a, jk, .int (nI t), .long (mxF (fun q => pceV (aT A) t (q / 5) (q % 5)) a (5 * k)), jk, .int (nI (kN (tC (aT A) t))), .int (nI k), jk] [] h (fun o h1 => o = .inl (some (.long (mxF (fun q => pceV (aT A) t (q / 5) (q % 5)) a (5 * kN (tC (aT A) t))))) ∧ h1 = h) := by
    intro mz
    induction mz using Nat.strongRecOn with
    | _ mz ih =>
      intro k hmz hk
      refine ev_iload dX6_mixPieces_20 rfl ?_
      refine ev_iload dX6_mixPieces_22 rfl ?_
      refine ev_icmp_geN 65 dX6_mixPieces_24 rfl (by omega) (by omega) (fun hc24 => ?_) (fun hc24 => ?_)
      · refine ev_lload dX6_mixPieces_65 rfl ?_
        refine ev_lreturn dX6_mixPieces_67 rfl (Or.inl rfl) (Nat.zero_le _) (Nat.zero_le _) ?_
        rw [show kN (tC (aT A) t) = k by omega]
        exact ⟨rfl, rfl⟩
      · refine ev_iconst (nI 0) dX6_mixPieces_27 rfl ?_
        refine ev_istore (L' := [_, _, _, _, _, _, _, _, _]) dX6_mixPieces_28 (Nat.le_of_ble_eq_true rfl) rfl ?_
        refine ev_pc (pc' := 30) rfl ?_
        have ihk := ih
        clear ih
        have LP30 : ∀ (mz : Nat) (w : Nat), 5 - w = mz → (w ≤ 5) → Ev X m_X6_mixPieces B0 30 [.ref 0, .long a, jk, .int (nI t), .long (mxF (fun q => pceV (aT A) t (q / 5) (q % 5)) a (5 * k + w)), jk, .int (nI (kN (tC (aT A) t))), .int (nI k), .int (nI w)] [] h (fun o h1 => o = .inl (some (.long (mxF (fun q => pceV (aT A) t (q / 5) (q % 5)) a (5 * kN (tC (aT A) t))))) ∧ h1 = h) := by
          intro mz
          induction mz using Nat.strongRecOn with
          | _ mz ih =>
            intro w hmz hw
            refine ev_iload dX6_mixPieces_30 rfl ?_
            refine ev_iconst (nI 4) dX6_mixPieces_32 rfl ?_
            refine ev_icmp_gtN 59 dX6_mixPieces_33 rfl (by omega) (by omega) (fun hc33 => ?_) (fun hc33 => ?_)
            · refine ev_pc (pc' := 59) rfl ?_
              refine ev_fgt 8 (L' := [_, _, _, _, _, _, _, _, _]) rfl ?_
              refine ev_iincN (L' := [_, _, _, _, _, _, _, _, _]) 1 dX6_mixPieces_59 rfl rfl ?_
              refine ev_goto 20 dX6_mixPieces_62 rfl ?_
              rw [show 5 * k + w = 5 * (k + 1) by omega]
              exact ihk _ (by omega) (k + 1) rfl (by omega)
            · refine ev_lload dX6_mixPieces_36 rfl ?_
              refine ev_aload_n dX6_mixPieces_38 rfl rfl ?_
              refine ev_iload_n dX6_mixPieces_39 rfl rfl ?_
              refine ev_iload dX6_mixPieces_40 rfl ?_
              refine ev_iload dX6_mixPieces_42 rfl ?_
              refine ev_callVP3 dX6_mixPieces_44 cal_X6_piece lk_6_370 ⟨(Nat.le_of_ble_eq_true rfl), (Nat.le_of_ble_eq_true rfl)⟩ rfl (a0) (Nat.le_of_ble_eq_true rfl) ((by have z := c_piece (X := X) hA t k w ht (by omega) (by omega); rwa [if_pos (by omega)] at z)) ?_
              refine ev_i2l dX6_mixPieces_47 ?_
              refine ev_callSP2 dX6_mixPieces_48 cal_X6_mix lk_6_293 ⟨(Nat.le_of_ble_eq_true rfl), (Nat.le_of_ble_eq_true rfl)⟩ rfl (Nat.le_of_ble_eq_true rfl) (c_mix _ _) ?_
              have e : 31 * mxF (fun q => pceV (aT A) t (q / 5) (q % 5)) a (5 * k + w) + ((fun q => pceV (aT A) t (q / 5) (q % 5)) (5 * k + w)).toInt64 = mxF (fun q => pceV (aT A) t (q / 5) (q % 5)) a (5 * k + (w + 1)) := rfl
              have e2 : (fun q => pceV (aT A) t (q / 5) (q % 5)) (5 * k + w) = pceV (aT A) t k w := by
                show pceV (aT A) t ((5 * k + w) / 5) ((5 * k + w) % 5) = _
                rw [show (5 * k + w) / 5 = k by omega, show (5 * k + w) % 5 = w by omega]
              rw [← e2, e]
              refine ev_lstore (L' := [_, _, _, _, _, _, _, _, _]) dX6_mixPieces_51 (Nat.le_of_ble_eq_true rfl) rfl ?_
              refine ev_iincN (L' := [_, _, _, _, _, _, _, _, _]) 1 dX6_mixPieces_53 rfl rfl ?_
              refine ev_goto 30 dX6_mixPieces_56 rfl ?_
              refine ev_pc (pc' := 30) rfl ?_
              exact ih _ (by omega) (w + 1) rfl (by omega)
        exact LP30 _ 0 rfl (Nat.zero_le _)
  exact LP20 _ 0 rfl (Nat.zero_le _)
