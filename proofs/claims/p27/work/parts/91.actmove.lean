theorem JW.chg2 {h h1 : mH} {A A1 : mAs} {gn gs ge gl : Nat → Nat} {gc : Nat → Int64} {gq go : Nat → Nat} (hI : InvA A) (hB : aB A = 0) (hT : InvT (aT A1)) (hl : LawN h gn gs ge gl gc gq go) (hr : RelT9 gn gs ge gl gc gq go (aT A1)) (h9 : gn 9 = pshN (aN A)) (hc : ClsN h1 (aT A1, hisA A, (aB A, aD A))) (o : Out h h1 0 270) : JW h1 (aT A1, hisA A, (aB A, aD A)) gn gs ge gl gc gq go :=
  ⟨hc, hI.his hT (by rw [hB]; exact Nat.zero_le _) (fun j hj => by rw [hB] at hj; exact absurd hj (Nat.not_lt_zero j)), hB, hl.go o (Or.inr (by omega)), hr, h9⟩
/-- how many signs are kept of the first k -/
def tkN (p m k : Nat) : Nat := if k < p then k else if k < p + m then p else k - m
theorem tk_a {p m k : Nat} (hm : 1 ≤ m) (h : k < p) : tkN p m (k + 1) = tkN p m k + 1 := by
  unfold tkN
  (repeat' split) <;> omega
theorem tk_b {p m k : Nat} (h : p + m ≤ k) : tkN p m (k + 1) = tkN p m k + 1 := by
  unfold tkN
  (repeat' split) <;> omega
theorem tk_c {p m k : Nat} (h1 : p ≤ k) (h2 : k < p + m) : tkN p m (k + 1) = tkN p m k := by
  unfold tkN
  (repeat' split) <;> omega
theorem tk_le {p m k : Nat} : tkN p m k ≤ k := by
  unfold tkN
  (repeat' split) <;> omega
theorem tk_end {p m k : Nat} (h : p + m ≤ k) : tkN p m k = k - m := by
  unfold tkN
  (repeat' split) <;> omega
theorem drop_a {s : Nat → Nat} {p m k : Nat} (h : k < p) : dropF s p m (tkN p m k) = s k := by
  rw [show tkN p m k = k from if_pos h]
  exact if_pos h
theorem drop_b {s : Nat → Nat} {p m k : Nat} (h : p + m ≤ k) : dropF s p m (tkN p m k) = s k := by
  rw [tk_end h]
  show (if k - m < p then s (k - m) else s (k - m + m)) = s k
  rw [if_neg (by omega), show k - m + m = k by omega]
theorem RelT9.sg {gn gs ge gl : Nat → Nat} {gc : Nat → Int64} {gq go : Nat → Nat} {T : mSt} (hr : RelT9 gn gs ge gl gc gq go T) (hT : InvT T) {t : Nat} (ht : t < 4) {j : Nat} (hj : j < kL (tC T t)) : gs (16 * t + j) = kS (tC T t) j := (at9 hr hT ht hj).1.symm
theorem upN_ext {f s : Nat → Nat} {k x : Nat} (h : ∀ j, j < k → f j = s j) (hx : x = s k) : ∀ j, j < k + 1 → upN f k x j = s j := fun j hj => by
  by_cases e : j = k
  · rw [e, upN_s]; exact hx
  · rw [upN_n e]; exact h j (by omega)
set_option maxHeartbeats 4000000 in
set_option maxRecDepth 100000 in
theorem act_take {X : mX} {h : mH} {A : mAs} {gn gs ge gl : Nat → Nat} {gc : Nat → Int64} {gq go : Nat → Nat} (J : JW h A gn gs ge gl gc gq go) {N a t : Nat} (hN : 277 ≤ N) (hN2 : N + 7 < 1000000) (x y : Int32) (ha : 6 ≤ a) (ha2 : a < 8) (h0 : 0 < gn t) (ht : t < 4) : Ev X m_L_act (some (N + 1), some (N + 6), 1, 16, 6, 184) 30 [.ref 0, .int x, .int y, .ref 270, .ref 271, .ref 272, .ref 273, .ref 274, .ref 275, .ref 276, .int (nI a), .int (nI t), .ref N, .int (nI 0), .int (nI 0), jk, jk, jk] [] (mset h N (aI 16 (nf (fun _ => 0)))) (fun (o : mO) (h1 : mH) => o = .inl (some (.int (nI 1))) ∧ PW h1) := by
  obtain ⟨JC, JI, JB, Jl, Jr, J9⟩ := J
  have JT := JI.1
  have J6 := JI.2.2.1
  have oN : Out h (mset h N (aI 16 (nf (fun _ => 0)))) N 1 := Out.set (by omega) (by omega)
  have JC0 := JC.go oN (by omega)
  have hlw0 := LawN.with (V := N) (Jl.go oN (Or.inl hN)) (mset_s _ _ _)
  obtain ⟨hgt, h16t, hplt⟩ := Jr.2.2.2.2 t ht
  have TK : ∀ p m : Nat, p < gn t → 1 ≤ m → m ≤ gn t - p → Ev X m_L_act (some (N + 1), some (N + 6), 1, 16, 6, 184) 281 [.ref 0, .int x, .int y, .ref 270, .ref 271, .ref 272, .ref 273, .ref 274, .ref 275, .ref 276, .int (nI a), .int (nI t), .ref N, .int (nI 0), .int (nI 0), .int (nI p), .int (nI m), jk] [] (mset h N (aI 16 (nf (fun _ => 0)))) (fun (o : mO) (h1 : mH) => o = .inl (some (.int (nI 1))) ∧ PW h1) := by
    intro p m hp hm1 hm2
    have e0 : tkN p m 0 = 0 := Nat.le_zero.mp tk_le
    refine ev_iconst (nI 0) dL_act_281 rfl ?_
    refine ev_istore (L' := [_, _, _, _, _, _, _, _, _, _, _, _, _, _, _, _, _, _]) dL_act_282 (Nat.le_of_ble_eq_true rfl) rfl ?_
    refine ev_pc (pc' := 284) rfl ?_
    refine ev_L (L' := [.ref 0, .int x, .int y, .ref 270, .ref 271, .ref 272, .ref 273, .ref 274, .ref 275, .ref 276, .int (nI a), .int (nI t), .ref N, .int (nI (tkN p m 0)), .int (nI 0), .int (nI p), .int (nI m), .int (nI 0)]) (by rw [e0]) rfl ?_
    have LP284 : ∀ (mz : Nat) (k : Nat) (h1 : mH) (gv : Nat → Nat), gn t - k = mz → (k ≤ gn t) → (ClsN h1 A) → (LwN h1 N gn gs ge gl gc gq go gv) → (∀ j, j < tkN p m k → gv j = dropF (kS (tC (aT A) t)) p m j) → Ev X m_L_act (some (N + 1), some (N + 6), 1, 16, 6, 184) 284 [.ref 0, .int x, .int y, .ref 270, .ref 271, .ref 272, .ref 273, .ref 274, .ref 275, .ref 276, .int (nI a), .int (nI t), .ref N, .int (nI (tkN p m k)), .int (nI 0), .int (nI p), .int (nI m), .int (nI k)] [] h1 (fun (o : mO) (h1 : mH) => o = .inl (some (.int (nI 1))) ∧ PW h1) := by
      intro mz
      induction mz using Nat.strongRecOn with
      | _ mz ih =>
        intro k h1 gv hmz hk JC1 hlw hgv
        have hlw2 := hlw
        obtain ⟨k0, k1, k2, k3, k4, k5, k6, k7⟩ := hlw
        have htk := tk_le (p := p) (m := m) (k := k)
        refine ev_iload dL_act_284 rfl ?_
        refine ev_aload_n dL_act_286 rfl rfl ?_
        refine ev_iload dL_act_287 rfl ?_
        first | refine ev_ialoadF dL_act_289 (k0) (by omega) (by decide) ?_ | refine ev_ialoadF dL_act_289 (k1) (by omega) (by decide) ?_ | refine ev_ialoadF dL_act_289 (k7) (by omega) (by decide) ?_
        refine ev_icmp_geN 335 dL_act_290 rfl (by omega) (by omega) (fun hc290 => ?_) (fun hc290 => ?_)
        · refine ev_pc (pc' := 335) rfl ?_
          have ek : k = gn t := by omega
          rw [ek, tk_end (by omega), hgt] at hgv
          rw [ek, tk_end (by omega), hgt]
          have hsg : ∀ j, j < kL (tC (aT A) t) - m → 1 ≤ dropF (kS (tC (aT A) t)) p m j ∧ dropF (kS (tC (aT A) t)) p m j ≤ 8 := fun j hj => by
            have hs8 := (JT.2.1 t ht).2.1
            unfold dropF
            split
            · exact hs8 _ (by omega)
            · exact hs8 _ (by omega)
          have hK : Tile (cutK (tV (aT A)) (kL (tC (aT A) t) - m) (dropF (kS (tC (aT A) t)) p m)) := cutK_tile JT.1 (by omega) hsg
          refine ev_fgt 17 (L' := [_, _, _, _, _, _, _, _, _, _, _, _, _, _, _, _, _, _]) rfl ?_
          refine ev_aload_n dL_act_335 rfl rfl ?_
          refine ev_aload dL_act_336 rfl ?_
          refine ev_aload dL_act_338 rfl ?_
          refine ev_aload dL_act_340 rfl ?_
          refine ev_aload dL_act_342 rfl ?_
          refine ev_aload dL_act_344 rfl ?_
          refine ev_aload dL_act_346 rfl ?_
          refine ev_iload dL_act_348 rfl ?_
          refine ev_aload dL_act_350 rfl ?_
          refine ev_iload dL_act_352 rfl ?_
          refine ev_pc (pc' := 354) rfl ?_
          refine ev_cSG10 dL_act_354 cal_L_lay lk_8_30 ⟨(Nat.le_of_ble_eq_true rfl), (Nat.le_of_ble_eq_true rfl)⟩ rfl (Nat.le_of_ble_eq_true rfl) (by omega) (by omega) (c_lay (X := X) hlw2 hN (Nat.lt_succ_self N) (by omega) Jr JT t (kL (tC (aT A) t) - m) ht (by omega) (s := dropF (kS (tC (aT A) t)) p m) hgv hsg) (fun v h2 q => ?_) (fun k h2 q => ?_)
          rotate_left
          · cases hok : okS (aT A) t (cutK (tV (aT A)) (kL (tC (aT A) t) - m) (dropF (kS (tC (aT A) t)) p m)) with
            | true => have := (q.1 hok).1; cases this
            | false => have := (q.2.1 hok).1; cases this
          obtain ⟨q1, q2, q3⟩ := q
          refine ev_pc (pc' := 357) rfl ?_
          cases hok : okS (aT A) t (cutK (tV (aT A)) (kL (tC (aT A) t) - m) (dropF (kS (tC (aT A) t)) p m)) with
          | true =>
            obtain ⟨e, n2, s2, e2, l2, c2, q2', o2, hl2, hr2, h92⟩ := q1 hok
            cases e
            have hkn40 := hK.n40
            have hge : 0 ≤ nI (kN (cutK (tV (aT A)) (kL (tC (aT A) t) - m) (dropF (kS (tC (aT A) t)) p m))) := by
              rw [i_le, nI_toInt (by omega)]
              exact Int.natCast_nonneg _
            have hA2 := JC1.go q3 (Nat.le_refl _)
            refine ev_istore (L' := [_, _, _, _, _, _, _, _, _, _, _, _, _, _, _, _, _, _]) dL_act_357 (Nat.le_of_ble_eq_true rfl) rfl ?_
            refine ev_iload dL_act_359 rfl ?_
            refine ev_if_ge 384 dL_act_361 rfl (fun hc361 => ?_) (fun hc361 => ?_)
            · refine ev_pc (pc' := 384) rfl ?_
              refine act_n9_384 hl2.1 (by rw [h92, J9]; exact J6) rfl (fun h3 g1 e1 e2 k0 o3 => ?_)
              have hl3 := hl2.up0 hN o3 k0
              have hA3 := hA2.go o3 (Nat.le_refl _)
              have hob := hA3.1
              refine ev_aload_n dL_act_401 rfl rfl ?_
              refine ev_iload dL_act_402 rfl ?_
              refine ev_iload dL_act_404 rfl ?_
              refine ev_iload dL_act_406 rfl ?_
              refine ev_cVU3 dL_act_408 cal_X6_takeOut lk_8_47 ⟨(Nat.le_of_ble_eq_true rfl), (Nat.le_of_ble_eq_true rfl)⟩ rfl (hob) (Nat.le_of_ble_eq_true rfl) (by omega) (by omega) (c_takeOut (X := X) hA3 t ht p m (by omega) hm1 (by omega) (fun j hj => (hsg j hj).1) (JT.ch ht hK) hok) (fun v h408 hq408 => ?_)
              refine ev_pc (pc' := 411) rfl ?_
              obtain ⟨rfl, hA5, o5⟩ := hq408
              refine ev_iload dL_act_411 rfl ?_
              refine ev_icmp_neN 420 dL_act_413 rfl (by omega) (by omega) (fun hc413 => ?_) (fun hc413 => ?_)
              · first | omega | exact absurd hc413 (by decide) | exact absurd rfl hc413 | exact hc413 rfl | exact absurd hc413 (by assumption) | exact absurd (by assumption) hc413
              · refine ev_iconst (nI 1) dL_act_416 rfl ?_
                refine ev_goto 421 dL_act_417 rfl ?_
                refine ev_zreturn dL_act_421 rfl (by first | rfl | exact bI_nar _) (Or.inl rfl) (by omega) (by omega) ?_
                refine ⟨rfl, _, _, _, _, _, _, _, _, JW.chg2 (A := A) JI JB (A1 := (chgT (aT A) t (cutK (tV (aT A)) (kL (tC (aT A) t) - m) (dropF (kS (tC (aT A) t)) p m)), hisA A, (aB A, aD A))) (chgT_all JT ht hK hok).1 (LawN.of hl3) (hr2.n9 e2) (by rw [e1, h92, J9]) hA5 o5⟩
            · first | omega | exact absurd hc361 (by decide) | exact absurd rfl hc361 | exact hc361 rfl | exact absurd hc361 (by assumption) | exact absurd (by assumption) hc361
          | false =>
            obtain ⟨e, hl2⟩ := q2 hok
            cases e
            have hA2 := JC1.go q3 (Nat.le_refl _)
            have hob := hA2.1
            have k0 := hl2.1
            have hgt2 : gn t < 2 ^ 31 := by omega
            refine ev_istore (L' := [_, _, _, _, _, _, _, _, _, _, _, _, _, _, _, _, _, _]) dL_act_357 (Nat.le_of_ble_eq_true rfl) rfl ?_
            refine ev_iload dL_act_359 rfl ?_
            refine ev_if_ge 384 dL_act_361 rfl (fun hc361 => ?_) (fun hc361 => ?_)
            · first | omega | exact absurd hc361 (by decide) | exact absurd rfl hc361 | exact hc361 rfl | exact absurd hc361 (by assumption) | exact absurd (by assumption) hc361
            · refine ev_aload_n dL_act_364 rfl rfl ?_
              refine ev_iload dL_act_365 rfl ?_
              refine ev_iconst (nI 0) dL_act_367 rfl ?_
              first | refine ev_cVP2 dL_act_368 cal_X6_text lk_8_44 ⟨(Nat.le_of_ble_eq_true rfl), (Nat.le_of_ble_eq_true rfl)⟩ rfl (hob) (Nat.le_of_ble_eq_true rfl) (by omega) (by omega) ((show CnP X m_X6_text [.ref 0, .int (nI t), .int (nI 0)] h2 (some (.int (nI (gn t)))) from by have z := c_text (X := X) hA2 t 0 ht (by decide); rwa [show txtV (aT A) t 0 = gn t from hgt.symm] at z)) ?_ | refine ev_cVP2 dL_act_368 cal_X6_text lk_8_44 ⟨(Nat.le_of_ble_eq_true rfl), (Nat.le_of_ble_eq_true rfl)⟩ rfl (k0) (Nat.le_of_ble_eq_true rfl) (by omega) (by omega) ((show CnP X m_X6_text [.ref 0, .int (nI t), .int (nI 0)] h2 (some (.int (nI (gn t)))) from by have z := c_text (X := X) hA2 t 0 ht (by decide); rwa [show txtV (aT A) t 0 = gn t from hgt.symm] at z)) ?_
              refine ev_aload_n dL_act_371 rfl rfl ?_
              refine ev_iload dL_act_372 rfl ?_
              first | refine ev_ialoadF dL_act_374 (hob) (by omega) (by decide) ?_ | refine ev_ialoadF dL_act_374 (k0) (by omega) (by decide) ?_
              refine ev_icmp_neN 382 dL_act_375 rfl (by omega) (by omega) (fun hc375 => ?_) (fun hc375 => ?_)
              · first | omega | exact absurd hc375 (by decide) | exact absurd rfl hc375 | exact hc375 rfl | exact absurd hc375 (by assumption) | exact absurd (by assumption) hc375
              · refine ev_iconst (nI 1) dL_act_378 rfl ?_
                refine ev_goto 383 dL_act_379 rfl ?_
                refine ev_zreturn dL_act_383 rfl (by first | rfl | exact bI_nar _) (Or.inl rfl) (by omega) (by omega) ?_
                refine ⟨rfl, A, _, _, _, _, _, _, _, ⟨hA2, JI, JB, LawN.of hl2, Jr, J9⟩⟩
        · refine ev_iload dL_act_293 rfl ?_
          refine ev_iload dL_act_295 rfl ?_
          refine ev_icmp_ltN 310 dL_act_297 rfl (by omega) (by omega) (fun hc297 => ?_) (fun hc297 => ?_)
          · refine ev_aload dL_act_310 rfl ?_
            refine ev_iload dL_act_312 rfl ?_
            refine ev_iincN (L' := [_, _, _, _, _, _, _, _, _, _, _, _, _, _, _, _, _, _]) 1 dL_act_314 rfl rfl ?_
            refine ev_aload dL_act_317 rfl ?_
            refine ev_bipush (nI 16) dL_act_319 rfl ?_
            refine ev_iload dL_act_321 rfl ?_
            refine ev_imulN dL_act_323 ?_
            refine ev_iload dL_act_324 rfl ?_
            refine ev_iaddN dL_act_326 ?_
            first | refine ev_ialoadF dL_act_327 (k0) (by omega) (by decide) ?_ | refine ev_ialoadF dL_act_327 (k1) (by omega) (by decide) ?_ | refine ev_ialoadF dL_act_327 (k7) (by omega) (by decide) ?_
            first | refine ev_iastoreF dL_act_328 (k0) (by omega) (by decide) ?_ | refine ev_iastoreF dL_act_328 (k1) (by omega) (by decide) ?_ | refine ev_iastoreF dL_act_328 (k7) (by omega) (by decide) ?_
            refine ev_iincN (L' := [_, _, _, _, _, _, _, _, _, _, _, _, _, _, _, _, _, _]) 1 dL_act_329 rfl rfl ?_
            refine ev_goto 284 dL_act_332 rfl ?_
            refine ev_pc (pc' := 284) rfl ?_
            first
              | (have E := ih (gn t - (k + 1)) (by omega) (k + 1) _ _ rfl (by omega) (JC1.go (a := N) (n := 1) (Out.set (by omega) (by omega)) (by omega)) (hlw2.s7 hN _) (by rw [tk_a hm1 hc297]; exact upN_ext hgv ((Jr.sg JT ht (by omega)).trans (drop_a hc297).symm))
                 rw [tk_a hm1 hc297] at E
                 exact E)
              | (have E := ih (gn t - (k + 1)) (by omega) (k + 1) _ _ rfl (by omega) (JC1.go (a := N) (n := 1) (Out.set (by omega) (by omega)) (by omega)) (hlw2.s7 hN _) (by rw [tk_b hc307]; exact upN_ext hgv ((Jr.sg JT ht (by omega)).trans (drop_b hc307).symm))
                 rw [tk_b hc307] at E
                 exact E)
              | (have E := ih (gn t - (k + 1)) (by omega) (k + 1) _ _ rfl (by omega) JC1 hlw2 (by rw [tk_c hc297 hc307]; exact hgv)
                 rw [tk_c hc297 hc307] at E
                 exact E)
          · refine ev_iload dL_act_300 rfl ?_
            refine ev_iload dL_act_302 rfl ?_
            refine ev_iload dL_act_304 rfl ?_
            refine ev_iaddN dL_act_306 ?_
            refine ev_icmp_ltN 329 dL_act_307 rfl (by omega) (by omega) (fun hc307 => ?_) (fun hc307 => ?_)
            · refine ev_iincN (L' := [_, _, _, _, _, _, _, _, _, _, _, _, _, _, _, _, _, _]) 1 dL_act_329 rfl rfl ?_
              refine ev_goto 284 dL_act_332 rfl ?_
              refine ev_pc (pc' := 284) rfl ?_
              first
                | (have E := ih (gn t - (k + 1)) (by omega) (k + 1) _ _ rfl (by omega) (JC1.go (a := N) (n := 1) (Out.set (by omega) (by omega)) (by omega)) (hlw2.s7 hN _) (by rw [tk_a hm1 hc297]; exact upN_ext hgv ((Jr.sg JT ht (by omega)).trans (drop_a hc297).symm))
                   rw [tk_a hm1 hc297] at E
                   exact E)
                | (have E := ih (gn t - (k + 1)) (by omega) (k + 1) _ _ rfl (by omega) (JC1.go (a := N) (n := 1) (Out.set (by omega) (by omega)) (by omega)) (hlw2.s7 hN _) (by rw [tk_b hc307]; exact upN_ext hgv ((Jr.sg JT ht (by omega)).trans (drop_b hc307).symm))
                   rw [tk_b hc307] at E
                   exact E)
                | (have E := ih (gn t - (k + 1)) (by omega) (k + 1) _ _ rfl (by omega) JC1 hlw2 (by rw [tk_c hc297 hc307]; exact hgv)
                   rw [tk_c hc297 hc307] at E
                   exact E)
            · refine ev_aload dL_act_310 rfl ?_
              refine ev_iload dL_act_312 rfl ?_
              refine ev_iincN (L' := [_, _, _, _, _, _, _, _, _, _, _, _, _, _, _, _, _, _]) 1 dL_act_314 rfl rfl ?_
              refine ev_aload dL_act_317 rfl ?_
              refine ev_bipush (nI 16) dL_act_319 rfl ?_
              refine ev_iload dL_act_321 rfl ?_
              refine ev_imulN dL_act_323 ?_
              refine ev_iload dL_act_324 rfl ?_
              refine ev_iaddN dL_act_326 ?_
              first | refine ev_ialoadF dL_act_327 (k0) (by omega) (by decide) ?_ | refine ev_ialoadF dL_act_327 (k1) (by omega) (by decide) ?_ | refine ev_ialoadF dL_act_327 (k7) (by omega) (by decide) ?_
              first | refine ev_iastoreF dL_act_328 (k0) (by omega) (by decide) ?_ | refine ev_iastoreF dL_act_328 (k1) (by omega) (by decide) ?_ | refine ev_iastoreF dL_act_328 (k7) (by omega) (by decide) ?_
              refine ev_iincN (L' := [_, _, _, _, _, _, _, _, _, _, _, _, _, _, _, _, _, _]) 1 dL_act_329 rfl rfl ?_
              refine ev_goto 284 dL_act_332 rfl ?_
              refine ev_pc (pc' := 284) rfl ?_
              first
                | (have E := ih (gn t - (k + 1)) (by omega) (k + 1) _ _ rfl (by omega) (JC1.go (a := N) (n := 1) (Out.set (by omega) (by omega)) (by omega)) (hlw2.s7 hN _) (by rw [tk_a hm1 hc297]; exact upN_ext hgv ((Jr.sg JT ht (by omega)).trans (drop_a hc297).symm))
                   rw [tk_a hm1 hc297] at E
                   exact E)
                | (have E := ih (gn t - (k + 1)) (by omega) (k + 1) _ _ rfl (by omega) (JC1.go (a := N) (n := 1) (Out.set (by omega) (by omega)) (by omega)) (hlw2.s7 hN _) (by rw [tk_b hc307]; exact upN_ext hgv ((Jr.sg JT ht (by omega)).trans (drop_b hc307).symm))
                   rw [tk_b hc307] at E
                   exact E)
                | (have E := ih (gn t - (k + 1)) (by omega) (k + 1) _ _ rfl (by omega) JC1 hlw2 (by rw [tk_c hc297 hc307]; exact hgv)
                   rw [tk_c hc297 hc307] at E
                   exact E)
    exact LP284 _ 0 (mset h N (aI 16 (nf (fun _ => 0)))) (fun _ => 0) rfl (Nat.zero_le _) JC0 hlw0 (fun j hj => by have := tk_le (p := p) (m := m) (k := 0); omega)
  have k0 := hlw0.1
  have b0 := atN_lt (y >>> (nI 2 &&& 31)) (n := gn t) h0
  have b1 := fun z => atN_lt (y >>> (nI 6 &&& 31)) (n := gn t - atN (y >>> (nI 2 &&& 31)) (gn t)) z
  have b2 := atN_lt (y >>> (nI 6 &&& 31)) (n := 4) (by decide)
  refine ev_iload dL_act_30 rfl ?_
  refine ev_bipush (nI 6) dL_act_32 rfl ?_
  refine ev_icmp_geN 222 dL_act_34 rfl (by omega) (by omega) (fun hc34 => ?_) (fun hc34 => ?_)
  · refine ev_iload dL_act_222 rfl ?_
    refine ev_bipush (nI 8) dL_act_224 rfl ?_
    refine ev_icmp_geN 422 dL_act_226 rfl (by omega) (by omega) (fun hc226 => ?_) (fun hc226 => ?_)
    · first | omega | exact absurd hc226 (by decide) | exact absurd rfl hc226 | exact hc226 rfl | exact absurd hc226 (by assumption) | exact absurd (by assumption) hc226
    · refine ev_aload_n dL_act_229 rfl rfl ?_
      refine ev_iload dL_act_230 rfl ?_
      refine ev_ialoadF dL_act_232 (k0) (by omega) (by decide) ?_
      refine ev_if_leN 422 dL_act_233 rfl (by omega) (fun hc233 => ?_) (fun hc233 => ?_)
      · first | omega | exact absurd hc233 (by decide) | exact absurd rfl hc233 | exact hc233 rfl | exact absurd hc233 (by assumption) | exact absurd (by assumption) hc233
      · refine ev_iload_n dL_act_236 rfl rfl ?_
        refine ev_iconst (nI 2) dL_act_237 rfl ?_
        refine ev_ishr dL_act_238 ?_
        refine ev_aload_n dL_act_239 rfl rfl ?_
        refine ev_iload dL_act_240 rfl ?_
        refine ev_ialoadF dL_act_242 (k0) (by omega) (by decide) ?_
        refine ev_cSP2 dL_act_243 cal_L_at lk_8_20 ⟨(Nat.le_of_ble_eq_true rfl), (Nat.le_of_ble_eq_true rfl)⟩ rfl (Nat.le_of_ble_eq_true rfl) (by omega) (by omega) (c_at _ (gn t) h0 (by omega)) ?_
        refine ev_istore (L' := [_, _, _, _, _, _, _, _, _, _, _, _, _, _, _, _, _, _]) dL_act_246 (Nat.le_of_ble_eq_true rfl) rfl ?_
        refine ev_iconst (nI 1) dL_act_248 rfl ?_
        refine ev_iload_n dL_act_249 rfl rfl ?_
        refine ev_bipush (nI 6) dL_act_250 rfl ?_
        refine ev_ishr dL_act_252 ?_
        refine ev_aload_n dL_act_253 rfl rfl ?_
        refine ev_iload dL_act_254 rfl ?_
        refine ev_ialoadF dL_act_256 (k0) (by omega) (by decide) ?_
        refine ev_iload dL_act_257 rfl ?_
        refine ev_isubN dL_act_259 (by omega) ?_
        refine ev_iconst (nI 4) dL_act_260 rfl ?_
        refine ev_icmp_geN 274 dL_act_261 rfl (by omega) (by omega) (fun hc261 => ?_) (fun hc261 => ?_)
        · refine ev_iconst (nI 4) dL_act_274 rfl ?_
          refine ev_cSP2 dL_act_275 cal_L_at lk_8_20 ⟨(Nat.le_of_ble_eq_true rfl), (Nat.le_of_ble_eq_true rfl)⟩ rfl (Nat.le_of_ble_eq_true rfl) (by omega) (by omega) (c_at _ _ (by omega) (by omega)) ?_
          refine ev_iaddN dL_act_278 ?_
          refine ev_istore (L' := [_, _, _, _, _, _, _, _, _, _, _, _, _, _, _, _, _, _]) dL_act_279 (Nat.le_of_ble_eq_true rfl) rfl ?_
          refine ev_pc (pc' := 281) rfl ?_
          first | exact TK _ _ (by omega) (by omega) (by omega) | (have b3 := b1 (by omega); exact TK _ _ (by omega) (by omega) (by omega))
        · refine ev_aload_n dL_act_264 rfl rfl ?_
          refine ev_iload dL_act_265 rfl ?_
          refine ev_ialoadF dL_act_267 (k0) (by omega) (by decide) ?_
          refine ev_iload dL_act_268 rfl ?_
          refine ev_isubN dL_act_270 (by omega) ?_
          refine ev_goto 275 dL_act_271 rfl ?_
          refine ev_cSP2 dL_act_275 cal_L_at lk_8_20 ⟨(Nat.le_of_ble_eq_true rfl), (Nat.le_of_ble_eq_true rfl)⟩ rfl (Nat.le_of_ble_eq_true rfl) (by omega) (by omega) (c_at _ _ (by omega) (by omega)) ?_
          refine ev_iaddN dL_act_278 ?_
          refine ev_istore (L' := [_, _, _, _, _, _, _, _, _, _, _, _, _, _, _, _, _, _]) dL_act_279 (Nat.le_of_ble_eq_true rfl) rfl ?_
          refine ev_pc (pc' := 281) rfl ?_
          first | exact TK _ _ (by omega) (by omega) (by omega) | (have b3 := b1 (by omega); exact TK _ _ (by omega) (by omega) (by omega))
  · first | omega | exact absurd hc34 (by decide) | exact absurd rfl hc34 | exact hc34 rfl | exact absurd hc34 (by assumption) | exact absurd (by assumption) hc34
set_option maxHeartbeats 4000000 in
set_option maxRecDepth 100000 in
theorem act_copy {X : mX} {h : mH} {A : mAs} {gn gs ge gl : Nat → Nat} {gc : Nat → Int64} {gq go : Nat → Nat} (J : JW h A gn gs ge gl gc gq go) {N a t : Nat} (hN : 277 ≤ N) (hN2 : N + 7 < 1000000) (x y : Int32) (ha : a = 8) (ht : t < 4) : Ev X m_L_act (some (N + 1), some (N + 6), 1, 16, 6, 184) 30 [.ref 0, .int x, .int y, .ref 270, .ref 271, .ref 272, .ref 273, .ref 274, .ref 275, .ref 276, .int (nI a), .int (nI t), .ref N, .int (nI 0), .int (nI 0), jk, jk, jk] [] (mset h N (aI 16 (nf (fun _ => 0)))) (fun (o : mO) (h1 : mH) => o = .inl (some (.int (nI 1))) ∧ PW h1) := by
  obtain ⟨JC, JI, JB, Jl, Jr, J9⟩ := J
  have JT := JI.1
  have J6 := JI.2.2.1
  have oN : Out h (mset h N (aI 16 (nf (fun _ => 0)))) N 1 := Out.set (by omega) (by omega)
  have JC0 := JC.go oN (by omega)
  have hlw0 := LawN.with (V := N) (Jl.go oN (Or.inl hN)) (mset_s _ _ _)
  obtain ⟨hgt, h16t, hplt⟩ := Jr.2.2.2.2 t ht
  have k0 := hlw0.1
  have hu := atN_lt (y >>> (nI 2 &&& 31)) (n := 4) (by decide)
  refine ev_iload dL_act_30 rfl ?_
  refine ev_bipush (nI 6) dL_act_32 rfl ?_
  refine ev_icmp_geN 222 dL_act_34 rfl (by omega) (by omega) (fun hc34 => ?_) (fun hc34 => ?_)
  · refine ev_iload dL_act_222 rfl ?_
    refine ev_bipush (nI 8) dL_act_224 rfl ?_
    refine ev_icmp_geN 422 dL_act_226 rfl (by omega) (by omega) (fun hc226 => ?_) (fun hc226 => ?_)
    · refine ev_iload dL_act_422 rfl ?_
      refine ev_bipush (nI 8) dL_act_424 rfl ?_
      refine ev_icmp_neN 560 dL_act_426 rfl (by omega) (by omega) (fun hc426 => ?_) (fun hc426 => ?_)
      · first | omega | exact absurd hc426 (by decide) | exact absurd rfl hc426 | exact hc426 rfl | exact absurd hc426 (by assumption) | exact absurd (by assumption) hc426
      · refine ev_iload_n dL_act_429 rfl rfl ?_
        refine ev_iconst (nI 2) dL_act_430 rfl ?_
        refine ev_ishr dL_act_431 ?_
        refine ev_iconst (nI 4) dL_act_432 rfl ?_
        refine ev_cSP2 dL_act_433 cal_L_at lk_8_20 ⟨(Nat.le_of_ble_eq_true rfl), (Nat.le_of_ble_eq_true rfl)⟩ rfl (Nat.le_of_ble_eq_true rfl) (by omega) (by omega) (c_at _ 4 (by decide) (by decide)) ?_
        refine ev_pc (pc' := 436) rfl ?_
        generalize atN (y >>> (nI 2 &&& 31)) 4 = u at *
        obtain ⟨hgu, h16u, hplu⟩ := Jr.2.2.2.2 u hu
        refine ev_istore (L' := [_, _, _, _, _, _, _, _, _, _, _, _, _, _, _, _, _, _]) dL_act_436 (Nat.le_of_ble_eq_true rfl) rfl ?_
        refine ev_iconst (nI 0) dL_act_438 rfl ?_
        refine ev_istore (L' := [_, _, _, _, _, _, _, _, _, _, _, _, _, _, _, _, _, _]) dL_act_439 (Nat.le_of_ble_eq_true rfl) rfl ?_
        refine ev_pc (pc' := 441) rfl ?_
        have LP441 : ∀ (mz : Nat) (k : Nat) (h1 : mH) (gv : Nat → Nat), gn u - k = mz → (k ≤ gn u) → (ClsN h1 A) → (LwN h1 N gn gs ge gl gc gq go gv) → (∀ j, j < k → gv j = kS (tC (aT A) u) j) → Ev X m_L_act (some (N + 1), some (N + 6), 1, 16, 6, 184) 441 [.ref 0, .int x, .int y, .ref 270, .ref 271, .ref 272, .ref 273, .ref 274, .ref 275, .ref 276, .int (nI a), .int (nI t), .ref N, .int (nI k), .int (nI 0), .int (nI u), .int (nI k), jk] [] h1 (fun (o : mO) (h1 : mH) => o = .inl (some (.int (nI 1))) ∧ PW h1) := by
          intro mz
          induction mz using Nat.strongRecOn with
          | _ mz ih =>
            intro k h1 gv hmz hk JC1 hlw hgv
            have hlw2 := hlw
            obtain ⟨k0, k1, k2, k3, k4, k5, k6, k7⟩ := hlw
            refine ev_iload dL_act_441 rfl ?_
            refine ev_aload_n dL_act_443 rfl rfl ?_
            refine ev_iload dL_act_444 rfl ?_
            first | refine ev_ialoadF dL_act_446 (k0) (by omega) (by decide) ?_ | refine ev_ialoadF dL_act_446 (k1) (by omega) (by decide) ?_ | refine ev_ialoadF dL_act_446 (k7) (by omega) (by decide) ?_
            refine ev_icmp_geN 475 dL_act_447 rfl (by omega) (by omega) (fun hc447 => ?_) (fun hc447 => ?_)
            · refine ev_pc (pc' := 475) rfl ?_
              have ek : k = gn u := by omega
              rw [ek, hgu] at hgv
              rw [ek, hgu]
              have hsg : ∀ j, j < kL (tC (aT A) u) → 1 ≤ kS (tC (aT A) u) j ∧ kS (tC (aT A) u) j ≤ 8 := (JT.2.1 u hu).2.1
              have hK : Tile (cutK (tV (aT A)) (kL (tC (aT A) u)) (kS (tC (aT A) u))) := cutK_tile JT.1 (by omega) hsg
              refine ev_fgt 16 (L' := [_, _, _, _, _, _, _, _, _, _, _, _, _, _, _, _, _, _]) rfl ?_
              refine ev_aload_n dL_act_475 rfl rfl ?_
              refine ev_aload dL_act_476 rfl ?_
              refine ev_aload dL_act_478 rfl ?_
              refine ev_aload dL_act_480 rfl ?_
              refine ev_aload dL_act_482 rfl ?_
              refine ev_aload dL_act_484 rfl ?_
              refine ev_aload dL_act_486 rfl ?_
              refine ev_iload dL_act_488 rfl ?_
              refine ev_aload dL_act_490 rfl ?_
              refine ev_iload dL_act_492 rfl ?_
              refine ev_pc (pc' := 494) rfl ?_
              refine ev_cSG10 dL_act_494 cal_L_lay lk_8_30 ⟨(Nat.le_of_ble_eq_true rfl), (Nat.le_of_ble_eq_true rfl)⟩ rfl (Nat.le_of_ble_eq_true rfl) (by omega) (by omega) (c_lay (X := X) hlw2 hN (Nat.lt_succ_self N) (by omega) Jr JT t (kL (tC (aT A) u)) ht h16u (s := kS (tC (aT A) u)) hgv hsg) (fun v h2 q => ?_) (fun k h2 q => ?_)
              rotate_left
              · cases hok : okS (aT A) t (cutK (tV (aT A)) (kL (tC (aT A) u)) (kS (tC (aT A) u))) with
                | true => have := (q.1 hok).1; cases this
                | false => have := (q.2.1 hok).1; cases this
              obtain ⟨q1, q2, q3⟩ := q
              refine ev_pc (pc' := 497) rfl ?_
              cases hok : okS (aT A) t (cutK (tV (aT A)) (kL (tC (aT A) u)) (kS (tC (aT A) u))) with
              | true =>
                obtain ⟨e, n2, s2, e2, l2, c2, q2', o2, hl2, hr2, h92⟩ := q1 hok
                cases e
                have hkn40 := hK.n40
                have hge : 0 ≤ nI (kN (cutK (tV (aT A)) (kL (tC (aT A) u)) (kS (tC (aT A) u)))) := by
                  rw [i_le, nI_toInt (by omega)]
                  exact Int.natCast_nonneg _
                have hA2 := JC1.go q3 (Nat.le_refl _)
                refine ev_istore (L' := [_, _, _, _, _, _, _, _, _, _, _, _, _, _, _, _, _, _]) dL_act_497 (Nat.le_of_ble_eq_true rfl) rfl ?_
                refine ev_iload dL_act_499 rfl ?_
                refine ev_if_ge 524 dL_act_501 rfl (fun hc501 => ?_) (fun hc501 => ?_)
                · refine ev_pc (pc' := 524) rfl ?_
                  refine act_n9_524 hl2.1 (by rw [h92, J9]; exact J6) rfl (fun h3 g1 e1 e2 k0 o3 => ?_)
                  have hl3 := hl2.up0 hN o3 k0
                  have hA3 := hA2.go o3 (Nat.le_refl _)
                  have hob := hA3.1
                  refine ev_aload_n dL_act_541 rfl rfl ?_
                  refine ev_iload dL_act_542 rfl ?_
                  refine ev_iload dL_act_544 rfl ?_
                  refine ev_cVU2 dL_act_546 cal_X6_copy lk_8_51 ⟨(Nat.le_of_ble_eq_true rfl), (Nat.le_of_ble_eq_true rfl)⟩ rfl (hob) (Nat.le_of_ble_eq_true rfl) (by omega) (by omega) (c_copy (X := X) hA3 u hu (fun j hj => (hsg j hj).1) t ht (JT.ch ht hK) hok) (fun v h546 hq546 => ?_)
                  refine ev_pc (pc' := 549) rfl ?_
                  obtain ⟨rfl, hA5, o5⟩ := hq546
                  refine ev_iload dL_act_549 rfl ?_
                  refine ev_icmp_neN 558 dL_act_551 rfl (by omega) (by omega) (fun hc551 => ?_) (fun hc551 => ?_)
                  · first | omega | exact absurd hc551 (by decide) | exact absurd rfl hc551 | exact hc551 rfl | exact absurd hc551 (by assumption) | exact absurd (by assumption) hc551
                  · refine ev_iconst (nI 1) dL_act_554 rfl ?_
                    refine ev_goto 559 dL_act_555 rfl ?_
                    refine ev_zreturn dL_act_559 rfl (by first | rfl | exact bI_nar _) (Or.inl rfl) (by omega) (by omega) ?_
                    refine ⟨rfl, _, _, _, _, _, _, _, _, JW.chg2 (A := A) JI JB (A1 := (chgT (aT A) t (cutK (tV (aT A)) (kL (tC (aT A) u)) (kS (tC (aT A) u))), hisA A, (aB A, aD A))) (chgT_all JT ht hK hok).1 (LawN.of hl3) (hr2.n9 e2) (by rw [e1, h92, J9]) hA5 o5⟩
                · first | omega | exact absurd hc501 (by decide) | exact absurd rfl hc501 | exact hc501 rfl | exact absurd hc501 (by assumption) | exact absurd (by assumption) hc501
              | false =>
                obtain ⟨e, hl2⟩ := q2 hok
                cases e
                have hA2 := JC1.go q3 (Nat.le_refl _)
                have hob := hA2.1
                have k0 := hl2.1
                have hgt2 : gn t < 2 ^ 31 := by omega
                refine ev_istore (L' := [_, _, _, _, _, _, _, _, _, _, _, _, _, _, _, _, _, _]) dL_act_497 (Nat.le_of_ble_eq_true rfl) rfl ?_
                refine ev_iload dL_act_499 rfl ?_
                refine ev_if_ge 524 dL_act_501 rfl (fun hc501 => ?_) (fun hc501 => ?_)
                · first | omega | exact absurd hc501 (by decide) | exact absurd rfl hc501 | exact hc501 rfl | exact absurd hc501 (by assumption) | exact absurd (by assumption) hc501
                · refine ev_aload_n dL_act_504 rfl rfl ?_
                  refine ev_iload dL_act_505 rfl ?_
                  refine ev_iconst (nI 0) dL_act_507 rfl ?_
                  first | refine ev_cVP2 dL_act_508 cal_X6_text lk_8_44 ⟨(Nat.le_of_ble_eq_true rfl), (Nat.le_of_ble_eq_true rfl)⟩ rfl (hob) (Nat.le_of_ble_eq_true rfl) (by omega) (by omega) ((show CnP X m_X6_text [.ref 0, .int (nI t), .int (nI 0)] h2 (some (.int (nI (gn t)))) from by have z := c_text (X := X) hA2 t 0 ht (by decide); rwa [show txtV (aT A) t 0 = gn t from hgt.symm] at z)) ?_ | refine ev_cVP2 dL_act_508 cal_X6_text lk_8_44 ⟨(Nat.le_of_ble_eq_true rfl), (Nat.le_of_ble_eq_true rfl)⟩ rfl (k0) (Nat.le_of_ble_eq_true rfl) (by omega) (by omega) ((show CnP X m_X6_text [.ref 0, .int (nI t), .int (nI 0)] h2 (some (.int (nI (gn t)))) from by have z := c_text (X := X) hA2 t 0 ht (by decide); rwa [show txtV (aT A) t 0 = gn t from hgt.symm] at z)) ?_
                  refine ev_aload_n dL_act_511 rfl rfl ?_
                  refine ev_iload dL_act_512 rfl ?_
                  first | refine ev_ialoadF dL_act_514 (hob) (by omega) (by decide) ?_ | refine ev_ialoadF dL_act_514 (k0) (by omega) (by decide) ?_
                  refine ev_icmp_neN 522 dL_act_515 rfl (by omega) (by omega) (fun hc515 => ?_) (fun hc515 => ?_)
                  · first | omega | exact absurd hc515 (by decide) | exact absurd rfl hc515 | exact hc515 rfl | exact absurd hc515 (by assumption) | exact absurd (by assumption) hc515
                  · refine ev_iconst (nI 1) dL_act_518 rfl ?_
                    refine ev_goto 523 dL_act_519 rfl ?_
                    refine ev_zreturn dL_act_523 rfl (by first | rfl | exact bI_nar _) (Or.inl rfl) (by omega) (by omega) ?_
                    refine ⟨rfl, A, _, _, _, _, _, _, _, ⟨hA2, JI, JB, LawN.of hl2, Jr, J9⟩⟩
            · refine ev_aload dL_act_450 rfl ?_
              refine ev_iload dL_act_452 rfl ?_
              refine ev_iincN (L' := [_, _, _, _, _, _, _, _, _, _, _, _, _, _, _, _, _, _]) 1 dL_act_454 rfl rfl ?_
              refine ev_aload dL_act_457 rfl ?_
              refine ev_bipush (nI 16) dL_act_459 rfl ?_
              refine ev_iload dL_act_461 rfl ?_
              refine ev_imulN dL_act_463 ?_
              refine ev_iload dL_act_464 rfl ?_
              refine ev_iaddN dL_act_466 ?_
              first | refine ev_ialoadF dL_act_467 (k0) (by omega) (by decide) ?_ | refine ev_ialoadF dL_act_467 (k1) (by omega) (by decide) ?_ | refine ev_ialoadF dL_act_467 (k7) (by omega) (by decide) ?_
              first | refine ev_iastoreF dL_act_468 (k0) (by omega) (by decide) ?_ | refine ev_iastoreF dL_act_468 (k1) (by omega) (by decide) ?_ | refine ev_iastoreF dL_act_468 (k7) (by omega) (by decide) ?_
              refine ev_iincN (L' := [_, _, _, _, _, _, _, _, _, _, _, _, _, _, _, _, _, _]) 1 dL_act_469 rfl rfl ?_
              refine ev_goto 441 dL_act_472 rfl ?_
              refine ev_pc (pc' := 441) rfl ?_
              exact ih (gn u - (k + 1)) (by omega) (k + 1) _ _ rfl (by omega) (JC1.go (a := N) (n := 1) (Out.set (by omega) (by omega)) (by omega)) (hlw2.s7 hN _) (upN_ext hgv (Jr.sg JT hu (by omega)))
        exact LP441 _ 0 (mset h N (aI 16 (nf (fun _ => 0)))) (fun _ => 0) rfl (Nat.zero_le _) JC0 hlw0 (fun j hj => absurd hj (Nat.not_lt_zero j))
    · first | omega | exact absurd hc226 (by decide) | exact absurd rfl hc226 | exact hc226 rfl | exact absurd hc226 (by assumption) | exact absurd (by assumption) hc226
  · first | omega | exact absurd hc34 (by decide) | exact absurd rfl hc34 | exact hc34 rfl | exact absurd hc34 (by assumption) | exact absurd (by assumption) hc34
set_option maxHeartbeats 4000000 in
set_option maxRecDepth 100000 in
theorem act_rot {X : mX} {h : mH} {A : mAs} {gn gs ge gl : Nat → Nat} {gc : Nat → Int64} {gq go : Nat → Nat} (J : JW h A gn gs ge gl gc gq go) {N a t : Nat} (hN : 277 ≤ N) (hN2 : N + 7 < 1000000) (x y : Int32) (ha : a = 9) (h0 : 0 < gn t) (ht : t < 4) : Ev X m_L_act (some (N + 1), some (N + 6), 1, 16, 6, 184) 30 [.ref 0, .int x, .int y, .ref 270, .ref 271, .ref 272, .ref 273, .ref 274, .ref 275, .ref 276, .int (nI a), .int (nI t), .ref N, .int (nI 0), .int (nI 0), jk, jk, jk] [] (mset h N (aI 16 (nf (fun _ => 0)))) (fun (o : mO) (h1 : mH) => o = .inl (some (.int (nI 1))) ∧ PW h1) := by
  obtain ⟨JC, JI, JB, Jl, Jr, J9⟩ := J
  have JT := JI.1
  have J6 := JI.2.2.1
  have oN : Out h (mset h N (aI 16 (nf (fun _ => 0)))) N 1 := Out.set (by omega) (by omega)
  have JC0 := JC.go oN (by omega)
  have hlw0 := LawN.with (V := N) (Jl.go oN (Or.inl hN)) (mset_s _ _ _)
  obtain ⟨hgt, h16t, hplt⟩ := Jr.2.2.2.2 t ht
  have k0 := hlw0.1
  have b0 := atN_lt (y >>> (nI 2 &&& 31)) (n := gn t) h0
  refine ev_iload dL_act_30 rfl ?_
  refine ev_bipush (nI 6) dL_act_32 rfl ?_
  refine ev_icmp_geN 222 dL_act_34 rfl (by omega) (by omega) (fun hc34 => ?_) (fun hc34 => ?_)
  · refine ev_iload dL_act_222 rfl ?_
    refine ev_bipush (nI 8) dL_act_224 rfl ?_
    refine ev_icmp_geN 422 dL_act_226 rfl (by omega) (by omega) (fun hc226 => ?_) (fun hc226 => ?_)
    · refine ev_iload dL_act_422 rfl ?_
      refine ev_bipush (nI 8) dL_act_424 rfl ?_
      refine ev_icmp_neN 560 dL_act_426 rfl (by omega) (by omega) (fun hc426 => ?_) (fun hc426 => ?_)
      · refine ev_iload dL_act_560 rfl ?_
        refine ev_bipush (nI 9) dL_act_562 rfl ?_
        refine ev_icmp_neN 717 dL_act_564 rfl (by omega) (by omega) (fun hc564 => ?_) (fun hc564 => ?_)
        · first | omega | exact absurd hc564 (by decide) | exact absurd rfl hc564 | exact hc564 rfl | exact absurd hc564 (by assumption) | exact absurd (by assumption) hc564
        · refine ev_aload_n dL_act_567 rfl rfl ?_
          refine ev_iload dL_act_568 rfl ?_
          refine ev_ialoadF dL_act_570 (k0) (by omega) (by decide) ?_
          refine ev_if_leN 717 dL_act_571 rfl (by omega) (fun hc571 => ?_) (fun hc571 => ?_)
          · first | omega | exact absurd hc571 (by decide) | exact absurd rfl hc571 | exact hc571 rfl | exact absurd hc571 (by assumption) | exact absurd (by assumption) hc571
          · refine ev_iconst (nI 1) dL_act_574 rfl ?_
            refine ev_iload_n dL_act_575 rfl rfl ?_
            refine ev_iconst (nI 2) dL_act_576 rfl ?_
            refine ev_ishr dL_act_577 ?_
            refine ev_aload_n dL_act_578 rfl rfl ?_
            refine ev_iload dL_act_579 rfl ?_
            refine ev_ialoadF dL_act_581 (k0) (by omega) (by decide) ?_
            refine ev_cSP2 dL_act_582 cal_L_at lk_8_20 ⟨(Nat.le_of_ble_eq_true rfl), (Nat.le_of_ble_eq_true rfl)⟩ rfl (Nat.le_of_ble_eq_true rfl) (by omega) (by omega) (c_at _ (gn t) h0 (by omega)) ?_
            refine ev_iaddN dL_act_585 ?_
            refine ev_pc (pc' := 586) rfl ?_
            have hm1 : 1 ≤ 1 + atN (y >>> (nI 2 &&& 31)) (gn t) := by omega
            have hm2 : 1 + atN (y >>> (nI 2 &&& 31)) (gn t) ≤ gn t := by omega
            generalize 1 + atN (y >>> (nI 2 &&& 31)) (gn t) = m at *
            refine ev_istore (L' := [_, _, _, _, _, _, _, _, _, _, _, _, _, _, _, _, _, _]) dL_act_586 (Nat.le_of_ble_eq_true rfl) rfl ?_
            refine ev_aload_n dL_act_588 rfl rfl ?_
            refine ev_iload dL_act_589 rfl ?_
            refine ev_ialoadF dL_act_591 (k0) (by omega) (by decide) ?_
            refine ev_istore (L' := [_, _, _, _, _, _, _, _, _, _, _, _, _, _, _, _, _, _]) dL_act_592 (Nat.le_of_ble_eq_true rfl) rfl ?_
            refine ev_iconst (nI 0) dL_act_594 rfl ?_
            refine ev_istore (L' := [_, _, _, _, _, _, _, _, _, _, _, _, _, _, _, _, _, _]) dL_act_595 (Nat.le_of_ble_eq_true rfl) rfl ?_
            refine ev_pc (pc' := 597) rfl ?_
            have LP597 : ∀ (mz : Nat) (k : Nat) (h1 : mH) (gv : Nat → Nat), gn t - k = mz → (k ≤ gn t) → (ClsN h1 A) → (LwN h1 N gn gs ge gl gc gq go gv) → (∀ j, j < k → gv j = rotF (kS (tC (aT A) t)) (kL (tC (aT A) t)) m j) → Ev X m_L_act (some (N + 1), some (N + 6), 1, 16, 6, 184) 597 [.ref 0, .int x, .int y, .ref 270, .ref 271, .ref 272, .ref 273, .ref 274, .ref 275, .ref 276, .int (nI a), .int (nI t), .ref N, .int (nI (gn t)), .int (nI m), .int (nI k), jk, jk] [] h1 (fun (o : mO) (h1 : mH) => o = .inl (some (.int (nI 1))) ∧ PW h1) := by
              intro mz
              induction mz using Nat.strongRecOn with
              | _ mz ih =>
                intro k h1 gv hmz hk JC1 hlw hgv
                have hlw2 := hlw
                obtain ⟨k0, k1, k2, k3, k4, k5, k6, k7⟩ := hlw
                have hmod : k < gn t → (k + m) % gn t = (if k < gn t - m then m + k else k - (gn t - m)) := fun z => by
                  by_cases w : k < gn t - m
                  · rw [if_pos w, Nat.mod_eq_of_lt (by omega)]; omega
                  · rw [if_neg w, show k + m = (k - (gn t - m)) + gn t by omega, Nat.add_mod_right, Nat.mod_eq_of_lt (by omega)]
                have hlt : (k + m) % gn t < gn t := Nat.mod_lt _ h0
                refine ev_iload dL_act_597 rfl ?_
                refine ev_iload dL_act_599 rfl ?_
                refine ev_icmp_geN 632 dL_act_601 rfl (by omega) (by omega) (fun hc601 => ?_) (fun hc601 => ?_)
                · refine ev_pc (pc' := 632) rfl ?_
                  have ek : k = gn t := by omega
                  rw [ek, hgt] at hgv
                  rw [hgt]
                  have hsg : ∀ j, j < kL (tC (aT A) t) → 1 ≤ rotF (kS (tC (aT A) t)) (kL (tC (aT A) t)) m j ∧ rotF (kS (tC (aT A) t)) (kL (tC (aT A) t)) m j ≤ 8 := fun j hj => by
                    have hs8 := (JT.2.1 t ht).2.1
                    unfold rotF
                    split
                    · exact hs8 _ (by omega)
                    · exact hs8 _ (by omega)
                  have hK : Tile (cutK (tV (aT A)) (kL (tC (aT A) t)) (rotF (kS (tC (aT A) t)) (kL (tC (aT A) t)) m)) := cutK_tile JT.1 (by omega) hsg
                  refine ev_fgt 15 (L' := [_, _, _, _, _, _, _, _, _, _, _, _, _, _, _, _, _, _]) rfl ?_
                  refine ev_aload_n dL_act_632 rfl rfl ?_
                  refine ev_aload dL_act_633 rfl ?_
                  refine ev_aload dL_act_635 rfl ?_
                  refine ev_aload dL_act_637 rfl ?_
                  refine ev_aload dL_act_639 rfl ?_
                  refine ev_aload dL_act_641 rfl ?_
                  refine ev_aload dL_act_643 rfl ?_
                  refine ev_iload dL_act_645 rfl ?_
                  refine ev_aload dL_act_647 rfl ?_
                  refine ev_iload dL_act_649 rfl ?_
                  refine ev_pc (pc' := 651) rfl ?_
                  refine ev_cSG10 dL_act_651 cal_L_lay lk_8_30 ⟨(Nat.le_of_ble_eq_true rfl), (Nat.le_of_ble_eq_true rfl)⟩ rfl (Nat.le_of_ble_eq_true rfl) (by omega) (by omega) (c_lay (X := X) hlw2 hN (Nat.lt_succ_self N) (by omega) Jr JT t (kL (tC (aT A) t)) ht h16t (s := rotF (kS (tC (aT A) t)) (kL (tC (aT A) t)) m) hgv hsg) (fun v h2 q => ?_) (fun k h2 q => ?_)
                  rotate_left
                  · cases hok : okS (aT A) t (cutK (tV (aT A)) (kL (tC (aT A) t)) (rotF (kS (tC (aT A) t)) (kL (tC (aT A) t)) m)) with
                    | true => have := (q.1 hok).1; cases this
                    | false => have := (q.2.1 hok).1; cases this
                  obtain ⟨q1, q2, q3⟩ := q
                  refine ev_pc (pc' := 654) rfl ?_
                  cases hok : okS (aT A) t (cutK (tV (aT A)) (kL (tC (aT A) t)) (rotF (kS (tC (aT A) t)) (kL (tC (aT A) t)) m)) with
                  | true =>
                    obtain ⟨e, n2, s2, e2, l2, c2, q2', o2, hl2, hr2, h92⟩ := q1 hok
                    cases e
                    have hkn40 := hK.n40
                    have hge : 0 ≤ nI (kN (cutK (tV (aT A)) (kL (tC (aT A) t)) (rotF (kS (tC (aT A) t)) (kL (tC (aT A) t)) m))) := by
                      rw [i_le, nI_toInt (by omega)]
                      exact Int.natCast_nonneg _
                    have hA2 := JC1.go q3 (Nat.le_refl _)
                    refine ev_istore (L' := [_, _, _, _, _, _, _, _, _, _, _, _, _, _, _, _, _, _]) dL_act_654 (Nat.le_of_ble_eq_true rfl) rfl ?_
                    refine ev_iload dL_act_656 rfl ?_
                    refine ev_if_ge 681 dL_act_658 rfl (fun hc658 => ?_) (fun hc658 => ?_)
                    · refine ev_pc (pc' := 681) rfl ?_
                      refine act_n9_681 hl2.1 (by rw [h92, J9]; exact J6) rfl (fun h3 g1 e1 e2 k0 o3 => ?_)
                      have hl3 := hl2.up0 hN o3 k0
                      have hA3 := hA2.go o3 (Nat.le_refl _)
                      have hob := hA3.1
                      refine ev_aload_n dL_act_698 rfl rfl ?_
                      refine ev_iload dL_act_699 rfl ?_
                      refine ev_iload dL_act_701 rfl ?_
                      refine ev_cVU2 dL_act_703 cal_X6_rotate lk_8_54 ⟨(Nat.le_of_ble_eq_true rfl), (Nat.le_of_ble_eq_true rfl)⟩ rfl (hob) (Nat.le_of_ble_eq_true rfl) (by omega) (by omega) (c_rotate (X := X) hA3 t ht m hm1 (by omega) (fun j hj => (hsg j hj).1) (JT.ch ht hK) hok) (fun v h703 hq703 => ?_)
                      refine ev_pc (pc' := 706) rfl ?_
                      obtain ⟨rfl, hA5, o5⟩ := hq703
                      refine ev_iload dL_act_706 rfl ?_
                      refine ev_icmp_neN 715 dL_act_708 rfl (by omega) (by omega) (fun hc708 => ?_) (fun hc708 => ?_)
                      · first | omega | exact absurd hc708 (by decide) | exact absurd rfl hc708 | exact hc708 rfl | exact absurd hc708 (by assumption) | exact absurd (by assumption) hc708
                      · refine ev_iconst (nI 1) dL_act_711 rfl ?_
                        refine ev_goto 716 dL_act_712 rfl ?_
                        refine ev_zreturn dL_act_716 rfl (by first | rfl | exact bI_nar _) (Or.inl rfl) (by omega) (by omega) ?_
                        refine ⟨rfl, _, _, _, _, _, _, _, _, JW.chg2 (A := A) JI JB (A1 := (chgT (aT A) t (cutK (tV (aT A)) (kL (tC (aT A) t)) (rotF (kS (tC (aT A) t)) (kL (tC (aT A) t)) m)), hisA A, (aB A, aD A))) (chgT_all JT ht hK hok).1 (LawN.of hl3) (hr2.n9 e2) (by rw [e1, h92, J9]) hA5 o5⟩
                    · first | omega | exact absurd hc658 (by decide) | exact absurd rfl hc658 | exact hc658 rfl | exact absurd hc658 (by assumption) | exact absurd (by assumption) hc658
                  | false =>
                    obtain ⟨e, hl2⟩ := q2 hok
                    cases e
                    have hA2 := JC1.go q3 (Nat.le_refl _)
                    have hob := hA2.1
                    have k0 := hl2.1
                    have hgt2 : gn t < 2 ^ 31 := by omega
                    refine ev_istore (L' := [_, _, _, _, _, _, _, _, _, _, _, _, _, _, _, _, _, _]) dL_act_654 (Nat.le_of_ble_eq_true rfl) rfl ?_
                    refine ev_iload dL_act_656 rfl ?_
                    refine ev_if_ge 681 dL_act_658 rfl (fun hc658 => ?_) (fun hc658 => ?_)
                    · first | omega | exact absurd hc658 (by decide) | exact absurd rfl hc658 | exact hc658 rfl | exact absurd hc658 (by assumption) | exact absurd (by assumption) hc658
                    · refine ev_aload_n dL_act_661 rfl rfl ?_
                      refine ev_iload dL_act_662 rfl ?_
                      refine ev_iconst (nI 0) dL_act_664 rfl ?_
                      first | refine ev_cVP2 dL_act_665 cal_X6_text lk_8_44 ⟨(Nat.le_of_ble_eq_true rfl), (Nat.le_of_ble_eq_true rfl)⟩ rfl (hob) (Nat.le_of_ble_eq_true rfl) (by omega) (by omega) ((show CnP X m_X6_text [.ref 0, .int (nI t), .int (nI 0)] h2 (some (.int (nI (gn t)))) from by have z := c_text (X := X) hA2 t 0 ht (by decide); rwa [show txtV (aT A) t 0 = gn t from hgt.symm] at z)) ?_ | refine ev_cVP2 dL_act_665 cal_X6_text lk_8_44 ⟨(Nat.le_of_ble_eq_true rfl), (Nat.le_of_ble_eq_true rfl)⟩ rfl (k0) (Nat.le_of_ble_eq_true rfl) (by omega) (by omega) ((show CnP X m_X6_text [.ref 0, .int (nI t), .int (nI 0)] h2 (some (.int (nI (gn t)))) from by have z := c_text (X := X) hA2 t 0 ht (by decide); rwa [show txtV (aT A) t 0 = gn t from hgt.symm] at z)) ?_
                      refine ev_aload_n dL_act_668 rfl rfl ?_
                      refine ev_iload dL_act_669 rfl ?_
                      first | refine ev_ialoadF dL_act_671 (hob) (by omega) (by decide) ?_ | refine ev_ialoadF dL_act_671 (k0) (by omega) (by decide) ?_
                      refine ev_icmp_neN 679 dL_act_672 rfl (by omega) (by omega) (fun hc672 => ?_) (fun hc672 => ?_)
                      · first | omega | exact absurd hc672 (by decide) | exact absurd rfl hc672 | exact hc672 rfl | exact absurd hc672 (by assumption) | exact absurd (by assumption) hc672
                      · refine ev_iconst (nI 1) dL_act_675 rfl ?_
                        refine ev_goto 680 dL_act_676 rfl ?_
                        refine ev_zreturn dL_act_680 rfl (by first | rfl | exact bI_nar _) (Or.inl rfl) (by omega) (by omega) ?_
                        refine ⟨rfl, A, _, _, _, _, _, _, _, ⟨hA2, JI, JB, LawN.of hl2, Jr, J9⟩⟩
                · refine ev_aload dL_act_604 rfl ?_
                  refine ev_iload dL_act_606 rfl ?_
                  refine ev_aload dL_act_608 rfl ?_
                  refine ev_bipush (nI 16) dL_act_610 rfl ?_
                  refine ev_iload dL_act_612 rfl ?_
                  refine ev_imulN dL_act_614 ?_
                  refine ev_iload dL_act_615 rfl ?_
                  refine ev_iload dL_act_617 rfl ?_
                  refine ev_iaddN dL_act_619 ?_
                  refine ev_iload dL_act_620 rfl ?_
                  refine ev_iremN dL_act_622 (by omega) (by omega) (by omega) ?_
                  refine ev_iaddN dL_act_623 ?_
                  first | refine ev_ialoadF dL_act_624 (k0) (by omega) (by decide) ?_ | refine ev_ialoadF dL_act_624 (k1) (by omega) (by decide) ?_ | refine ev_ialoadF dL_act_624 (k7) (by omega) (by decide) ?_
                  first | refine ev_iastoreF dL_act_625 (k0) (by omega) (by decide) ?_ | refine ev_iastoreF dL_act_625 (k1) (by omega) (by decide) ?_ | refine ev_iastoreF dL_act_625 (k7) (by omega) (by decide) ?_
                  refine ev_iincN (L' := [_, _, _, _, _, _, _, _, _, _, _, _, _, _, _, _, _, _]) 1 dL_act_626 rfl rfl ?_
                  refine ev_goto 597 dL_act_629 rfl ?_
                  refine ev_pc (pc' := 597) rfl ?_
                  refine ih (gn t - (k + 1)) (by omega) (k + 1) _ _ rfl (by omega) (JC1.go (a := N) (n := 1) (Out.set (by omega) (by omega)) (by omega)) (hlw2.s7 hN _) (upN_ext hgv ((Jr.sg JT ht (by omega)).trans ?_))
                  rw [hmod (by omega), hgt]
                  unfold rotF
                  split <;> rfl
            exact LP597 _ 0 (mset h N (aI 16 (nf (fun _ => 0)))) (fun _ => 0) rfl (Nat.zero_le _) JC0 hlw0 (fun j hj => absurd hj (Nat.not_lt_zero j))
      · first | omega | exact absurd hc426 (by decide) | exact absurd rfl hc426 | exact hc426 rfl | exact absurd hc426 (by assumption) | exact absurd (by assumption) hc426
    · first | omega | exact absurd hc226 (by decide) | exact absurd rfl hc226 | exact hc226 rfl | exact absurd hc226 (by assumption) | exact absurd (by assumption) hc226
  · first | omega | exact absurd hc34 (by decide) | exact absurd rfl hc34 | exact hc34 rfl | exact absurd hc34 (by assumption) | exact absurd (by assumption) hc34
