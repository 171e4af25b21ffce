theorem rm_q {gc : Nat → Int64} {gq go : Nat → Nat} {S : mSo} {K : mCt} (h : RelS9 gc gq go S) : smN (fun j => if rmS S K j = true then gq j else 0) 60 = smN (fun k => if rmS S K k = true then rl (sR S k) else 0) 60 := smN_congr (fun k hk => by
  by_cases r : rmS S K k = true
  · rw [if_pos r, if_pos r, h.len hk, if_neg (by rw [rmS_n0 r]; decide)]
  · rw [if_neg r, if_neg r])
theorem size_q {gc : Nat → Int64} {gq go : Nat → Nat} {S : mSo} (h : RelS9 gc gq go S) : smN gq 60 = szS S := smN_congr (fun k hk => h.len hk)
theorem slots_q {gc : Nat → Int64} {gq go : Nat → Nat} {S : mSo} (h : RelS9 gc gq go S) : ctN (fun j => decide (gq j = 0)) 60 + pcS S = 60 := by
  rw [pcS, ctN_sm, ctN_sm, smN_plus (e := fun _ => 1) (fun k hk => ?_), sm_const (g := 1) (fun _ _ => rfl)]
  have hp := h.pos hk
  by_cases e : sR S k = 0
  · rw [isF_iff.mpr e, decide_eq_true (show gq k = 0 from Classical.byContradiction (fun z => hp.mp z e))]; rfl
  · rw [show isF S k = false from Bool.eq_false_iff.mpr (fun z => e (isF_iff.mp z)), decide_eq_false (hp.mpr e)]; rfl
theorem fit_1 {S : mSo} {K : mCt} {slots : Nat} (h : slots + pcS S = 60) (hz : szS S ≤ 150) : fitS S K = decide (ndS S K ≤ slots ∧ szS S + ndR S K ≤ 150) := by
  rw [fitS, decide_eq_decide]
  omega
theorem fit_2 {gc : Nat → Int64} {gq go : Nat → Nat} {S : mSo} {K : mCt} {slots w : Nat} (hr : RelS9 gc gq go S) (hD : SoD S) (hK : Tile K) (h : slots + pcS S = 60) (hz : szS S ≤ 150) : fitS (swN S K 60 w) K = decide (ndS S K ≤ slots + ctN (rmS S K) 60 ∧ szS S - smN (fun j => if rmS S K j = true then gq j else 0) 60 + ndR S K ≤ 150) := by
  have d := swN_nd (S := S) (K := K) (w := w) hD hK
  have p := swN_pc (S := S) (K := K) (w := w)
  have q := swN_sz (S := S) (K := K) (w := w)
  rw [fitS, d.1, d.2, rm_q hr, decide_eq_decide]
  omega
set_option maxHeartbeats 4000000 in
set_option maxRecDepth 100000 in
theorem lay_E {X : mX} {h : mH} {V M slots : Nat} {ce sl mc ms : Nat} {gn gs ge gl : Nat → Nat} {gc : Nat → Int64} {gq go gv : Nat → Nat} {Q : mO → mH → Prop} (hl : LwN h V gn gs ge gl gc gq go gv) (hV : 277 ≤ V) (hVM : V < M) (hM : M + 5 < 1000000) (t many : Nat) {S : mSo} {f4 : Nat → Nat} (hS : RelS9 gc gq f4 S) (hD : SoD S) (hB : SoB S) (hz : szS S ≤ 150) (hso : slots + pcS S = 60) {K : mCt} (hK : Tile K) (h16 : kL K ≤ 16) {f1 : Nat → Int64} {f2 f3 : Nat → Nat} (b1 : h M = some (aL 16 f1)) (b2 : h (M + 1) = some (aI 16 (nf f2))) (b4 : h (M + 3) = some (aI 60 (nf f4))) (hC : CutL f1 f2 f3 K) (hce : ce + 1 ≤ mc) (hsl : sl + 60 ≤ ms)
    (kk : ∀ (h1 : mH) (f5 : Nat → Nat) (sw : Nat), Out h h1 (M + 4) 1 → h1 (M + 4) = some (aI 60 (nf f5)) → (∀ j, j < 60 → f5 j = b2n (!(fitS S K) && rmS S K j)) → sw = (if fitS S K = true then 0 else ctN (rmS S K) 60) → (fitS S K = true ∨ fitS (swN S K 60 (sW S + ctN (rmS S K) 60)) K = true) → Ev X m_L_lay (some (M + 5), some (M + 5), ce + 1, sl + 60, mc, ms) 499 [.ref 270, .ref 271, .ref 272, .ref 273, .ref 274, .ref 275, .ref 276, .int (nI t), .ref V, .int (nI many), .ref M, .ref (M + 1), .ref (M + 2), .int (nI (kN K)), jk, .ref (M + 3), jk, jk, jk, jk, .ref (M + 4), .int (nI sw), jk, jk, jk, jk] [] h1 Q)
    (kx : fitS S K = false → fitS (swN S K 60 (sW S + ctN (rmS S K) 60)) K = false → ∀ h1, Out h h1 (M + 4) 1 → Q (.inl (some (.int (-1)))) h1) :
    Ev X m_L_lay (some (M + 4), some (M + 5), ce, sl, mc, ms) 338 [.ref 270, .ref 271, .ref 272, .ref 273, .ref 274, .ref 275, .ref 276, .int (nI t), .ref V, .int (nI many), .ref M, .ref (M + 1), .ref (M + 2), .int (nI (kN K)), jk, .ref (M + 3), .int (nI (szS S)), .int (nI slots), .int (nI (ndS S K)), .int (nI (ndR S K)), jk, jk, jk, jk, jk, jk] [] h Q := by
  have hn16 := hK.n16 h16
  have hq : ∀ p, p < kN K → Ce (kR K p) (f1 p) (f2 p) ∧ f2 p ≤ 16 := fun p hp => ⟨hC.ce hK h16 hp, (hC.ce hK h16 hp).le.2⟩
  have hnd : ndS S K ≤ 16 := Nat.le_trans (ctN_le _ _) hn16
  have hnr : ndR S K ≤ 16 * 40 := Nat.le_trans (ndR_le (fun p hp => by have := (hK.en hp).2.2.2; omega)) (Nat.mul_le_mul_right _ hn16)
  have hf1 := fit_1 (K := K) hso hz
  have hf2 := fit_2 (w := (sW S + ctN (rmS S K) 60)) hS hD hK hso hz
  have hsz := size_q hS
  have hZ : ∀ k, k ≤ 60 → smN (fun j => if rmS S K j = true then gq j else 0) k ≤ szS S := fun k hk => Nat.le_trans (smN_mono _ hk) (by rw [← hsz]; exact smN_le2 (fun j _ => by split <;> omega))
  have SW : ∀ h2, Out h h2 (M + 4) 1 → h2 (M + 4) = some (aI 60 (nf (fun _ => 0))) → fitS S K = false → Ev X m_L_lay (some (M + 5), some (M + 5), ce + 1, sl + 60, mc, ms) 365 [.ref 270, .ref 271, .ref 272, .ref 273, .ref 274, .ref 275, .ref 276, .int (nI t), .ref V, .int (nI many), .ref M, .ref (M + 1), .ref (M + 2), .int (nI (kN K)), jk, .ref (M + 3), .int (nI (szS S)), .int (nI (slots)), .int (nI (ndS S K)), .int (nI (ndR S K)), .ref (M + 4), .int (nI 0), jk, jk, jk, jk] [] h2 Q := by
    intro h2 ho2 a5 hfn
    refine ev_iconst (nI 0) dL_lay_365 rfl ?_
    refine ev_istore (L' := [_, _, _, _, _, _, _, _, _, _, _, _, _, _, _, _, _, _, _, _, _, _, _, _, _, _]) dL_lay_366 (Nat.le_of_ble_eq_true rfl) rfl ?_
    refine ev_pc (pc' := 368) rfl ?_
    have LP368 : ∀ (mz : Nat) (k : Nat) (h1 : mH) (f5 : Nat → Nat), 60 - k = mz → (k ≤ 60) → (Out h h1 (M + 4) 1) → (h1 (M + 4) = some (aI 60 (nf f5))) → (∀ j, j < 60 → f5 j = b2n (decide (j < k) && rmS S K j)) → Ev X m_L_lay (some (M + 5), some (M + 5), ce + 1, sl + 60, mc, ms) 368 [.ref 270, .ref 271, .ref 272, .ref 273, .ref 274, .ref 275, .ref 276, .int (nI t), .ref V, .int (nI many), .ref M, .ref (M + 1), .ref (M + 2), .int (nI (kN K)), jk, .ref (M + 3), .int (nI (szS S - smN (fun j => if rmS S K j = true then gq j else 0) k)), .int (nI (slots + ctN (rmS S K) k)), .int (nI (ndS S K)), .int (nI (ndR S K)), .ref (M + 4), .int (nI (ctN (rmS S K) k)), .int (nI k), jk, jk, jk] [] h1 Q := by
      intro mz
      induction mz using Nat.strongRecOn with
      | _ mz ih =>
        intro k h1 f5 hmz hk ho a5 hf
        have ihk := ih
        obtain ⟨k0, k1, k2, k3, k4, k5, k6, k7⟩ := hl.go ho (Or.inl (by omega)) (Or.inl (by omega))
        have a1 : h1 M = some (aL 16 f1) := (ho _ (by omega)).trans b1
        have a2 : h1 (M + 1) = some (aI 16 (nf f2)) := (ho _ (by omega)).trans b2
        have a4 : h1 (M + 3) = some (aI 60 (nf f4)) := (ho _ (by omega)).trans b4
        have hqk : k < 60 → gq k ≤ 16 := fun z => hS.le z
        have hZk0 := hZ k hk
        have hct := ctN_le (rmS S K) k
        refine ev_iload dL_lay_368 rfl ?_
        refine ev_bipush (nI 60) dL_lay_370 rfl ?_
        refine ev_icmp_geN 479 dL_lay_372 rfl (by first | omega | (have := hqk (by omega); omega)) (by first | omega | (have := hqk (by omega); omega)) (fun hc372 => ?_) (fun hc372 => ?_)
        · refine ev_pc (pc' := 479) rfl ?_
          have ek : k = 60 := by omega
          subst ek
          refine ev_iload dL_lay_479 rfl ?_
          refine ev_iload dL_lay_481 rfl ?_
          refine ev_icmp_gtN 497 dL_lay_483 rfl (by omega) (by omega) (fun hc483 => ?_) (fun hc483 => ?_)
          · refine ev_iconst (-1) dL_lay_497 rfl ?_
            refine ev_ireturn dL_lay_498 rfl (Or.inl rfl) (by omega) (by omega) ?_
            refine kx hfn ?_ h1 ho
            rw [hf2]
            exact decide_eq_false (by omega)
          · refine ev_iload dL_lay_486 rfl ?_
            refine ev_iload dL_lay_488 rfl ?_
            refine ev_iaddN dL_lay_490 ?_
            refine ev_sipush (nI 150) dL_lay_491 rfl ?_
            refine ev_icmp_leN 499 dL_lay_494 rfl (by omega) (by omega) (fun hc494 => ?_) (fun hc494 => ?_)
            · refine ev_pc (pc' := 499) rfl ?_
              have hy2 : fitS (swN S K 60 (sW S + ctN (rmS S K) 60)) K = true := by
                rw [hf2]
                exact decide_eq_true (by omega)
              refine ev_fgt 16 (L' := [_, _, _, _, _, _, _, _, _, _, _, _, _, _, _, _, _, _, _, _, _, _, _, _, _, _]) rfl ?_
              refine ev_fgt 17 (L' := [_, _, _, _, _, _, _, _, _, _, _, _, _, _, _, _, _, _, _, _, _, _, _, _, _, _]) rfl ?_
              refine ev_fgt 18 (L' := [_, _, _, _, _, _, _, _, _, _, _, _, _, _, _, _, _, _, _, _, _, _, _, _, _, _]) rfl ?_
              refine ev_fgt 19 (L' := [_, _, _, _, _, _, _, _, _, _, _, _, _, _, _, _, _, _, _, _, _, _, _, _, _, _]) rfl ?_
              refine ev_fgt 22 (L' := [_, _, _, _, _, _, _, _, _, _, _, _, _, _, _, _, _, _, _, _, _, _, _, _, _, _]) rfl ?_
              exact kk h1 f5 _ ho a5 (fun j hj => by rw [hf j hj, hfn, decide_eq_true hj]; rfl) (by rw [hfn]; rfl) (Or.inr hy2)
            · refine ev_iconst (-1) dL_lay_497 rfl ?_
              refine ev_ireturn dL_lay_498 rfl (Or.inl rfl) (by omega) (by omega) ?_
              refine kx hfn ?_ h1 ho
              rw [hf2]
              exact decide_eq_false (by omega)
        · refine ev_aload dL_lay_375 rfl ?_
          refine ev_iload dL_lay_377 rfl ?_
          first | refine ev_ialoadF dL_lay_379 (k5) (by omega) (by decide) ?_ | refine ev_ialoadF dL_lay_379 (a4) (by omega) (by decide) ?_
          refine ev_if_eqN 473 dL_lay_380 rfl (by first | omega | (have := hqk (by omega); omega)) (fun hc380 => ?_) (fun hc380 => ?_)
          · refine ev_pc (pc' := 473) rfl ?_
            refine ev_iincN (L' := [_, _, _, _, _, _, _, _, _, _, _, _, _, _, _, _, _, _, _, _, _, _, _, _, _, _]) 1 dL_lay_473 rfl rfl ?_
            refine ev_goto 368 dL_lay_476 rfl ?_
            refine ev_pc (pc' := 368) rfl ?_
            have hn : rmS S K k = false := rmS_n1 (by
              have h9 : sR S k = 0 := Classical.byContradiction (fun z => (hS.pos (by omega)).mpr z hc380)
              rw [isU, h9]
              rfl)
            have hb : ∀ j, j < 60 → f5 j = b2n (decide (j < k + 1) && rmS S K j) := fun j hj => by
              rw [hf j hj]
              by_cases e : j = k
              · rw [e, hn, Bool.and_false, Bool.and_false]
              · rw [show decide (j < k + 1) = decide (j < k) from by rw [decide_eq_decide]; omega]
            have E := ihk (60 - (k + 1)) (by omega) (k + 1) _ _ rfl (by omega) ho a5 hb
            rw [ctN_n hn, show smN (fun j => if rmS S K j = true then gq j else 0) (k + 1) = smN (fun j => if rmS S K j = true then gq j else 0) k from by rw [smN, if_neg (by rw [hn]; decide), Nat.add_zero]] at E
            exact E
          · refine ev_pc (pc' := 383) rfl ?_
            have hkept := (hS k (by omega)).2 ((hS.pos (by omega)).mp hc380)
            have hf4k : f4 k ≤ 200 := by rw [hkept.2]; exact (hB k (by omega) ((hS.pos (by omega)).mp hc380)).2
            refine ev_aload dL_lay_383 rfl ?_
            refine ev_iload dL_lay_385 rfl ?_
            first | refine ev_ialoadF dL_lay_387 (k5) (by omega) (by decide) ?_ | refine ev_ialoadF dL_lay_387 (a4) (by omega) (by decide) ?_
            refine ev_if_leN 394 dL_lay_388 rfl (by omega) (fun hc388 => ?_) (fun hc388 => ?_)
            · refine ev_pc (pc' := 394) rfl ?_
              have hU : isU S k = true := by
                have h9 : (sR S k == 0) = false := by rw [ieq]; exact decide_eq_false ((hS.pos (by omega)).mp hc380)
                rw [isU, h9, ← hkept.2, hc388]
                rfl
              refine ev_iconst (nI 1) dL_lay_394 rfl ?_
              refine ev_istore (L' := [_, _, _, _, _, _, _, _, _, _, _, _, _, _, _, _, _, _, _, _, _, _, _, _, _, _]) dL_lay_395 (Nat.le_of_ble_eq_true rfl) rfl ?_
              refine ev_iconst (nI 0) dL_lay_397 rfl ?_
              refine ev_istore (L' := [_, _, _, _, _, _, _, _, _, _, _, _, _, _, _, _, _, _, _, _, _, _, _, _, _, _]) dL_lay_398 (Nat.le_of_ble_eq_true rfl) rfl ?_
              refine ev_pc (pc' := 400) rfl ?_
              have LP400 : ∀ (mz : Nat) (i : Nat), kN K - i = mz → (i ≤ kN K) → Ev X m_L_lay (some (M + 5), some (M + 5), ce + 1, sl + 60, mc, ms) 400 [.ref 270, .ref 271, .ref 272, .ref 273, .ref 274, .ref 275, .ref 276, .int (nI t), .ref V, .int (nI many), .ref M, .ref (M + 1), .ref (M + 2), .int (nI (kN K)), jk, .ref (M + 3), .int (nI (szS S - smN (fun j => if rmS S K j = true then gq j else 0) k)), .int (nI (slots + ctN (rmS S K) k)), .int (nI (ndS S K)), .int (nI (ndR S K)), .ref (M + 4), .int (nI (ctN (rmS S K) k)), .int (nI k), .int (bI (!(exN (fun p => kR K p == sR S k) i))), .int (nI i), jk] [] h1 Q := by
                intro mz
                induction mz using Nat.strongRecOn with
                | _ mz ih =>
                  intro i hmz hi
                  have hqi := hq i
                  have hcei := fun z => (hq i z).1.iff hkept.1
                  refine ev_iload dL_lay_400 rfl ?_
                  refine ev_iload dL_lay_402 rfl ?_
                  refine ev_icmp_geN 443 dL_lay_404 rfl (by first | omega | (have := (hqi (by omega)).2; omega)) (by first | omega | (have := (hqi (by omega)).2; omega)) (fun hc404 => ?_) (fun hc404 => ?_)
                  · refine ev_pc (pc' := 443) rfl ?_
                    have ei : i = kN K := by omega
                    subst ei
                    refine ev_iload dL_lay_443 rfl ?_
                    refine ev_if_neB 451 dL_lay_445 rfl (fun hc445 => ?_) (fun hc445 => ?_)
                    · refine ev_pc (pc' := 451) rfl ?_
                      have hex : exN (fun p => kR K p == sR S k) (kN K) = false := by simpa using hc445
                      have hy : rmS S K k = true := rmS_y hU hex
                      have hZs : smN (fun j => if rmS S K j = true then gq j else 0) (k + 1) = smN (fun j => if rmS S K j = true then gq j else 0) k + gq k := by rw [smN, if_pos hy]
                      have hZk := hZ (k + 1) (by omega)
                      rw [hZs] at hZk
                      refine ev_aload dL_lay_451 rfl ?_
                      refine ev_iload dL_lay_453 rfl ?_
                      refine ev_iconst (nI 1) dL_lay_455 rfl ?_
                      first | refine ev_iastoreF dL_lay_456 (k4) (by omega) (by decide) ?_ | refine ev_iastoreF dL_lay_456 (k5) (by omega) (by decide) ?_ | refine ev_iastoreF dL_lay_456 (a1) (by omega) (by decide) ?_ | refine ev_iastoreF dL_lay_456 (a2) (by omega) (by decide) ?_ | refine ev_iastoreF dL_lay_456 (a5) (by omega) (by decide) ?_
                      refine ev_iincN (L' := [_, _, _, _, _, _, _, _, _, _, _, _, _, _, _, _, _, _, _, _, _, _, _, _, _, _]) 1 dL_lay_457 rfl rfl ?_
                      refine ev_iincN (L' := [_, _, _, _, _, _, _, _, _, _, _, _, _, _, _, _, _, _, _, _, _, _, _, _, _, _]) 1 dL_lay_460 rfl rfl ?_
                      refine ev_iload dL_lay_463 rfl ?_
                      refine ev_aload dL_lay_465 rfl ?_
                      refine ev_iload dL_lay_467 rfl ?_
                      first | refine ev_ialoadF dL_lay_469 (mset_s _ _ _) (by omega) (by decide) ?_ | refine ev_ialoadF dL_lay_469 ((mset_n (by omega)).trans (k4)) (by omega) (by decide) ?_ | refine ev_ialoadF dL_lay_469 ((mset_n (by omega)).trans (k5)) (by omega) (by decide) ?_ | refine ev_ialoadF dL_lay_469 ((mset_n (by omega)).trans (a1)) (by omega) (by decide) ?_ | refine ev_ialoadF dL_lay_469 ((mset_n (by omega)).trans (a2)) (by omega) (by decide) ?_ | refine ev_ialoadF dL_lay_469 ((mset_n (by omega)).trans (a5)) (by omega) (by decide) ?_
                      refine ev_isubN dL_lay_470 (by omega) ?_
                      refine ev_istore (L' := [_, _, _, _, _, _, _, _, _, _, _, _, _, _, _, _, _, _, _, _, _, _, _, _, _, _]) dL_lay_471 (Nat.le_of_ble_eq_true rfl) rfl ?_
                      refine ev_iincN (L' := [_, _, _, _, _, _, _, _, _, _, _, _, _, _, _, _, _, _, _, _, _, _, _, _, _, _]) 1 dL_lay_473 rfl rfl ?_
                      refine ev_goto 368 dL_lay_476 rfl ?_
                      refine ev_pc (pc' := 368) rfl ?_
                      refine ev_fgt 23 (L' := [_, _, _, _, _, _, _, _, _, _, _, _, _, _, _, _, _, _, _, _, _, _, _, _, _, _]) rfl ?_
                      refine ev_fgt 24 (L' := [_, _, _, _, _, _, _, _, _, _, _, _, _, _, _, _, _, _, _, _, _, _, _, _, _, _]) rfl ?_
                      have hb : ∀ j, j < 60 → upN f5 k 1 j = b2n (decide (j < k + 1) && rmS S K j) := fun j hj => by
                        by_cases e : j = k
                        · rw [e, upN_s, hy, decide_eq_true (Nat.lt_succ_self k)]; rfl
                        · rw [upN_n e, hf j hj, show decide (j < k + 1) = decide (j < k) from by rw [decide_eq_decide]; omega]
                      have E := ihk (60 - (k + 1)) (by omega) (k + 1) _ _ rfl (by omega) (ho.tr (Out.set (by omega) (by omega))) (mset_s _ _ _) hb
                      rw [ctN_y hy, hZs, show szS S - (smN (fun j => if rmS S K j = true then gq j else 0) k + gq k) = szS S - smN (fun j => if rmS S K j = true then gq j else 0) k - gq k by omega] at E
                      exact E
                    · refine ev_goto 473 dL_lay_448 rfl ?_
                      refine ev_pc (pc' := 473) rfl ?_
                      refine ev_fgt 23 (L' := [_, _, _, _, _, _, _, _, _, _, _, _, _, _, _, _, _, _, _, _, _, _, _, _, _, _]) rfl ?_
                      refine ev_fgt 24 (L' := [_, _, _, _, _, _, _, _, _, _, _, _, _, _, _, _, _, _, _, _, _, _, _, _, _, _]) rfl ?_
                      refine ev_iincN (L' := [_, _, _, _, _, _, _, _, _, _, _, _, _, _, _, _, _, _, _, _, _, _, _, _, _, _]) 1 dL_lay_473 rfl rfl ?_
                      refine ev_goto 368 dL_lay_476 rfl ?_
                      refine ev_pc (pc' := 368) rfl ?_
                      have hn : rmS S K k = false := rmS_n2 (by simpa using hc445)
                      have hb : ∀ j, j < 60 → f5 j = b2n (decide (j < k + 1) && rmS S K j) := fun j hj => by
                        rw [hf j hj]
                        by_cases e : j = k
                        · rw [e, hn, Bool.and_false, Bool.and_false]
                        · rw [show decide (j < k + 1) = decide (j < k) from by rw [decide_eq_decide]; omega]
                      have E := ihk (60 - (k + 1)) (by omega) (k + 1) _ _ rfl (by omega) ho a5 hb
                      rw [ctN_n hn, show smN (fun j => if rmS S K j = true then gq j else 0) (k + 1) = smN (fun j => if rmS S K j = true then gq j else 0) k from by rw [smN, if_neg (by rw [hn]; decide), Nat.add_zero]] at E
                      exact E
                  · refine ev_aload dL_lay_407 rfl ?_
                    refine ev_iload dL_lay_409 rfl ?_
                    first | refine ev_laloadN dL_lay_411 (k4) (by omega) (by decide) ?_ | refine ev_laloadN dL_lay_411 (k5) (by omega) (by decide) ?_ | refine ev_laloadN dL_lay_411 (a1) (by omega) (by decide) ?_ | refine ev_laloadN dL_lay_411 (a2) (by omega) (by decide) ?_
                    refine ev_aload dL_lay_412 rfl ?_
                    refine ev_iload dL_lay_414 rfl ?_
                    first | refine ev_laloadN dL_lay_416 (k4) (by omega) (by decide) ?_ | refine ev_laloadN dL_lay_416 (k5) (by omega) (by decide) ?_ | refine ev_laloadN dL_lay_416 (a1) (by omega) (by decide) ?_ | refine ev_laloadN dL_lay_416 (a2) (by omega) (by decide) ?_
                    refine ev_lcmp_ne 437 dL_lay_417 dL_lay_418 rfl (fun hc418 => ?_) (fun hc418 => ?_)
                    · refine ev_iincN (L' := [_, _, _, _, _, _, _, _, _, _, _, _, _, _, _, _, _, _, _, _, _, _, _, _, _, _]) 1 dL_lay_437 rfl rfl ?_
                      refine ev_goto 400 dL_lay_440 rfl ?_
                      refine ev_pc (pc' := 400) rfl ?_
                      have E := ih (kN K - (i + 1)) (by omega) (i + 1) rfl (by omega)
                      first
                        | (have e9 : (kR K i == sR S k) = true := by rw [ieq]; exact decide_eq_true ((hcei (by omega)).mpr ⟨hc431, hc418⟩)
                           rw [show exN (fun p => kR K p == sR S k) (i + 1) = true from by rw [exN, e9, Bool.or_true], Bool.not_true] at E
                           exact E)
                        | (have e9 : (kR K i == sR S k) = false := by rw [ieq]; exact decide_eq_false (fun z => hc418 ((hcei (by omega)).mp z).2)
                           rw [show exN (fun p => kR K p == sR S k) (i + 1) = exN (fun p => kR K p == sR S k) i from by rw [exN, e9, Bool.or_false]] at E
                           exact E)
                        | (have e9 : (kR K i == sR S k) = false := by rw [ieq]; exact decide_eq_false (fun z => hc431 ((hcei (by omega)).mp z).1)
                           rw [show exN (fun p => kR K p == sR S k) (i + 1) = exN (fun p => kR K p == sR S k) i from by rw [exN, e9, Bool.or_false]] at E
                           exact E)
                    · refine ev_aload dL_lay_421 rfl ?_
                      refine ev_iload dL_lay_423 rfl ?_
                      first | refine ev_ialoadF dL_lay_425 (k4) (by omega) (by decide) ?_ | refine ev_ialoadF dL_lay_425 (k5) (by omega) (by decide) ?_ | refine ev_ialoadF dL_lay_425 (a1) (by omega) (by decide) ?_ | refine ev_ialoadF dL_lay_425 (a2) (by omega) (by decide) ?_
                      refine ev_aload dL_lay_426 rfl ?_
                      refine ev_iload dL_lay_428 rfl ?_
                      first | refine ev_ialoadF dL_lay_430 (k4) (by omega) (by decide) ?_ | refine ev_ialoadF dL_lay_430 (k5) (by omega) (by decide) ?_ | refine ev_ialoadF dL_lay_430 (a1) (by omega) (by decide) ?_ | refine ev_ialoadF dL_lay_430 (a2) (by omega) (by decide) ?_
                      refine ev_icmp_neN 437 dL_lay_431 rfl (by first | omega | (have := (hqi (by omega)).2; omega)) (by first | omega | (have := (hqi (by omega)).2; omega)) (fun hc431 => ?_) (fun hc431 => ?_)
                      · refine ev_iincN (L' := [_, _, _, _, _, _, _, _, _, _, _, _, _, _, _, _, _, _, _, _, _, _, _, _, _, _]) 1 dL_lay_437 rfl rfl ?_
                        refine ev_goto 400 dL_lay_440 rfl ?_
                        refine ev_pc (pc' := 400) rfl ?_
                        have E := ih (kN K - (i + 1)) (by omega) (i + 1) rfl (by omega)
                        first
                          | (have e9 : (kR K i == sR S k) = true := by rw [ieq]; exact decide_eq_true ((hcei (by omega)).mpr ⟨hc431, hc418⟩)
                             rw [show exN (fun p => kR K p == sR S k) (i + 1) = true from by rw [exN, e9, Bool.or_true], Bool.not_true] at E
                             exact E)
                          | (have e9 : (kR K i == sR S k) = false := by rw [ieq]; exact decide_eq_false (fun z => hc418 ((hcei (by omega)).mp z).2)
                             rw [show exN (fun p => kR K p == sR S k) (i + 1) = exN (fun p => kR K p == sR S k) i from by rw [exN, e9, Bool.or_false]] at E
                             exact E)
                          | (have e9 : (kR K i == sR S k) = false := by rw [ieq]; exact decide_eq_false (fun z => hc431 ((hcei (by omega)).mp z).1)
                             rw [show exN (fun p => kR K p == sR S k) (i + 1) = exN (fun p => kR K p == sR S k) i from by rw [exN, e9, Bool.or_false]] at E
                             exact E)
                      · refine ev_iconst (nI 0) dL_lay_434 rfl ?_
                        refine ev_istore (L' := [_, _, _, _, _, _, _, _, _, _, _, _, _, _, _, _, _, _, _, _, _, _, _, _, _, _]) dL_lay_435 (Nat.le_of_ble_eq_true rfl) rfl ?_
                        refine ev_iincN (L' := [_, _, _, _, _, _, _, _, _, _, _, _, _, _, _, _, _, _, _, _, _, _, _, _, _, _]) 1 dL_lay_437 rfl rfl ?_
                        refine ev_goto 400 dL_lay_440 rfl ?_
                        refine ev_pc (pc' := 400) rfl ?_
                        have E := ih (kN K - (i + 1)) (by omega) (i + 1) rfl (by omega)
                        first
                          | (have e9 : (kR K i == sR S k) = true := by rw [ieq]; exact decide_eq_true ((hcei (by omega)).mpr ⟨hc431, hc418⟩)
                             rw [show exN (fun p => kR K p == sR S k) (i + 1) = true from by rw [exN, e9, Bool.or_true], Bool.not_true] at E
                             exact E)
                          | (have e9 : (kR K i == sR S k) = false := by rw [ieq]; exact decide_eq_false (fun z => hc418 ((hcei (by omega)).mp z).2)
                             rw [show exN (fun p => kR K p == sR S k) (i + 1) = exN (fun p => kR K p == sR S k) i from by rw [exN, e9, Bool.or_false]] at E
                             exact E)
                          | (have e9 : (kR K i == sR S k) = false := by rw [ieq]; exact decide_eq_false (fun z => hc431 ((hcei (by omega)).mp z).1)
                             rw [show exN (fun p => kR K p == sR S k) (i + 1) = exN (fun p => kR K p == sR S k) i from by rw [exN, e9, Bool.or_false]] at E
                             exact E)
              exact LP400 _ 0 rfl (Nat.zero_le _)
            · refine ev_goto 473 dL_lay_391 rfl ?_
              refine ev_pc (pc' := 473) rfl ?_
              refine ev_iincN (L' := [_, _, _, _, _, _, _, _, _, _, _, _, _, _, _, _, _, _, _, _, _, _, _, _, _, _]) 1 dL_lay_473 rfl rfl ?_
              refine ev_goto 368 dL_lay_476 rfl ?_
              refine ev_pc (pc' := 368) rfl ?_
              have hn : rmS S K k = false := rmS_n1 (by
                rw [isU, ← hkept.2, show (f4 k == 0) = false from beq_eq_false_iff_ne.mpr (by omega), Bool.and_false])
              have hb : ∀ j, j < 60 → f5 j = b2n (decide (j < k + 1) && rmS S K j) := fun j hj => by
                rw [hf j hj]
                by_cases e : j = k
                · rw [e, hn, Bool.and_false, Bool.and_false]
                · rw [show decide (j < k + 1) = decide (j < k) from by rw [decide_eq_decide]; omega]
              have E := ihk (60 - (k + 1)) (by omega) (k + 1) _ _ rfl (by omega) ho a5 hb
              rw [ctN_n hn, show smN (fun j => if rmS S K j = true then gq j else 0) (k + 1) = smN (fun j => if rmS S K j = true then gq j else 0) k from by rw [smN, if_neg (by rw [hn]; decide), Nat.add_zero]] at E
              exact E
    exact LP368 _ 0 h2 _ rfl (Nat.zero_le _) ho2 a5 (fun j _ => by rw [decide_eq_false (Nat.not_lt_zero j)]; rfl)
  have oZ : Out h (mset h (M + 4) (aI 60 (nf (fun _ => 0)))) (M + 4) 1 := Out.set (by omega) (by omega)
  refine ev_bipush (nI 60) dL_lay_338 rfl ?_
  refine ev_newIN 60 dL_lay_340 (by decide) rfl (by decide) (by first | omega | (simp only [NN]; omega)) (by first | omega | (simp only [NN]; omega)) (by first | omega | (simp only [NN]; omega)) ?_
  refine ev_astore (L' := [_, _, _, _, _, _, _, _, _, _, _, _, _, _, _, _, _, _, _, _, _, _, _, _, _, _]) dL_lay_342 (Nat.le_of_ble_eq_true rfl) rfl ?_
  refine ev_iconst (nI 0) dL_lay_344 rfl ?_
  refine ev_istore (L' := [_, _, _, _, _, _, _, _, _, _, _, _, _, _, _, _, _, _, _, _, _, _, _, _, _, _]) dL_lay_345 (Nat.le_of_ble_eq_true rfl) rfl ?_
  refine ev_iload dL_lay_347 rfl ?_
  refine ev_iload dL_lay_349 rfl ?_
  refine ev_icmp_gtN 365 dL_lay_351 rfl (by omega) (by omega) (fun hc351 => ?_) (fun hc351 => ?_)
  · refine ev_pc (pc' := 365) rfl ?_
    refine SW _ oZ (mset_s _ _ _) ?_
    rw [hf1]
    exact decide_eq_false (by omega)
  · refine ev_iload dL_lay_354 rfl ?_
    refine ev_iload dL_lay_356 rfl ?_
    refine ev_iaddN dL_lay_358 ?_
    refine ev_sipush (nI 150) dL_lay_359 rfl ?_
    refine ev_icmp_leN 499 dL_lay_362 rfl (by omega) (by omega) (fun hc362 => ?_) (fun hc362 => ?_)
    · refine ev_pc (pc' := 499) rfl ?_
      have hfy : fitS S K = true := by
        rw [hf1]
        exact decide_eq_true (by omega)
      refine ev_fgt 16 (L' := [_, _, _, _, _, _, _, _, _, _, _, _, _, _, _, _, _, _, _, _, _, _, _, _, _, _]) rfl ?_
      refine ev_fgt 17 (L' := [_, _, _, _, _, _, _, _, _, _, _, _, _, _, _, _, _, _, _, _, _, _, _, _, _, _]) rfl ?_
      refine ev_fgt 18 (L' := [_, _, _, _, _, _, _, _, _, _, _, _, _, _, _, _, _, _, _, _, _, _, _, _, _, _]) rfl ?_
      refine ev_fgt 19 (L' := [_, _, _, _, _, _, _, _, _, _, _, _, _, _, _, _, _, _, _, _, _, _, _, _, _, _]) rfl ?_
      exact kk _ _ 0 oZ (mset_s _ _ _) (fun j hj => by rw [hfy]; rfl) (by rw [hfy]; rfl) (Or.inl hfy)
    · refine ev_pc (pc' := 365) rfl ?_
      refine SW _ oZ (mset_s _ _ _) ?_
      rw [hf1]
      exact decide_eq_false (by omega)
