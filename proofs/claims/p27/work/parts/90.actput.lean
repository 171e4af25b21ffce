set_option maxHeartbeats 4000000 in
set_option maxRecDepth 100000 in
theorem act_pre {X : mX} {h : mH} {N d : Nat} {x y : Int32} {Q : mO → mH → Prop} (hN : 277 ≤ N) (hN2 : N + 7 < 1000000) (kk : Ev X m_L_act (some (N + 1), some (N + d), 1, 16, 6, 184) 30 [.ref 0, .int x, .int y, .ref 270, .ref 271, .ref 272, .ref 273, .ref 274, .ref 275, .ref 276, .int (nI (atN (x >>> (nI 20 &&& 31)) 14)), .int (nI (atN y 4)), .ref N, .int (nI 0), .int (nI 0), jk, jk, jk] [] (mset h N (aI 16 (nf (fun _ => 0)))) Q) : Ev X m_L_act (some (N), some (N + d), 0, 0, 6, 184) 0 [.ref 0, .int x, .int y, .ref 270, .ref 271, .ref 272, .ref 273, .ref 274, .ref 275, .ref 276, jk, jk, jk, jk, jk, jk, jk, jk] [] h Q := by
  refine ev_iload_n dL_act_0 rfl rfl ?_
  refine ev_bipush (nI 20) dL_act_1 rfl ?_
  refine ev_ishr dL_act_3 ?_
  refine ev_bipush (nI 14) dL_act_4 rfl ?_
  refine ev_cSP2 dL_act_6 cal_L_at lk_8_20 ⟨(Nat.le_of_ble_eq_true rfl), (Nat.le_of_ble_eq_true rfl)⟩ rfl (Nat.le_of_ble_eq_true rfl) (by omega) (by omega) (c_at _ 14 (by decide) (by decide)) ?_
  refine ev_istore (L' := [_, _, _, _, _, _, _, _, _, _, _, _, _, _, _, _, _, _]) dL_act_9 (Nat.le_of_ble_eq_true rfl) rfl ?_
  refine ev_iload_n dL_act_11 rfl rfl ?_
  refine ev_iconst (nI 4) dL_act_12 rfl ?_
  refine ev_cSP2 dL_act_13 cal_L_at lk_8_20 ⟨(Nat.le_of_ble_eq_true rfl), (Nat.le_of_ble_eq_true rfl)⟩ rfl (Nat.le_of_ble_eq_true rfl) (by omega) (by omega) (c_at _ 4 (by decide) (by decide)) ?_
  refine ev_istore (L' := [_, _, _, _, _, _, _, _, _, _, _, _, _, _, _, _, _, _]) dL_act_16 (Nat.le_of_ble_eq_true rfl) rfl ?_
  refine ev_bipush (nI 16) dL_act_18 rfl ?_
  refine ev_newIN 16 dL_act_20 (by decide) rfl (by decide) (by first | omega | (simp only [NN]; omega)) (by first | omega | (simp only [NN]; omega)) (by first | omega | (simp only [NN]; omega)) ?_
  refine ev_astore (L' := [_, _, _, _, _, _, _, _, _, _, _, _, _, _, _, _, _, _]) dL_act_22 (Nat.le_of_ble_eq_true rfl) rfl ?_
  refine ev_iconst (nI 0) dL_act_24 rfl ?_
  refine ev_istore (L' := [_, _, _, _, _, _, _, _, _, _, _, _, _, _, _, _, _, _]) dL_act_25 (Nat.le_of_ble_eq_true rfl) rfl ?_
  refine ev_iconst (nI 0) dL_act_27 rfl ?_
  refine ev_istore (L' := [_, _, _, _, _, _, _, _, _, _, _, _, _, _, _, _, _, _]) dL_act_28 (Nat.le_of_ble_eq_true rfl) rfl ?_
  refine ev_pc (pc' := 30) rfl ?_
  exact kk
theorem hgd_step {p z : Nat} {gv D : Nat → Nat} (h : ∀ j, j < p → (97 ≤ D j ∧ D j ≤ 104) ∧ gv j = D j - 96) (hz : z < 8) : ∀ j, j < p + 1 → (97 ≤ upN D p (97 + (1 + z) - 1) j ∧ upN D p (97 + (1 + z) - 1) j ≤ 104) ∧ upN gv p (1 + z) j = upN D p (97 + (1 + z) - 1) j - 96 := fun j hj => by
  by_cases e : j = p
  · rw [e, upN_s, upN_s]
    omega
  · rw [upN_n e, upN_n e]
    exact h j (by omega)
theorem c_put9 {X : mX} {h : mH} {T : mSt} {n m : Nat} {Ts : Nat → mSt} {D : Nat → Nat} (hA : ClsN h (T, (n, Ts), (m, D))) (hT : InvT T) (hD : ∀ j, j < m → 97 ≤ D j ∧ D j ≤ 104) (h0 : 0 < m) (h40 : m ≤ 40) (t : Nat) (ht : t < 4) (hok : okS T t (cutK (tV T) m (tlN D m)) = true) : CnU X m_X6_put [.ref 0, .int (nI t)] h (fun v h1 => v = some (.int (nI (kN (cutK (tV T) m (tlN D m))))) ∧ ClsN h1 (chgT T t (cutK (tV T) m (tlN D m)), hisA (T, (n, Ts), (m, D)), (0, D)) ∧ Out h h1 0 270) := by
  have hw := wh_all hD h0 h40
  have hsm := (tl_all hD).1 m (Nat.le_refl _)
  have hp := hT.put (A := (T, (n, Ts), (m, D))) hw
  have hh : ChOK T t (cutK (tV T) m (tlN D m)) := by
    have := hp.2.2 t ht
    have e : putK (T, (n, Ts), (m, D)) = (cutK (tV T) m (tlN D m)) := by
      show cutK (tV T) (smN (addN D) m) (tlN D m) = _
      rw [hsm]
    rwa [e] at this
  have z := c_put (X := X) (h := h) (A := (T, (n, Ts), (m, D))) hA hw hp.1 hp.2.1 t ht (show ChOK T t (cutK (tV T) (smN (addN D) m) (tlN D m)) from by rw [hsm]; exact hh) (show okS T t (cutK (tV T) (smN (addN D) m) (tlN D m)) = true from by rw [hsm]; exact hok)
  refine cn_mono z (fun o h1 q => ?_)
  obtain ⟨v, e, q1, q2, q3⟩ := q
  have e1 : cutK (tV T) (smN (addN D) m) (tlN D m) = (cutK (tV T) m (tlN D m)) := by rw [hsm]
  refine ⟨v, e, ?_, ?_, q3⟩
  · rw [q1]
    show some (Value.int (nI (kN (cutK (tV T) (smN (addN D) m) (tlN D m))))) = _
    rw [e1]
  · have q2' : ClsN h1 (chgT T t (cutK (tV T) (smN (addN D) m) (tlN D m)), hisA (T, (n, Ts), (m, D)), (0, D)) := q2
    rwa [e1] at q2'
theorem c_ifPut9 {X : mX} {h : mH} {T : mSt} {n m : Nat} {Ts : Nat → mSt} {D : Nat → Nat} (hA : ClsN h (T, (n, Ts), (m, D))) (hT : InvT T) (hD : ∀ j, j < m → 97 ≤ D j ∧ D j ≤ 104) (h0 : 0 < m) (h40 : m ≤ 40) (t : Nat) (ht : t < 4) : CnU X m_X6_ifPut [.ref 0, .int (nI t), .int (nI 3)] h (fun v h1 => v = some (.int (nI (b2n (!(okS T t (cutK (tV T) m (tlN D m))))))) ∧ ClsN h1 (T, (n, Ts), (m, D)) ∧ Out h h1 0 270) := by
  have hw := wh_all hD h0 h40
  have hsm := (tl_all hD).1 m (Nat.le_refl _)
  have hp := hT.put (A := (T, (n, Ts), (m, D))) hw
  have z := c_ifPut (X := X) (h := h) (A := (T, (n, Ts), (m, D))) hA t 3 ht (by decide) hw hp.1 hp.2.1 (hp.2.2 t ht)
  refine cn_mono z (fun o h1 q => ?_)
  obtain ⟨v, e, q1, q2, q3⟩ := q
  have e1 : cutK (tV T) (smN (addN D) m) (tlN D m) = (cutK (tV T) m (tlN D m)) := by rw [hsm]
  refine ⟨v, e, ?_, q2, q3⟩
  rw [q1]
  show some (Value.int (nI (b2n (!(okS T t (cutK (tV T) (smN (addN D) m) (tlN D m))))))) = _
  rw [e1]
set_option maxHeartbeats 4000000 in
set_option maxRecDepth 100000 in
theorem act_put {X : mX} {h : mH} {A : mAs} {gn gs ge gl : Nat → Nat} {gc : Nat → Int64} {gq go : Nat → Nat} (J : JW h A gn gs ge gl gc gq go) {N a t : Nat} (hN : 277 ≤ N) (hN2 : N + 7 < 1000000) (x y : Int32) (ha : a < 6) (ht : t < 4) : Ev X m_L_act (some (N + 1), some (N + 6), 1, 16, 6, 184) 30 [.ref 0, .int x, .int y, .ref 270, .ref 271, .ref 272, .ref 273, .ref 274, .ref 275, .ref 276, .int (nI a), .int (nI t), .ref N, .int (nI 0), .int (nI 0), jk, jk, jk] [] (mset h N (aI 16 (nf (fun _ => 0)))) (fun (o : mO) (h1 : mH) => o = .inl (some (.int (nI 1))) ∧ PW h1) := by
  obtain ⟨JC, JI, JB, Jl, Jr, J9⟩ := J
  have JT := JI.1
  have J6 := JI.2.2.1
  have oN : Out h (mset h N (aI 16 (nf (fun _ => 0)))) N 1 := Out.set (by omega) (by omega)
  have hA0 : ClsN (mset h N (aI 16 (nf (fun _ => 0)))) (aT A, (aN A, aH A), (0, aD A)) := by
    have z := JC.go oN (by omega)
    have e1 : A = (aT A, (aN A, aH A), (aB A, aD A)) := rfl
    rw [JB] at e1
    rw [← e1]
    exact z
  have hlw0 := LawN.with (V := N) (Jl.go oN (Or.inl hN)) (mset_s _ _ _)
  refine ev_iload dL_act_30 rfl ?_
  refine ev_bipush (nI 6) dL_act_32 rfl ?_
  refine ev_icmp_geN 222 dL_act_34 rfl (by omega) (by omega) (fun hc34 => ?_) (fun hc34 => ?_)
  · first | omega | exact absurd hc34 (by decide) | exact absurd rfl hc34 | exact hc34 rfl | exact absurd hc34 (by assumption) | exact absurd (by assumption) hc34
  · refine ev_iconst (nI 1) dL_act_37 rfl ?_
    refine ev_iload_n dL_act_38 rfl rfl ?_
    refine ev_iconst (nI 2) dL_act_39 rfl ?_
    refine ev_ishr dL_act_40 ?_
    refine ev_bipush (nI 16) dL_act_41 rfl ?_
    refine ev_cSP2 dL_act_43 cal_L_at lk_8_20 ⟨(Nat.le_of_ble_eq_true rfl), (Nat.le_of_ble_eq_true rfl)⟩ rfl (Nat.le_of_ble_eq_true rfl) (by omega) (by omega) (c_at _ 16 (by decide) (by decide)) ?_
    refine ev_iaddN dL_act_46 ?_
    refine ev_istore (L' := [_, _, _, _, _, _, _, _, _, _, _, _, _, _, _, _, _, _]) dL_act_47 (Nat.le_of_ble_eq_true rfl) rfl ?_
    refine ev_pc (pc' := 49) rfl ?_
    have hmm : 0 < 1 + atN (y >>> (nI 2 &&& 31)) 16 ∧ 1 + atN (y >>> (nI 2 &&& 31)) 16 ≤ 16 := by
      have := atN_lt (y >>> (nI 2 &&& 31)) (n := 16) (by decide)
      omega
    generalize 1 + atN (y >>> (nI 2 &&& 31)) 16 = m at *
    refine ev_iconst (nI 0) dL_act_49 rfl ?_
    refine ev_istore (L' := [_, _, _, _, _, _, _, _, _, _, _, _, _, _, _, _, _, _]) dL_act_50 (Nat.le_of_ble_eq_true rfl) rfl ?_
    refine ev_pc (pc' := 52) rfl ?_
    have LP52 : ∀ (mz : Nat) (p : Nat) (h1 : mH) (gv : Nat → Nat) (D : Nat → Nat), m - p = mz → (p ≤ m) → (ClsN h1 (aT A, (aN A, aH A), (p, D))) → (LwN h1 N gn gs ge gl gc gq go gv) → (∀ j, j < p → (97 ≤ D j ∧ D j ≤ 104) ∧ gv j = D j - 96) → Ev X m_L_act (some (N + 1), some (N + 6), 1, 16, 6, 184) 52 [.ref 0, .int x, .int y, .ref 270, .ref 271, .ref 272, .ref 273, .ref 274, .ref 275, .ref 276, .int (nI a), .int (nI t), .ref N, .int (nI m), .int (nI 0), .int (nI p), jk, jk] [] h1 (fun (o : mO) (h1 : mH) => o = .inl (some (.int (nI 1))) ∧ PW h1) := by
      intro mz
      induction mz using Nat.strongRecOn with
      | _ mz ih =>
        intro p h1 gv D hmz hp hA1 hlw hgd
        have hlw2 := hlw
        obtain ⟨k0, k1, k2, k3, k4, k5, k6, k7⟩ := hlw
        have hob := hA1.1
        have z1 := atN_lt (y >>> (nI (p % 11) &&& 31)) (n := 8) (by decide)
        have z2 := atN_lt (x >>> (nI (p % 13) &&& 31)) (n := 8) (by decide)
        have z3 := atN_lt (x >>> (nI (p % 7) &&& 31)) (n := 3) (by decide)
        refine ev_iload dL_act_52 rfl ?_
        refine ev_iload dL_act_54 rfl ?_
        refine ev_icmp_geN 123 dL_act_56 rfl (by omega) (by omega) (fun hc56 => ?_) (fun hc56 => ?_)
        · refine ev_pc (pc' := 123) rfl ?_
          have ep : p = m := by omega
          subst ep
          have hlw := hlw2
          have hm16 := hmm.2
          have hm1 := hmm.1
          have hD : ∀ j, j < p → 97 ≤ D j ∧ D j ≤ 104 := fun j hj => (hgd j hj).1
          have htl := (tl_all hD).2 p (Nat.le_refl _)
          have hst : ∀ j, j < p → gv j = tlN D p j := fun j hj => by rw [htl j hj]; exact (hgd j hj).2
          have hsg : ∀ j, j < p → 1 ≤ tlN D p j ∧ tlN D p j ≤ 8 := fun j hj => by
            have := hD j hj
            rw [htl j hj]
            omega
          have hK : Tile (cutK (tV (aT A)) p (tlN D p)) := cutK_tile JT.1 (by omega) hsg
          refine ev_fgt 15 (L' := [_, _, _, _, _, _, _, _, _, _, _, _, _, _, _, _, _, _]) rfl ?_
          refine ev_aload_n dL_act_123 rfl rfl ?_
          refine ev_aload dL_act_124 rfl ?_
          refine ev_aload dL_act_126 rfl ?_
          refine ev_aload dL_act_128 rfl ?_
          refine ev_aload dL_act_130 rfl ?_
          refine ev_aload dL_act_132 rfl ?_
          refine ev_aload dL_act_134 rfl ?_
          refine ev_iload dL_act_136 rfl ?_
          refine ev_aload dL_act_138 rfl ?_
          refine ev_iload dL_act_140 rfl ?_
          refine ev_pc (pc' := 142) rfl ?_
          refine ev_cSG10 dL_act_142 cal_L_lay lk_8_30 ⟨(Nat.le_of_ble_eq_true rfl), (Nat.le_of_ble_eq_true rfl)⟩ rfl (Nat.le_of_ble_eq_true rfl) (by omega) (by omega) (c_lay (X := X) hlw hN (Nat.lt_succ_self N) (by omega) Jr JT t p ht hm16 (s := tlN D p) hst hsg) (fun v h2 q => ?_) (fun k h2 q => ?_)
          rotate_left
          · cases hok : okS (aT A) t (cutK (tV (aT A)) p (tlN D p)) with
            | true => have := (q.1 hok).1; cases this
            | false => have := (q.2.1 hok).1; cases this
          obtain ⟨q1, q2, q3⟩ := q
          refine ev_pc (pc' := 145) rfl ?_
          cases hok : okS (aT A) t (cutK (tV (aT A)) p (tlN D p)) with
          | true =>
            obtain ⟨e, n2, s2, e2, l2, c2, q2', o2, hl2, hr2, h92⟩ := q1 hok
            cases e
            have hge : 0 ≤ nI (kN (cutK (tV (aT A)) p (tlN D p))) := by
              have := hK.n40
              rw [i_le, nI_toInt (by omega)]
              exact Int.natCast_nonneg _
            have hA2 := hA1.go q3 (Nat.le_refl _)
            refine ev_istore (L' := [_, _, _, _, _, _, _, _, _, _, _, _, _, _, _, _, _, _]) dL_act_145 (Nat.le_of_ble_eq_true rfl) rfl ?_
            refine ev_iload dL_act_147 rfl ?_
            refine ev_if_ge 178 dL_act_149 rfl (fun hc149 => ?_) (fun hc149 => ?_)
            · refine ev_pc (pc' := 178) rfl ?_
              refine act_n9_178 hl2.1 (by rw [h92, J9]; exact J6) rfl (fun h3 g1 e1 e2 k0 o3 => ?_)
              have hl3 := hl2.up0 hN o3 k0
              have hA3 := hA2.go o3 (Nat.le_refl _)
              have hob := hA3.1
              have hok0 : nI (b2n (!(okS (aT A) t (cutK (tV (aT A)) p (tlN D p))))) = nI 0 := by rw [hok]; rfl
              have hkn40 := hK.n40
              refine ev_aload_n dL_act_195 rfl rfl ?_
              refine ev_iload dL_act_196 rfl ?_
              refine ev_iconst (nI 3) dL_act_198 rfl ?_
              refine ev_cVU2 dL_act_199 cal_X6_ifPut lk_8_34 ⟨(Nat.le_of_ble_eq_true rfl), (Nat.le_of_ble_eq_true rfl)⟩ rfl (hob) (Nat.le_of_ble_eq_true rfl) (by omega) (by omega) (c_ifPut9 (X := X) hA3 JT hD hm1 (by omega) t ht) (fun v h199 hq199 => ?_)
              refine ev_pc (pc' := 202) rfl ?_
              obtain ⟨rfl, hA4, o4⟩ := hq199
              rw [hok0]
              have hob := hA4.1
              refine ev_if_neN 220 dL_act_202 rfl (by omega) (fun hc202 => ?_) (fun hc202 => ?_)
              · first | omega | exact absurd hc202 (by decide) | exact absurd rfl hc202 | exact hc202 rfl | exact absurd hc202 (by assumption) | exact absurd (by assumption) hc202
              · refine ev_aload_n dL_act_205 rfl rfl ?_
                refine ev_iload dL_act_206 rfl ?_
                refine ev_cVU1 dL_act_208 cal_X6_put lk_8_41 ⟨(Nat.le_of_ble_eq_true rfl), (Nat.le_of_ble_eq_true rfl)⟩ rfl (hob) (Nat.le_of_ble_eq_true rfl) (by omega) (by omega) (c_put9 (X := X) hA4 JT hD hm1 (by omega) t ht hok) (fun v h208 hq208 => ?_)
                refine ev_pc (pc' := 211) rfl ?_
                obtain ⟨rfl, hA5, o5⟩ := hq208
                refine ev_iload dL_act_211 rfl ?_
                refine ev_icmp_neN 220 dL_act_213 rfl (by omega) (by omega) (fun hc213 => ?_) (fun hc213 => ?_)
                · first | omega | exact absurd hc213 (by decide) | exact absurd rfl hc213 | exact hc213 rfl | exact absurd hc213 (by assumption) | exact absurd (by assumption) hc213
                · refine ev_iconst (nI 1) dL_act_216 rfl ?_
                  refine ev_goto 221 dL_act_217 rfl ?_
                  refine ev_zreturn dL_act_221 rfl (by first | rfl | exact bI_nar _) (Or.inl rfl) (by omega) (by omega) ?_
                  refine ⟨rfl, _, _, _, _, _, _, _, _, JW.chg (A := A) JI (A1 := (chgT (aT A) t (cutK (tV (aT A)) p (tlN D p)), hisA A, (0, D))) (chgT_all JT ht hK hok).1 (LawN.of (hl3.go (o4.tr o5) (Or.inr (by omega)) (Or.inr (by omega)))) (hr2.n9 e2) (by rw [e1, h92, J9]) hA5 Out.rf⟩
            · first | omega | exact absurd hc149 (by decide) | exact absurd rfl hc149 | exact hc149 rfl | exact absurd hc149 (by assumption) | exact absurd (by assumption) hc149
          | false =>
            obtain ⟨e, hl2⟩ := q2 hok
            cases e
            have hA2 := hA1.go q3 (Nat.le_refl _)
            have hob := hA2.1
            have hok0 : nI (b2n (!(okS (aT A) t (cutK (tV (aT A)) p (tlN D p))))) = nI 1 := by rw [hok]; rfl
            refine ev_istore (L' := [_, _, _, _, _, _, _, _, _, _, _, _, _, _, _, _, _, _]) dL_act_145 (Nat.le_of_ble_eq_true rfl) rfl ?_
            refine ev_iload dL_act_147 rfl ?_
            refine ev_if_ge 178 dL_act_149 rfl (fun hc149 => ?_) (fun hc149 => ?_)
            · first | omega | exact absurd hc149 (by decide) | exact absurd rfl hc149 | exact hc149 rfl | exact absurd hc149 (by assumption) | exact absurd (by assumption) hc149
            · refine ev_aload_n dL_act_152 rfl rfl ?_
              refine ev_iload dL_act_153 rfl ?_
              refine ev_iconst (nI 3) dL_act_155 rfl ?_
              refine ev_cVU2 dL_act_156 cal_X6_ifPut lk_8_34 ⟨(Nat.le_of_ble_eq_true rfl), (Nat.le_of_ble_eq_true rfl)⟩ rfl (hob) (Nat.le_of_ble_eq_true rfl) (by omega) (by omega) (c_ifPut9 (X := X) hA2 JT hD hm1 (by omega) t ht) (fun v h156 hq156 => ?_)
              refine ev_pc (pc' := 159) rfl ?_
              obtain ⟨rfl, hA4, o4⟩ := hq156
              rw [hok0]
              have hob := hA4.1
              refine ev_iconst (nI 1) dL_act_159 rfl ?_
              refine ev_icmp_neN 176 dL_act_160 rfl (by omega) (by omega) (fun hc160 => ?_) (fun hc160 => ?_)
              · first | omega | exact absurd hc160 (by decide) | exact absurd rfl hc160 | exact hc160 rfl | exact absurd hc160 (by assumption) | exact absurd (by assumption) hc160
              · refine ev_aload_n dL_act_163 rfl rfl ?_
                refine ev_cVU0 dL_act_164 cal_X6_clearBuffer lk_8_37 ⟨(Nat.le_of_ble_eq_true rfl), (Nat.le_of_ble_eq_true rfl)⟩ rfl (hob) (Nat.le_of_ble_eq_true rfl) (by omega) (by omega) ((show CnU X m_X6_clearBuffer [.ref 0] h156 (fun v h1 => v = some (.int (nI p)) ∧ ClsN h1 (aT A, (aN A, aH A), (0, D)) ∧ Out h156 h1 0 270) from c_clearBuffer (X := X) hA4)) (fun v h164 hq164 => ?_)
                refine ev_pc (pc' := 167) rfl ?_
                obtain ⟨rfl, hA5, o5⟩ := hq164
                refine ev_iload dL_act_167 rfl ?_
                refine ev_icmp_neN 176 dL_act_169 rfl (by omega) (by omega) (fun hc169 => ?_) (fun hc169 => ?_)
                · first | omega | exact absurd hc169 (by decide) | exact absurd rfl hc169 | exact hc169 rfl | exact absurd hc169 (by assumption) | exact absurd (by assumption) hc169
                · refine ev_iconst (nI 1) dL_act_172 rfl ?_
                  refine ev_goto 177 dL_act_173 rfl ?_
                  refine ev_zreturn dL_act_177 rfl (by first | rfl | exact bI_nar _) (Or.inl rfl) (by omega) (by omega) ?_
                  refine ⟨rfl, _, _, _, _, _, _, _, _, ⟨hA5, ⟨JT, JI.2.1, JI.2.2.1, Nat.zero_le _, fun j hj => absurd hj (Nat.not_lt_zero j)⟩, rfl, LawN.of (hl2.go (o4.tr o5) (Or.inr (by omega)) (Or.inr (by omega))), Jr, J9⟩⟩
        · refine ev_aload dL_act_59 rfl ?_
          refine ev_iload dL_act_61 rfl ?_
          refine ev_iconst (nI 1) dL_act_63 rfl ?_
          refine ev_iload_n dL_act_64 rfl rfl ?_
          refine ev_iload dL_act_65 rfl ?_
          refine ev_bipush (nI 7) dL_act_67 rfl ?_
          refine ev_iremN dL_act_69 (by omega) (by omega) (by omega) ?_
          refine ev_ishr dL_act_70 ?_
          refine ev_iconst (nI 3) dL_act_71 rfl ?_
          refine ev_cSP2 dL_act_72 cal_L_at lk_8_20 ⟨(Nat.le_of_ble_eq_true rfl), (Nat.le_of_ble_eq_true rfl)⟩ rfl (Nat.le_of_ble_eq_true rfl) (by omega) (by omega) (c_at _ 3 (by decide) (by decide)) ?_
          refine ev_if_neN 88 dL_act_75 rfl (by omega) (fun hc75 => ?_) (fun hc75 => ?_)
          · refine ev_iload_n dL_act_88 rfl rfl ?_
            refine ev_iload dL_act_89 rfl ?_
            refine ev_bipush (nI 13) dL_act_91 rfl ?_
            refine ev_iremN dL_act_93 (by omega) (by omega) (by omega) ?_
            refine ev_ishr dL_act_94 ?_
            refine ev_bipush (nI 8) dL_act_95 rfl ?_
            refine ev_cSP2 dL_act_97 cal_L_at lk_8_20 ⟨(Nat.le_of_ble_eq_true rfl), (Nat.le_of_ble_eq_true rfl)⟩ rfl (Nat.le_of_ble_eq_true rfl) (by omega) (by omega) (c_at _ 8 (by decide) (by decide)) ?_
            refine ev_iaddN dL_act_100 ?_
            first | refine ev_iastoreF dL_act_101 (hob) (by omega) (by decide) ?_ | refine ev_iastoreF dL_act_101 (k7) (by omega) (by decide) ?_
            refine ev_aload_n dL_act_102 rfl rfl ?_
            refine ev_bipush (nI 97) dL_act_103 rfl ?_
            refine ev_aload dL_act_105 rfl ?_
            refine ev_iload dL_act_107 rfl ?_
            first | refine ev_ialoadF dL_act_109 (mset_s _ _ _) (by omega) (by decide) ?_ | refine ev_ialoadF dL_act_109 ((mset_n (by omega)).trans (hob)) (by omega) (by decide) ?_ | refine ev_ialoadF dL_act_109 ((mset_n (by omega)).trans (k7)) (by omega) (by decide) ?_
            rw [upN_s]
            refine ev_iaddN dL_act_110 ?_
            refine ev_iconst (nI 1) dL_act_111 rfl ?_
            refine ev_isubN dL_act_112 (by omega) ?_
            first | refine ev_cVU1 dL_act_113 cal_X6_append lk_8_24 ⟨(Nat.le_of_ble_eq_true rfl), (Nat.le_of_ble_eq_true rfl)⟩ rfl (mset_s _ _ _) (Nat.le_of_ble_eq_true rfl) (by omega) (by omega) (c_append (X := X) (hA1.go (a := N) (n := 1) (Out.set (by omega) (by omega)) (by omega)) _ (by omega) (by omega) (show p < 60 by omega)) (fun v h113 hq113 => ?_) | refine ev_cVU1 dL_act_113 cal_X6_append lk_8_24 ⟨(Nat.le_of_ble_eq_true rfl), (Nat.le_of_ble_eq_true rfl)⟩ rfl ((mset_n (by omega)).trans (hob)) (Nat.le_of_ble_eq_true rfl) (by omega) (by omega) (c_append (X := X) (hA1.go (a := N) (n := 1) (Out.set (by omega) (by omega)) (by omega)) _ (by omega) (by omega) (show p < 60 by omega)) (fun v h113 hq113 => ?_) | refine ev_cVU1 dL_act_113 cal_X6_append lk_8_24 ⟨(Nat.le_of_ble_eq_true rfl), (Nat.le_of_ble_eq_true rfl)⟩ rfl ((mset_n (by omega)).trans (k7)) (Nat.le_of_ble_eq_true rfl) (by omega) (by omega) (c_append (X := X) (hA1.go (a := N) (n := 1) (Out.set (by omega) (by omega)) (by omega)) _ (by omega) (by omega) (show p < 60 by omega)) (fun v h113 hq113 => ?_)
            refine ev_pc (pc' := 116) rfl ?_
            obtain ⟨rfl, hA2, o2⟩ := hq113
            refine ev_pop dL_act_116 rfl ?_
            refine ev_iincN (L' := [_, _, _, _, _, _, _, _, _, _, _, _, _, _, _, _, _, _]) 1 dL_act_117 rfl rfl ?_
            refine ev_goto 52 dL_act_120 rfl ?_
            refine ev_pc (pc' := 52) rfl ?_
            have hA2' := (id hA2 : ClsN h113 (aT A, (aN A, aH A), (p + 1, upN D p _)))
            exact ih (m - (p + 1)) (by omega) (p + 1) h113 _ _ rfl (by omega) hA2' ((hlw2.s7 hN _).go o2 (Or.inr (by omega)) (Or.inr (by omega))) (hgd_step hgd (by assumption))
          · refine ev_iload_n dL_act_78 rfl rfl ?_
            refine ev_iload dL_act_79 rfl ?_
            refine ev_bipush (nI 11) dL_act_81 rfl ?_
            refine ev_iremN dL_act_83 (by omega) (by omega) (by omega) ?_
            refine ev_ishr dL_act_84 ?_
            refine ev_goto 95 dL_act_85 rfl ?_
            refine ev_bipush (nI 8) dL_act_95 rfl ?_
            refine ev_cSP2 dL_act_97 cal_L_at lk_8_20 ⟨(Nat.le_of_ble_eq_true rfl), (Nat.le_of_ble_eq_true rfl)⟩ rfl (Nat.le_of_ble_eq_true rfl) (by omega) (by omega) (c_at _ 8 (by decide) (by decide)) ?_
            refine ev_iaddN dL_act_100 ?_
            first | refine ev_iastoreF dL_act_101 (hob) (by omega) (by decide) ?_ | refine ev_iastoreF dL_act_101 (k7) (by omega) (by decide) ?_
            refine ev_aload_n dL_act_102 rfl rfl ?_
            refine ev_bipush (nI 97) dL_act_103 rfl ?_
            refine ev_aload dL_act_105 rfl ?_
            refine ev_iload dL_act_107 rfl ?_
            first | refine ev_ialoadF dL_act_109 (mset_s _ _ _) (by omega) (by decide) ?_ | refine ev_ialoadF dL_act_109 ((mset_n (by omega)).trans (hob)) (by omega) (by decide) ?_ | refine ev_ialoadF dL_act_109 ((mset_n (by omega)).trans (k7)) (by omega) (by decide) ?_
            rw [upN_s]
            refine ev_iaddN dL_act_110 ?_
            refine ev_iconst (nI 1) dL_act_111 rfl ?_
            refine ev_isubN dL_act_112 (by omega) ?_
            first | refine ev_cVU1 dL_act_113 cal_X6_append lk_8_24 ⟨(Nat.le_of_ble_eq_true rfl), (Nat.le_of_ble_eq_true rfl)⟩ rfl (mset_s _ _ _) (Nat.le_of_ble_eq_true rfl) (by omega) (by omega) (c_append (X := X) (hA1.go (a := N) (n := 1) (Out.set (by omega) (by omega)) (by omega)) _ (by omega) (by omega) (show p < 60 by omega)) (fun v h113 hq113 => ?_) | refine ev_cVU1 dL_act_113 cal_X6_append lk_8_24 ⟨(Nat.le_of_ble_eq_true rfl), (Nat.le_of_ble_eq_true rfl)⟩ rfl ((mset_n (by omega)).trans (hob)) (Nat.le_of_ble_eq_true rfl) (by omega) (by omega) (c_append (X := X) (hA1.go (a := N) (n := 1) (Out.set (by omega) (by omega)) (by omega)) _ (by omega) (by omega) (show p < 60 by omega)) (fun v h113 hq113 => ?_) | refine ev_cVU1 dL_act_113 cal_X6_append lk_8_24 ⟨(Nat.le_of_ble_eq_true rfl), (Nat.le_of_ble_eq_true rfl)⟩ rfl ((mset_n (by omega)).trans (k7)) (Nat.le_of_ble_eq_true rfl) (by omega) (by omega) (c_append (X := X) (hA1.go (a := N) (n := 1) (Out.set (by omega) (by omega)) (by omega)) _ (by omega) (by omega) (show p < 60 by omega)) (fun v h113 hq113 => ?_)
            refine ev_pc (pc' := 116) rfl ?_
            obtain ⟨rfl, hA2, o2⟩ := hq113
            refine ev_pop dL_act_116 rfl ?_
            refine ev_iincN (L' := [_, _, _, _, _, _, _, _, _, _, _, _, _, _, _, _, _, _]) 1 dL_act_117 rfl rfl ?_
            refine ev_goto 52 dL_act_120 rfl ?_
            refine ev_pc (pc' := 52) rfl ?_
            have hA2' := (id hA2 : ClsN h113 (aT A, (aN A, aH A), (p + 1, upN D p _)))
            exact ih (m - (p + 1)) (by omega) (p + 1) h113 _ _ rfl (by omega) hA2' ((hlw2.s7 hN _).go o2 (Or.inr (by omega)) (Or.inr (by omega))) (hgd_step hgd (by assumption))
    exact LP52 _ 0 (mset h N (aI 16 (nf (fun _ => 0)))) (fun _ => 0) (aD A) rfl (Nat.zero_le _) hA0 hlw0 (fun j hj => absurd hj (Nat.not_lt_zero j))
