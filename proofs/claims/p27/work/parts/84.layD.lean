theorem slI_ge {u : Nat} : 0 ≤ slI u ↔ u < 60 := by
  by_cases h : u < 60
  · rw [slI_y h]
    exact ⟨fun _ => h, fun _ => by rw [i_le, nI_toInt (by omega)]; exact Int.natCast_nonneg u⟩
  · rw [slI_n h]
    exact ⟨fun z => absurd z (by decide), fun z => absurd z h⟩
theorem CutL.ce {f1 : Nat → Int64} {f2 f3 : Nat → Nat} {K : mCt} (h : CutL f1 f2 f3 K) (hK : Tile K) (h16 : kL K ≤ 16) {p : Nat} (hp : p < kN K) : Ce (kR K p) (f1 p) (f2 p) := by
  obtain ⟨h1, h2, -, -⟩ := h p hp
  have y := hK.en hp
  rw [h1, h2, (hK.2.2.1 p hp).2.2.2]
  exact Ce.of y.2.2.1 (by omega) (hK.sg hp)
theorem Tile.n16 {K : mCt} (x : Tile K) (h16 : kL K ≤ 16) : kN K ≤ 16 := by
  obtain ⟨x1, x2, x3, x4⟩ := x
  have := smN_ge (f := kQ K) (n := kN K) (fun k hk => (x3 k hk).2.1)
  omega
set_option maxHeartbeats 4000000 in
set_option maxRecDepth 100000 in
theorem lay_D {X : mX} {h : mH} {V M size slots : Nat} {f f' : Option Nat} {ce sl mc ms : Nat} {gn gs ge gl : Nat → Nat} {gc : Nat → Int64} {gq go gv : Nat → Nat} {Q : mO → mH → Prop} (hl : LwN h V gn gs ge gl gc gq go gv) (t many : Nat) {S : mSo} (hS : RelS9 gc gq go S) (hD : SoD S) {K : mCt} (hK : Tile K) (h16 : kL K ≤ 16) {f1 : Nat → Int64} {f2 f3 : Nat → Nat} (a1 : h M = some (aL 16 f1)) (a2 : h (M + 1) = some (aI 16 (nf f2))) (hC : CutL f1 f2 f3 K) (hce : ce ≤ mc) (hsl : sl ≤ ms)
    (kk : Ev X m_L_lay (f, f', ce, sl, mc, ms) 338 [.ref 270, .ref 271, .ref 272, .ref 273, .ref 274, .ref 275, .ref 276, .int (nI t), .ref V, .int (nI many), .ref M, .ref (M + 1), .ref (M + 2), .int (nI (kN K)), jk, .ref (M + 3), .int (nI size), .int (nI slots), .int (nI (ndS S K)), .int (nI (ndR S K)), jk, jk, jk, jk, jk, jk] [] h Q) :
    Ev X m_L_lay (f, f', ce, sl, mc, ms) 222 [.ref 270, .ref 271, .ref 272, .ref 273, .ref 274, .ref 275, .ref 276, .int (nI t), .ref V, .int (nI many), .ref M, .ref (M + 1), .ref (M + 2), .int (nI (kN K)), jk, .ref (M + 3), .int (nI size), .int (nI slots), jk, jk, jk, jk, jk, jk, jk, jk] [] h Q := by
  have hn16 := hK.n16 h16
  have hq : ∀ p, p < kN K → Ce (kR K p) (f1 p) (f2 p) ∧ f2 p = kQ K p ∧ f2 p ≤ 16 := fun p hp => ⟨hC.ce hK h16 hp, (hC p hp).2.1, (hC.ce hK h16 hp).le.2⟩
  obtain ⟨k0, k1, k2, k3, k4, k5, k6, k7⟩ := hl
  refine ev_iconst (nI 0) dL_lay_222 rfl ?_
  refine ev_istore (L' := [_, _, _, _, _, _, _, _, _, _, _, _, _, _, _, _, _, _, _, _, _, _, _, _, _, _]) dL_lay_223 (Nat.le_of_ble_eq_true rfl) rfl ?_
  refine ev_iconst (nI 0) dL_lay_225 rfl ?_
  refine ev_istore (L' := [_, _, _, _, _, _, _, _, _, _, _, _, _, _, _, _, _, _, _, _, _, _, _, _, _, _]) dL_lay_226 (Nat.le_of_ble_eq_true rfl) rfl ?_
  refine ev_iconst (nI 0) dL_lay_228 rfl ?_
  refine ev_istore (L' := [_, _, _, _, _, _, _, _, _, _, _, _, _, _, _, _, _, _, _, _, _, _, _, _, _, _]) dL_lay_229 (Nat.le_of_ble_eq_true rfl) rfl ?_
  refine ev_pc (pc' := 231) rfl ?_
  have LP231 : ∀ (mz : Nat) (k : Nat), kN K - k = mz → (k ≤ kN K) → Ev X m_L_lay (f, f', ce, sl, mc, ms) 231 [.ref 270, .ref 271, .ref 272, .ref 273, .ref 274, .ref 275, .ref 276, .int (nI t), .ref V, .int (nI many), .ref M, .ref (M + 1), .ref (M + 2), .int (nI (kN K)), jk, .ref (M + 3), .int (nI size), .int (nI slots), .int (nI (ctN (isMiss S K) k)), .int (nI (smN (fun p => if isMiss S K p = true then kQ K p else 0) k)), .int (nI k), jk, jk, jk, jk, jk] [] h Q := by
    intro mz
    induction mz using Nat.strongRecOn with
    | _ mz ih =>
      intro k hmz hk
      have ihk := ih
      have hqk0 := hq k
      refine ev_iload dL_lay_231 rfl ?_
      refine ev_iload dL_lay_233 rfl ?_
      refine ev_icmp_geN 338 dL_lay_235 rfl (by omega) (by omega) (fun hc235 => ?_) (fun hc235 => ?_)
      · refine ev_pc (pc' := 338) rfl ?_
        have ek : k = kN K := by omega
        subst ek
        refine ev_fgt 20 (L' := [_, _, _, _, _, _, _, _, _, _, _, _, _, _, _, _, _, _, _, _, _, _, _, _, _, _]) rfl ?_
        exact kk
      · refine ev_pc (pc' := 238) rfl ?_
        have hqk := hqk0 (by omega)
        refine ev_aload dL_lay_238 rfl ?_
        refine ev_aload dL_lay_240 rfl ?_
        refine ev_aload dL_lay_242 rfl ?_
        refine ev_iload dL_lay_244 rfl ?_
        first | refine ev_laloadN dL_lay_246 (a1) (by omega) (by decide) ?_ | refine ev_laloadN dL_lay_246 (a2) (by omega) (by decide) ?_
        refine ev_aload dL_lay_247 rfl ?_
        refine ev_iload dL_lay_249 rfl ?_
        first | refine ev_ialoadF dL_lay_251 (a1) (by omega) (by decide) ?_ | refine ev_ialoadF dL_lay_251 (a2) (by omega) (by decide) ?_
        refine ev_cSP4 dL_lay_252 cal_L_slot lk_8_16 ⟨(Nat.le_of_ble_eq_true rfl), (Nat.le_of_ble_eq_true rfl)⟩ rfl (Nat.le_of_ble_eq_true rfl) (by omega) (by omega) (c_slotL k4 k5 hS hD hqk.1) ?_
        refine ev_if_ge 262 dL_lay_255 rfl (fun hc255 => ?_) (fun hc255 => ?_)
        · refine ev_iconst (nI 0) dL_lay_262 rfl ?_
          refine ev_pc (pc' := 263) rfl ?_
          first
            | (have hb : isIn S (kR K k) = true := decide_eq_true (slI_ge.mp hc255)
               rw [show nI 0 = bI (!(isIn S (kR K k)) && !(exN (fun q => kR K q == kR K k) 0)) from by rw [hb]; rfl])
            | (have hb : isIn S (kR K k) = false := decide_eq_false (fun z => hc255 (slI_ge.mpr z))
               rw [show nI 1 = bI (!(isIn S (kR K k)) && !(exN (fun q => kR K q == kR K k) 0)) from by rw [hb]; rfl])
          refine ev_istore (L' := [_, _, _, _, _, _, _, _, _, _, _, _, _, _, _, _, _, _, _, _, _, _, _, _, _, _]) dL_lay_263 (Nat.le_of_ble_eq_true rfl) rfl ?_
          refine ev_iconst (nI 0) dL_lay_265 rfl ?_
          refine ev_istore (L' := [_, _, _, _, _, _, _, _, _, _, _, _, _, _, _, _, _, _, _, _, _, _, _, _, _, _]) dL_lay_266 (Nat.le_of_ble_eq_true rfl) rfl ?_
          refine ev_pc (pc' := 268) rfl ?_
          have LP268 : ∀ (mz : Nat) (i : Nat), k - i = mz → (i ≤ k) → Ev X m_L_lay (f, f', ce, sl, mc, ms) 268 [.ref 270, .ref 271, .ref 272, .ref 273, .ref 274, .ref 275, .ref 276, .int (nI t), .ref V, .int (nI many), .ref M, .ref (M + 1), .ref (M + 2), .int (nI (kN K)), jk, .ref (M + 3), .int (nI size), .int (nI slots), .int (nI (ctN (isMiss S K) k)), .int (nI (smN (fun p => if isMiss S K p = true then kQ K p else 0) k)), .int (nI k), .int (bI (!(isIn S (kR K k)) && !(exN (fun q => kR K q == kR K k) i))), .int (nI i), jk, jk, jk] [] h Q := by
            intro mz
            induction mz using Nat.strongRecOn with
            | _ mz ih =>
              intro i hmz hi
              have hqi := hq i
              have hcei := fun z z2 => (hq i z).1.iff (hq k z2).1
              refine ev_iload dL_lay_268 rfl ?_
              refine ev_iload dL_lay_270 rfl ?_
              refine ev_icmp_geN 311 dL_lay_272 rfl (by first | omega | (have := (hqi (by omega)).2.2; have := hqk.2.2; omega)) (by first | omega | (have := (hqi (by omega)).2.2; have := hqk.2.2; omega)) (fun hc272 => ?_) (fun hc272 => ?_)
              · refine ev_pc (pc' := 311) rfl ?_
                have ei : i = k := by omega
                subst ei
                rw [show (!(isIn S (kR K i)) && !(exN (fun q => kR K q == kR K i) i)) = isMiss S K i from Bool.and_comm _ _]
                refine ev_iload dL_lay_311 rfl ?_
                refine ev_if_neB 319 dL_lay_313 rfl (fun hc313 => ?_) (fun hc313 => ?_)
                · refine ev_iincN (L' := [_, _, _, _, _, _, _, _, _, _, _, _, _, _, _, _, _, _, _, _, _, _, _, _, _, _]) 1 dL_lay_319 rfl rfl ?_
                  refine ev_iload dL_lay_322 rfl ?_
                  refine ev_aload dL_lay_324 rfl ?_
                  refine ev_iload dL_lay_326 rfl ?_
                  first | refine ev_ialoadF dL_lay_328 (a1) (by omega) (by decide) ?_ | refine ev_ialoadF dL_lay_328 (a2) (by omega) (by decide) ?_
                  rw [hqk.2.1]
                  refine ev_iaddN dL_lay_329 ?_
                  refine ev_istore (L' := [_, _, _, _, _, _, _, _, _, _, _, _, _, _, _, _, _, _, _, _, _, _, _, _, _, _]) dL_lay_330 (Nat.le_of_ble_eq_true rfl) rfl ?_
                  refine ev_iincN (L' := [_, _, _, _, _, _, _, _, _, _, _, _, _, _, _, _, _, _, _, _, _, _, _, _, _, _]) 1 dL_lay_332 rfl rfl ?_
                  refine ev_goto 231 dL_lay_335 rfl ?_
                  refine ev_pc (pc' := 231) rfl ?_
                  refine ev_fgt 21 (L' := [_, _, _, _, _, _, _, _, _, _, _, _, _, _, _, _, _, _, _, _, _, _, _, _, _, _]) rfl ?_
                  refine ev_fgt 22 (L' := [_, _, _, _, _, _, _, _, _, _, _, _, _, _, _, _, _, _, _, _, _, _, _, _, _, _]) rfl ?_
                  have E := ihk (kN K - (i + 1)) (by omega) (i + 1) rfl (by omega)
                  first
                    | (rw [ctN_y hc313, show smN (fun p => if isMiss S K p = true then kQ K p else 0) (i + 1) = smN (fun p => if isMiss S K p = true then kQ K p else 0) i + kQ K i from by rw [smN, if_pos hc313]] at E; exact E)
                    | (rw [ctN_n hc313, show smN (fun p => if isMiss S K p = true then kQ K p else 0) (i + 1) = smN (fun p => if isMiss S K p = true then kQ K p else 0) i from by rw [smN, if_neg (by rw [hc313]; decide), Nat.add_zero]] at E; exact E)
                · refine ev_goto 332 dL_lay_316 rfl ?_
                  refine ev_iincN (L' := [_, _, _, _, _, _, _, _, _, _, _, _, _, _, _, _, _, _, _, _, _, _, _, _, _, _]) 1 dL_lay_332 rfl rfl ?_
                  refine ev_goto 231 dL_lay_335 rfl ?_
                  refine ev_pc (pc' := 231) rfl ?_
                  refine ev_fgt 21 (L' := [_, _, _, _, _, _, _, _, _, _, _, _, _, _, _, _, _, _, _, _, _, _, _, _, _, _]) rfl ?_
                  refine ev_fgt 22 (L' := [_, _, _, _, _, _, _, _, _, _, _, _, _, _, _, _, _, _, _, _, _, _, _, _, _, _]) rfl ?_
                  have E := ihk (kN K - (i + 1)) (by omega) (i + 1) rfl (by omega)
                  first
                    | (rw [ctN_y hc313, show smN (fun p => if isMiss S K p = true then kQ K p else 0) (i + 1) = smN (fun p => if isMiss S K p = true then kQ K p else 0) i + kQ K i from by rw [smN, if_pos hc313]] at E; exact E)
                    | (rw [ctN_n hc313, show smN (fun p => if isMiss S K p = true then kQ K p else 0) (i + 1) = smN (fun p => if isMiss S K p = true then kQ K p else 0) i from by rw [smN, if_neg (by rw [hc313]; decide), Nat.add_zero]] at E; exact E)
              · refine ev_aload dL_lay_275 rfl ?_
                refine ev_iload dL_lay_277 rfl ?_
                first | refine ev_laloadN dL_lay_279 (a1) (by omega) (by decide) ?_ | refine ev_laloadN dL_lay_279 (a2) (by omega) (by decide) ?_
                refine ev_aload dL_lay_280 rfl ?_
                refine ev_iload dL_lay_282 rfl ?_
                first | refine ev_laloadN dL_lay_284 (a1) (by omega) (by decide) ?_ | refine ev_laloadN dL_lay_284 (a2) (by omega) (by decide) ?_
                refine ev_lcmp_ne 305 dL_lay_285 dL_lay_286 rfl (fun hc286 => ?_) (fun hc286 => ?_)
                · refine ev_iincN (L' := [_, _, _, _, _, _, _, _, _, _, _, _, _, _, _, _, _, _, _, _, _, _, _, _, _, _]) 1 dL_lay_305 rfl rfl ?_
                  refine ev_goto 268 dL_lay_308 rfl ?_
                  refine ev_pc (pc' := 268) rfl ?_
                  have E := ih (k - (i + 1)) (by omega) (i + 1) rfl (by omega)
                  first
                    | (have e9 : (kR K i == kR K k) = true := by rw [ieq]; exact decide_eq_true ((hcei (by omega) (by omega)).mpr ⟨hc299, hc286⟩)
                       rw [show exN (fun q => kR K q == kR K k) (i + 1) = true from by rw [exN, e9, Bool.or_true], Bool.not_true, Bool.and_false] at E
                       exact E)
                    | (have e9 : (kR K i == kR K k) = false := by rw [ieq]; exact decide_eq_false (fun z => hc286 ((hcei (by omega) (by omega)).mp z).2)
                       rw [show exN (fun q => kR K q == kR K k) (i + 1) = exN (fun q => kR K q == kR K k) i from by rw [exN, e9, Bool.or_false]] at E
                       exact E)
                    | (have e9 : (kR K i == kR K k) = false := by rw [ieq]; exact decide_eq_false (fun z => hc299 ((hcei (by omega) (by omega)).mp z).1)
                       rw [show exN (fun q => kR K q == kR K k) (i + 1) = exN (fun q => kR K q == kR K k) i from by rw [exN, e9, Bool.or_false]] at E
                       exact E)
                · refine ev_aload dL_lay_289 rfl ?_
                  refine ev_iload dL_lay_291 rfl ?_
                  first | refine ev_ialoadF dL_lay_293 (a1) (by omega) (by decide) ?_ | refine ev_ialoadF dL_lay_293 (a2) (by omega) (by decide) ?_
                  refine ev_aload dL_lay_294 rfl ?_
                  refine ev_iload dL_lay_296 rfl ?_
                  first | refine ev_ialoadF dL_lay_298 (a1) (by omega) (by decide) ?_ | refine ev_ialoadF dL_lay_298 (a2) (by omega) (by decide) ?_
                  refine ev_icmp_neN 305 dL_lay_299 rfl (by first | omega | (have := (hqi (by omega)).2.2; have := hqk.2.2; omega)) (by first | omega | (have := (hqi (by omega)).2.2; have := hqk.2.2; omega)) (fun hc299 => ?_) (fun hc299 => ?_)
                  · refine ev_iincN (L' := [_, _, _, _, _, _, _, _, _, _, _, _, _, _, _, _, _, _, _, _, _, _, _, _, _, _]) 1 dL_lay_305 rfl rfl ?_
                    refine ev_goto 268 dL_lay_308 rfl ?_
                    refine ev_pc (pc' := 268) rfl ?_
                    have E := ih (k - (i + 1)) (by omega) (i + 1) rfl (by omega)
                    first
                      | (have e9 : (kR K i == kR K k) = true := by rw [ieq]; exact decide_eq_true ((hcei (by omega) (by omega)).mpr ⟨hc299, hc286⟩)
                         rw [show exN (fun q => kR K q == kR K k) (i + 1) = true from by rw [exN, e9, Bool.or_true], Bool.not_true, Bool.and_false] at E
                         exact E)
                      | (have e9 : (kR K i == kR K k) = false := by rw [ieq]; exact decide_eq_false (fun z => hc286 ((hcei (by omega) (by omega)).mp z).2)
                         rw [show exN (fun q => kR K q == kR K k) (i + 1) = exN (fun q => kR K q == kR K k) i from by rw [exN, e9, Bool.or_false]] at E
                         exact E)
                      | (have e9 : (kR K i == kR K k) = false := by rw [ieq]; exact decide_eq_false (fun z => hc299 ((hcei (by omega) (by omega)).mp z).1)
                         rw [show exN (fun q => kR K q == kR K k) (i + 1) = exN (fun q => kR K q == kR K k) i from by rw [exN, e9, Bool.or_false]] at E
                         exact E)
                  · refine ev_iconst (nI 0) dL_lay_302 rfl ?_
                    refine ev_istore (L' := [_, _, _, _, _, _, _, _, _, _, _, _, _, _, _, _, _, _, _, _, _, _, _, _, _, _]) dL_lay_303 (Nat.le_of_ble_eq_true rfl) rfl ?_
                    refine ev_iincN (L' := [_, _, _, _, _, _, _, _, _, _, _, _, _, _, _, _, _, _, _, _, _, _, _, _, _, _]) 1 dL_lay_305 rfl rfl ?_
                    refine ev_goto 268 dL_lay_308 rfl ?_
                    refine ev_pc (pc' := 268) rfl ?_
                    have E := ih (k - (i + 1)) (by omega) (i + 1) rfl (by omega)
                    first
                      | (have e9 : (kR K i == kR K k) = true := by rw [ieq]; exact decide_eq_true ((hcei (by omega) (by omega)).mpr ⟨hc299, hc286⟩)
                         rw [show exN (fun q => kR K q == kR K k) (i + 1) = true from by rw [exN, e9, Bool.or_true], Bool.not_true, Bool.and_false] at E
                         exact E)
                      | (have e9 : (kR K i == kR K k) = false := by rw [ieq]; exact decide_eq_false (fun z => hc286 ((hcei (by omega) (by omega)).mp z).2)
                         rw [show exN (fun q => kR K q == kR K k) (i + 1) = exN (fun q => kR K q == kR K k) i from by rw [exN, e9, Bool.or_false]] at E
                         exact E)
                      | (have e9 : (kR K i == kR K k) = false := by rw [ieq]; exact decide_eq_false (fun z => hc299 ((hcei (by omega) (by omega)).mp z).1)
                         rw [show exN (fun q => kR K q == kR K k) (i + 1) = exN (fun q => kR K q == kR K k) i from by rw [exN, e9, Bool.or_false]] at E
                         exact E)
          exact LP268 _ 0 rfl (Nat.zero_le _)
        · refine ev_iconst (nI 1) dL_lay_258 rfl ?_
          refine ev_goto 263 dL_lay_259 rfl ?_
          refine ev_pc (pc' := 263) rfl ?_
          first
            | (have hb : isIn S (kR K k) = true := decide_eq_true (slI_ge.mp hc255)
               rw [show nI 0 = bI (!(isIn S (kR K k)) && !(exN (fun q => kR K q == kR K k) 0)) from by rw [hb]; rfl])
            | (have hb : isIn S (kR K k) = false := decide_eq_false (fun z => hc255 (slI_ge.mpr z))
               rw [show nI 1 = bI (!(isIn S (kR K k)) && !(exN (fun q => kR K q == kR K k) 0)) from by rw [hb]; rfl])
          refine ev_istore (L' := [_, _, _, _, _, _, _, _, _, _, _, _, _, _, _, _, _, _, _, _, _, _, _, _, _, _]) dL_lay_263 (Nat.le_of_ble_eq_true rfl) rfl ?_
          refine ev_iconst (nI 0) dL_lay_265 rfl ?_
          refine ev_istore (L' := [_, _, _, _, _, _, _, _, _, _, _, _, _, _, _, _, _, _, _, _, _, _, _, _, _, _]) dL_lay_266 (Nat.le_of_ble_eq_true rfl) rfl ?_
          refine ev_pc (pc' := 268) rfl ?_
          have LP268 : ∀ (mz : Nat) (i : Nat), k - i = mz → (i ≤ k) → Ev X m_L_lay (f, f', ce, sl, mc, ms) 268 [.ref 270, .ref 271, .ref 272, .ref 273, .ref 274, .ref 275, .ref 276, .int (nI t), .ref V, .int (nI many), .ref M, .ref (M + 1), .ref (M + 2), .int (nI (kN K)), jk, .ref (M + 3), .int (nI size), .int (nI slots), .int (nI (ctN (isMiss S K) k)), .int (nI (smN (fun p => if isMiss S K p = true then kQ K p else 0) k)), .int (nI k), .int (bI (!(isIn S (kR K k)) && !(exN (fun q => kR K q == kR K k) i))), .int (nI i), jk, jk, jk] [] h Q := by
            intro mz
            induction mz using Nat.strongRecOn with
            | _ mz ih =>
              intro i hmz hi
              have hqi := hq i
              have hcei := fun z z2 => (hq i z).1.iff (hq k z2).1
              refine ev_iload dL_lay_268 rfl ?_
              refine ev_iload dL_lay_270 rfl ?_
              refine ev_icmp_geN 311 dL_lay_272 rfl (by first | omega | (have := (hqi (by omega)).2.2; have := hqk.2.2; omega)) (by first | omega | (have := (hqi (by omega)).2.2; have := hqk.2.2; omega)) (fun hc272 => ?_) (fun hc272 => ?_)
              · refine ev_pc (pc' := 311) rfl ?_
                have ei : i = k := by omega
                subst ei
                rw [show (!(isIn S (kR K i)) && !(exN (fun q => kR K q == kR K i) i)) = isMiss S K i from Bool.and_comm _ _]
                refine ev_iload dL_lay_311 rfl ?_
                refine ev_if_neB 319 dL_lay_313 rfl (fun hc313 => ?_) (fun hc313 => ?_)
                · refine ev_iincN (L' := [_, _, _, _, _, _, _, _, _, _, _, _, _, _, _, _, _, _, _, _, _, _, _, _, _, _]) 1 dL_lay_319 rfl rfl ?_
                  refine ev_iload dL_lay_322 rfl ?_
                  refine ev_aload dL_lay_324 rfl ?_
                  refine ev_iload dL_lay_326 rfl ?_
                  first | refine ev_ialoadF dL_lay_328 (a1) (by omega) (by decide) ?_ | refine ev_ialoadF dL_lay_328 (a2) (by omega) (by decide) ?_
                  rw [hqk.2.1]
                  refine ev_iaddN dL_lay_329 ?_
                  refine ev_istore (L' := [_, _, _, _, _, _, _, _, _, _, _, _, _, _, _, _, _, _, _, _, _, _, _, _, _, _]) dL_lay_330 (Nat.le_of_ble_eq_true rfl) rfl ?_
                  refine ev_iincN (L' := [_, _, _, _, _, _, _, _, _, _, _, _, _, _, _, _, _, _, _, _, _, _, _, _, _, _]) 1 dL_lay_332 rfl rfl ?_
                  refine ev_goto 231 dL_lay_335 rfl ?_
                  refine ev_pc (pc' := 231) rfl ?_
                  refine ev_fgt 21 (L' := [_, _, _, _, _, _, _, _, _, _, _, _, _, _, _, _, _, _, _, _, _, _, _, _, _, _]) rfl ?_
                  refine ev_fgt 22 (L' := [_, _, _, _, _, _, _, _, _, _, _, _, _, _, _, _, _, _, _, _, _, _, _, _, _, _]) rfl ?_
                  have E := ihk (kN K - (i + 1)) (by omega) (i + 1) rfl (by omega)
                  first
                    | (rw [ctN_y hc313, show smN (fun p => if isMiss S K p = true then kQ K p else 0) (i + 1) = smN (fun p => if isMiss S K p = true then kQ K p else 0) i + kQ K i from by rw [smN, if_pos hc313]] at E; exact E)
                    | (rw [ctN_n hc313, show smN (fun p => if isMiss S K p = true then kQ K p else 0) (i + 1) = smN (fun p => if isMiss S K p = true then kQ K p else 0) i from by rw [smN, if_neg (by rw [hc313]; decide), Nat.add_zero]] at E; exact E)
                · refine ev_goto 332 dL_lay_316 rfl ?_
                  refine ev_iincN (L' := [_, _, _, _, _, _, _, _, _, _, _, _, _, _, _, _, _, _, _, _, _, _, _, _, _, _]) 1 dL_lay_332 rfl rfl ?_
                  refine ev_goto 231 dL_lay_335 rfl ?_
                  refine ev_pc (pc' := 231) rfl ?_
                  refine ev_fgt 21 (L' := [_, _, _, _, _, _, _, _, _, _, _, _, _, _, _, _, _, _, _, _, _, _, _, _, _, _]) rfl ?_
                  refine ev_fgt 22 (L' := [_, _, _, _, _, _, _, _, _, _, _, _, _, _, _, _, _, _, _, _, _, _, _, _, _, _]) rfl ?_
                  have E := ihk (kN K - (i + 1)) (by omega) (i + 1) rfl (by omega)
                  first
                    | (rw [ctN_y hc313, show smN (fun p => if isMiss S K p = true then kQ K p else 0) (i + 1) = smN (fun p => if isMiss S K p = true then kQ K p else 0) i + kQ K i from by rw [smN, if_pos hc313]] at E; exact E)
                    | (rw [ctN_n hc313, show smN (fun p => if isMiss S K p = true then kQ K p else 0) (i + 1) = smN (fun p => if isMiss S K p = true then kQ K p else 0) i from by rw [smN, if_neg (by rw [hc313]; decide), Nat.add_zero]] at E; exact E)
              · refine ev_aload dL_lay_275 rfl ?_
                refine ev_iload dL_lay_277 rfl ?_
                first | refine ev_laloadN dL_lay_279 (a1) (by omega) (by decide) ?_ | refine ev_laloadN dL_lay_279 (a2) (by omega) (by decide) ?_
                refine ev_aload dL_lay_280 rfl ?_
                refine ev_iload dL_lay_282 rfl ?_
                first | refine ev_laloadN dL_lay_284 (a1) (by omega) (by decide) ?_ | refine ev_laloadN dL_lay_284 (a2) (by omega) (by decide) ?_
                refine ev_lcmp_ne 305 dL_lay_285 dL_lay_286 rfl (fun hc286 => ?_) (fun hc286 => ?_)
                · refine ev_iincN (L' := [_, _, _, _, _, _, _, _, _, _, _, _, _, _, _, _, _, _, _, _, _, _, _, _, _, _]) 1 dL_lay_305 rfl rfl ?_
                  refine ev_goto 268 dL_lay_308 rfl ?_
                  refine ev_pc (pc' := 268) rfl ?_
                  have E := ih (k - (i + 1)) (by omega) (i + 1) rfl (by omega)
                  first
                    | (have e9 : (kR K i == kR K k) = true := by rw [ieq]; exact decide_eq_true ((hcei (by omega) (by omega)).mpr ⟨hc299, hc286⟩)
                       rw [show exN (fun q => kR K q == kR K k) (i + 1) = true from by rw [exN, e9, Bool.or_true], Bool.not_true, Bool.and_false] at E
                       exact E)
                    | (have e9 : (kR K i == kR K k) = false := by rw [ieq]; exact decide_eq_false (fun z => hc286 ((hcei (by omega) (by omega)).mp z).2)
                       rw [show exN (fun q => kR K q == kR K k) (i + 1) = exN (fun q => kR K q == kR K k) i from by rw [exN, e9, Bool.or_false]] at E
                       exact E)
                    | (have e9 : (kR K i == kR K k) = false := by rw [ieq]; exact decide_eq_false (fun z => hc299 ((hcei (by omega) (by omega)).mp z).1)
                       rw [show exN (fun q => kR K q == kR K k) (i + 1) = exN (fun q => kR K q == kR K k) i from by rw [exN, e9, Bool.or_false]] at E
                       exact E)
                · refine ev_aload dL_lay_289 rfl ?_
                  refine ev_iload dL_lay_291 rfl ?_
                  first | refine ev_ialoadF dL_lay_293 (a1) (by omega) (by decide) ?_ | refine ev_ialoadF dL_lay_293 (a2) (by omega) (by decide) ?_
                  refine ev_aload dL_lay_294 rfl ?_
                  refine ev_iload dL_lay_296 rfl ?_
                  first | refine ev_ialoadF dL_lay_298 (a1) (by omega) (by decide) ?_ | refine ev_ialoadF dL_lay_298 (a2) (by omega) (by decide) ?_
                  refine ev_icmp_neN 305 dL_lay_299 rfl (by first | omega | (have := (hqi (by omega)).2.2; have := hqk.2.2; omega)) (by first | omega | (have := (hqi (by omega)).2.2; have := hqk.2.2; omega)) (fun hc299 => ?_) (fun hc299 => ?_)
                  · refine ev_iincN (L' := [_, _, _, _, _, _, _, _, _, _, _, _, _, _, _, _, _, _, _, _, _, _, _, _, _, _]) 1 dL_lay_305 rfl rfl ?_
                    refine ev_goto 268 dL_lay_308 rfl ?_
                    refine ev_pc (pc' := 268) rfl ?_
                    have E := ih (k - (i + 1)) (by omega) (i + 1) rfl (by omega)
                    first
                      | (have e9 : (kR K i == kR K k) = true := by rw [ieq]; exact decide_eq_true ((hcei (by omega) (by omega)).mpr ⟨hc299, hc286⟩)
                         rw [show exN (fun q => kR K q == kR K k) (i + 1) = true from by rw [exN, e9, Bool.or_true], Bool.not_true, Bool.and_false] at E
                         exact E)
                      | (have e9 : (kR K i == kR K k) = false := by rw [ieq]; exact decide_eq_false (fun z => hc286 ((hcei (by omega) (by omega)).mp z).2)
                         rw [show exN (fun q => kR K q == kR K k) (i + 1) = exN (fun q => kR K q == kR K k) i from by rw [exN, e9, Bool.or_false]] at E
                         exact E)
                      | (have e9 : (kR K i == kR K k) = false := by rw [ieq]; exact decide_eq_false (fun z => hc299 ((hcei (by omega) (by omega)).mp z).1)
                         rw [show exN (fun q => kR K q == kR K k) (i + 1) = exN (fun q => kR K q == kR K k) i from by rw [exN, e9, Bool.or_false]] at E
                         exact E)
                  · refine ev_iconst (nI 0) dL_lay_302 rfl ?_
                    refine ev_istore (L' := [_, _, _, _, _, _, _, _, _, _, _, _, _, _, _, _, _, _, _, _, _, _, _, _, _, _]) dL_lay_303 (Nat.le_of_ble_eq_true rfl) rfl ?_
                    refine ev_iincN (L' := [_, _, _, _, _, _, _, _, _, _, _, _, _, _, _, _, _, _, _, _, _, _, _, _, _, _]) 1 dL_lay_305 rfl rfl ?_
                    refine ev_goto 268 dL_lay_308 rfl ?_
                    refine ev_pc (pc' := 268) rfl ?_
                    have E := ih (k - (i + 1)) (by omega) (i + 1) rfl (by omega)
                    first
                      | (have e9 : (kR K i == kR K k) = true := by rw [ieq]; exact decide_eq_true ((hcei (by omega) (by omega)).mpr ⟨hc299, hc286⟩)
                         rw [show exN (fun q => kR K q == kR K k) (i + 1) = true from by rw [exN, e9, Bool.or_true], Bool.not_true, Bool.and_false] at E
                         exact E)
                      | (have e9 : (kR K i == kR K k) = false := by rw [ieq]; exact decide_eq_false (fun z => hc286 ((hcei (by omega) (by omega)).mp z).2)
                         rw [show exN (fun q => kR K q == kR K k) (i + 1) = exN (fun q => kR K q == kR K k) i from by rw [exN, e9, Bool.or_false]] at E
                         exact E)
                      | (have e9 : (kR K i == kR K k) = false := by rw [ieq]; exact decide_eq_false (fun z => hc299 ((hcei (by omega) (by omega)).mp z).1)
                         rw [show exN (fun q => kR K q == kR K k) (i + 1) = exN (fun q => kR K q == kR K k) i from by rw [exN, e9, Bool.or_false]] at E
                         exact E)
          exact LP268 _ 0 rfl (Nat.zero_le _)
  exact LP231 _ 0 rfl (Nat.zero_le _)
