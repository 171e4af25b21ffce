set_option maxHeartbeats 4000000 in
set_option maxRecDepth 100000 in
theorem ag_put {X : mX} (hR : RO X) {h : mH} {A : mAs} (J : JA h A) (t : Int32) : ∃ (k : Nat) (x : Int32) (A' : mAs), InvA A' ∧ k < 10 ∧ CnH X m_L_put none none 1 6 [.ref 0, .int t, .ref 283] h (fun o h1 => o = .inl (some (.int (nI k))) ∧ JL h h1 A' ∧ (k = 0 → ∃ g, h1 283 = some (aL 1 g) ∧ g 0 = x.toInt64)) ∧ ∀ h1, JL h h1 A' → CnU X m_X7_put [.ref 270, .int t] h1 (fun v h2 => ModP h1 h2 A' k x v) := by
  obtain ⟨hA, hI, ⟨k0, gz, gc, gs, gh, gk, gl, gb, gx, ⟨gr, gm, gp, gq, ge, gn, go, gu, gi, ga, gv, gw, hm⟩, hr, hh, hgl, hgb⟩, hO⟩ := J
  have a0 := hA.1
  obtain ⟨hT, iH, i6, i60, i200⟩ := id hI
  have hlk := hI.lk
  have hB := hlk.1
  have hl60 : gl ≤ 60 := by omega
  have hb2 : ∀ j, j < gl → gb j ≤ 200 := fun j hj => by rw [hgb j hj]; exact i200 j (by omega)
  have e1 : smN (addN gb) gl = smN (addN (aD A)) (aB A) := by rw [smA_congr hgb (Nat.le_refl gl), hgl]
  have e2 : tlN gb gl = tlN (aD A) (aB A) := by rw [tlN_congr hgb gl (Nat.le_refl gl), hgl]
  have e3 : whol gb gl = whol (aD A) (aB A) := by rw [whol_congr hgb, hgl]
  cases ht : inX t 0 4 with
  | false =>
    exact ⟨1, 0, A, hI, by decide, cn_mono (x0_put a0 t (x_put t ht)) (fun o h1 q => ⟨q.1, thr1 hA hO q.2, fun z => absurd z (by decide)⟩), fun h1 j => cn_mono (k_put1 (hm.same j.2.2) t ht) (md0 hr hh hgl hgb (by decide))⟩
  | true =>
    obtain ⟨n, rfl, -, htn⟩ := inX_k ht
    cases hq : whol (aD A) (aB A) with
    | false =>
      exact ⟨2, 0, A, hI, by decide, cn_mono (x1_put a0 _ (x_put2 hA n htn hq)) (fun o h1 q => ⟨q.1, thr1 hA hO q.2, fun z => absurd z (by decide)⟩), fun h1 j => cn_mono (k_put2 (hm.same j.2.2) hl60 hb2 n htn (by rw [e3]; exact hq)) (md0 hr hh hgl hgb (by decide))⟩
    | true =>
      obtain ⟨p1, p2, p3⟩ := hlk.2.2.2.2.2 hq
      have hK : Tile (putK A) := cutK_tile hT.1 p1 (fun j hj => ⟨p2 j hj, (whol_ok hq).2 j hj |>.2⟩)
      cases hok : okS (aT A) n (putK A) with
      | false =>
        exact ⟨3, 0, A, hI, by decide, cn_mono (x2_put a0 _ (x_put9 hA hq p1 p2 n htn (p3 n htn) hok)) (fun o h1 q => ⟨q.1, thr2 hO q.2, fun z => absurd z (by decide)⟩), fun h1 j => cn_mono (k_put9 (hm.same j.2.2) hr hT hl60 hb2 n htn (by rw [e3]; exact hq) (by rw [e1, e2]; exact hok)) (md0 hr hh hgl hgb (by decide))⟩
      | true =>
        exact ⟨0, nI (kN (putK A)), (chgT (aT A) n (putK A), hisA A, (0, aD A)), hI.his (chgT_all hT htn hK hok).1 (by decide) (fun j hj => absurd hj (Nat.not_lt_zero j)), by decide, cn_mono (n_put a0 _ (c_put hA hq p1 p2 n htn (p3 n htn) hok) (nP hO)) (fun o h1 q => ⟨q.1, (nrm q.2).1, fun _ => (nrm q.2).2⟩), fun h1 j => cn_mono (by have z := k_put (X := X) (hm.same j.2.2) hr hT hh iH i6 hl60 hb2 n htn (by rw [e3]; exact hq) (by rw [e1, e2]; exact hok); rw [e1, e2] at z; exact z) (md2 rfl (fun j hj => absurd hj (Nat.not_lt_zero j)))⟩
set_option maxHeartbeats 4000000 in
set_option maxRecDepth 100000 in
theorem ag_insert {X : mX} (hR : RO X) {h : mH} {A : mAs} (J : JA h A) (t : Int32) (u : Int32) : ∃ (k : Nat) (x : Int32) (A' : mAs), InvA A' ∧ k < 10 ∧ CnH X m_L_insert none none 1 6 [.ref 0, .int t, .int u, .ref 283] h (fun o h1 => o = .inl (some (.int (nI k))) ∧ JL h h1 A' ∧ (k = 0 → ∃ g, h1 283 = some (aL 1 g) ∧ g 0 = x.toInt64)) ∧ ∀ h1, JL h h1 A' → CnU X m_X7_insert [.ref 270, .int t, .int u] h1 (fun v h2 => ModP h1 h2 A' k x v) := by
  obtain ⟨hA, hI, ⟨k0, gz, gc, gs, gh, gk, gl, gb, gx, ⟨gr, gm, gp, gq, ge, gn, go, gu, gi, ga, gv, gw, hm⟩, hr, hh, hgl, hgb⟩, hO⟩ := J
  have a0 := hA.1
  obtain ⟨hT, iH, i6, i60, i200⟩ := id hI
  have hlk := hI.lk
  have hB := hlk.1
  have hl60 : gl ≤ 60 := by omega
  have hb2 : ∀ j, j < gl → gb j ≤ 200 := fun j hj => by rw [hgb j hj]; exact i200 j (by omega)
  have e1 : smN (addN gb) gl = smN (addN (aD A)) (aB A) := by rw [smA_congr hgb (Nat.le_refl gl), hgl]
  have e2 : tlN gb gl = tlN (aD A) (aB A) := by rw [tlN_congr hgb gl (Nat.le_refl gl), hgl]
  have e3 : whol gb gl = whol (aD A) (aB A) := by rw [whol_congr hgb, hgl]
  cases ht : inX t 0 4 with
  | false =>
    exact ⟨1, 0, A, hI, by decide, cn_mono (x0_insert a0 t u (x_insert t u ht)) (fun o h1 q => ⟨q.1, thr1 hA hO q.2, fun z => absurd z (by decide)⟩), fun h1 j => cn_mono (k_insert1 (hm.same j.2.2) t u ht) (md0 hr hh hgl hgb (by decide))⟩
  | true =>
    obtain ⟨n, rfl, -, htn⟩ := inX_k ht
    cases hu : inX u 0 (kL (tC (aT A) n) + 1) with
    | false =>
      exact ⟨1, 0, A, hI, by decide, cn_mono (x0_insert a0 _ u (x_insert2 hA n u htn hu)) (fun o h1 q => ⟨q.1, thr1 hA hO q.2, fun z => absurd z (by decide)⟩), fun h1 j => cn_mono (k_insert2 (hm.same j.2.2) hr hT n u htn hu) (md0 hr hh hgl hgb (by decide))⟩
    | true =>
      obtain ⟨m, rfl, -, hun⟩ := inX_k hu
      cases hq : whol (aD A) (aB A) with
      | false =>
        exact ⟨2, 0, A, hI, by decide, cn_mono (x1_insert a0 _ _ (x_insert3 hA n m htn (by omega) hq)) (fun o h1 q => ⟨q.1, thr1 hA hO q.2, fun z => absurd z (by decide)⟩), fun h1 j => cn_mono (k_insert3 (hm.same j.2.2) hr hT hl60 hb2 n m htn (by omega) (by rw [e3]; exact hq)) (md0 hr hh hgl hgb (by decide))⟩
      | true =>
        by_cases hs : kL (tC (aT A) n) + smN (addN (aD A)) (aB A) ≤ 40
        · have hsg : ∀ j, j < kL (tC (aT A) n) + smN (addN (aD A)) (aB A) → 1 ≤ insF (kS (tC (aT A) n)) (tlN (aD A) (aB A)) m (smN (addN (aD A)) (aB A)) j ∧ insF (kS (tC (aT A) n)) (tlN (aD A) (aB A)) m (smN (addN (aD A)) (aB A)) j ≤ 8 := fun j hj => by
            rw [insF]
            by_cases z1 : j < m
            · rw [if_pos z1]; exact (hT.2.1 n htn).2.1 _ (by omega)
            · rw [if_neg z1]
              by_cases z2 : j < m + smN (addN (aD A)) (aB A)
              · rw [if_pos z2]; exact (whol_ok hq).2 _ (by omega)
              · rw [if_neg z2]; exact (hT.2.1 n htn).2.1 _ (by omega)
          have hK : Tile (cutK (tV (aT A)) (kL (tC (aT A) n) + smN (addN (aD A)) (aB A)) (insF (kS (tC (aT A) n)) (tlN (aD A) (aB A)) m (smN (addN (aD A)) (aB A)))) := cutK_tile hT.1 hs hsg
          cases hok : okS (aT A) n (cutK (tV (aT A)) (kL (tC (aT A) n) + smN (addN (aD A)) (aB A)) (insF (kS (tC (aT A) n)) (tlN (aD A) (aB A)) m (smN (addN (aD A)) (aB A)))) with
          | false =>
            exact ⟨3, 0, A, hI, by decide, cn_mono (x2_insert a0 _ _ (x_insert9 hA n htn m (by omega) hq hs (fun j hj => (hsg j hj).1) (hT.ch htn hK) hok)) (fun o h1 q => ⟨q.1, thr2 hO q.2, fun z => absurd z (by decide)⟩), fun h1 j => cn_mono (by have z := k_insert9 (X := X) (hm.same j.2.2) hr hT hl60 hb2 n m htn (by omega) (by rw [e3]; exact hq) (by rw [e1]; exact hs) (by rw [e1, e2]; exact hok); exact z) (md0 hr hh hgl hgb (by decide))⟩
          | true =>
            exact ⟨0, nI (kN (cutK (tV (aT A)) (kL (tC (aT A) n) + smN (addN (aD A)) (aB A)) (insF (kS (tC (aT A) n)) (tlN (aD A) (aB A)) m (smN (addN (aD A)) (aB A))))), (chgT (aT A) n (cutK (tV (aT A)) (kL (tC (aT A) n) + smN (addN (aD A)) (aB A)) (insF (kS (tC (aT A) n)) (tlN (aD A) (aB A)) m (smN (addN (aD A)) (aB A)))), hisA A, (0, aD A)), hI.his (chgT_all hT htn hK hok).1 (by decide) (fun j hj => absurd hj (Nat.not_lt_zero j)), by decide, cn_mono (n_insert a0 _ _ (c_insert hA n htn m (by omega) hq hs (fun j hj => (hsg j hj).1) (hT.ch htn hK) hok) (nP hO)) (fun o h1 q => ⟨q.1, (nrm q.2).1, fun _ => (nrm q.2).2⟩), fun h1 j => cn_mono (by have z := k_insert (X := X) (hm.same j.2.2) hr hT hh iH i6 hl60 hb2 n m htn (by omega) (by rw [e3]; exact hq) (by rw [e1]; exact hs) (by rw [e1, e2]; exact hok); rw [e1, e2] at z; exact z) (md2 rfl (fun j hj => absurd hj (Nat.not_lt_zero j)))⟩
        · exact ⟨3, 0, A, hI, by decide, cn_mono (x2_insert a0 _ _ (x_insert4 hA n m htn (by omega) hq (by omega))) (fun o h1 q => ⟨q.1, thr1 hA hO q.2, fun z => absurd z (by decide)⟩), fun h1 j => cn_mono (k_insert4 (hm.same j.2.2) hr hT hl60 hb2 n m htn (by omega) (by rw [e3]; exact hq) (by rw [e1]; omega)) (md0 hr hh hgl hgb (by decide))⟩
set_option maxHeartbeats 4000000 in
set_option maxRecDepth 100000 in
theorem ag_takeOut {X : mX} (hR : RO X) {h : mH} {A : mAs} (J : JA h A) (t : Int32) (u : Int32) (w : Int32) : ∃ (k : Nat) (x : Int32) (A' : mAs), InvA A' ∧ k < 10 ∧ CnH X m_L_takeOut none none 1 6 [.ref 0, .int t, .int u, .int w, .ref 283] h (fun o h1 => o = .inl (some (.int (nI k))) ∧ JL h h1 A' ∧ (k = 0 → ∃ g, h1 283 = some (aL 1 g) ∧ g 0 = x.toInt64)) ∧ ∀ h1, JL h h1 A' → CnU X m_X7_takeOut [.ref 270, .int t, .int u, .int w] h1 (fun v h2 => ModP h1 h2 A' k x v) := by
  obtain ⟨hA, hI, ⟨k0, gz, gc, gs, gh, gk, gl, gb, gx, ⟨gr, gm, gp, gq, ge, gn, go, gu, gi, ga, gv, gw, hm⟩, hr, hh, hgl, hgb⟩, hO⟩ := J
  have a0 := hA.1
  obtain ⟨hT, iH, i6, i60, i200⟩ := id hI
  have hlk := hI.lk
  have hB := hlk.1
  have hl60 : gl ≤ 60 := by omega
  have hb2 : ∀ j, j < gl → gb j ≤ 200 := fun j hj => by rw [hgb j hj]; exact i200 j (by omega)
  have e1 : smN (addN gb) gl = smN (addN (aD A)) (aB A) := by rw [smA_congr hgb (Nat.le_refl gl), hgl]
  have e2 : tlN gb gl = tlN (aD A) (aB A) := by rw [tlN_congr hgb gl (Nat.le_refl gl), hgl]
  have e3 : whol gb gl = whol (aD A) (aB A) := by rw [whol_congr hgb, hgl]
  cases ht : inX t 0 4 with
  | false =>
    exact ⟨1, 0, A, hI, by decide, cn_mono (x0_takeOut a0 t u w (x_takeOut t u w ht)) (fun o h1 q => ⟨q.1, thr1 hA hO q.2, fun z => absurd z (by decide)⟩), fun h1 j => cn_mono (k_takeOut1 (hm.same j.2.2) hr hT t u w (pl_no ht)) (md0 hr hh hgl hgb (by decide))⟩
  | true =>
    obtain ⟨n, rfl, -, htn⟩ := inX_k ht
    have h7 := (hr.2.2 n htn).1
    cases hu : inX u 0 (kL (tC (aT A) n)) with
    | false =>
      exact ⟨1, 0, A, hI, by decide, cn_mono (x0_takeOut a0 _ u w (x_takeOut2 hA n u w htn hu)) (fun o h1 q => ⟨q.1, thr1 hA hO q.2, fun z => absurd z (by decide)⟩), fun h1 j => cn_mono (k_takeOut1 (hm.same j.2.2) hr hT _ u w (pl_k htn (by rw [h7]; exact hu))) (md0 hr hh hgl hgb (by decide))⟩
    | true =>
      obtain ⟨m, rfl, -, hun⟩ := inX_k hu
      cases hw : inX w 1 (kL (tC (aT A) n) - m + 1) with
      | false =>
        exact ⟨2, 0, A, hI, by decide, cn_mono (x1_takeOut a0 _ _ w (x_takeOut3 hA n m w htn hun hw)) (fun o h1 q => ⟨q.1, thr1 hA hO q.2, fun z => absurd z (by decide)⟩), fun h1 j => cn_mono (k_takeOut2 (hm.same j.2.2) hr hT n m w htn hun hw) (md0 hr hh hgl hgb (by decide))⟩
      | true =>
        obtain ⟨i, rfl, hw1, hw2⟩ := inX_k hw
        have hsg : ∀ j, j < kL (tC (aT A) n) - i → 1 ≤ dropF (kS (tC (aT A) n)) m i j ∧ dropF (kS (tC (aT A) n)) m i j ≤ 8 := fun j hj => by
          rw [dropF]
          by_cases z1 : j < m
          · rw [if_pos z1]; exact (hT.2.1 n htn).2.1 _ (by omega)
          · rw [if_neg z1]; exact (hT.2.1 n htn).2.1 _ (by omega)
        have h40 := (hT.2.1 n htn).1
        have hK : Tile (cutK (tV (aT A)) (kL (tC (aT A) n) - i) (dropF (kS (tC (aT A) n)) m i)) := cutK_tile hT.1 (by omega) hsg
        cases hok : okS (aT A) n (cutK (tV (aT A)) (kL (tC (aT A) n) - i) (dropF (kS (tC (aT A) n)) m i)) with
        | false =>
          exact ⟨3, 0, A, hI, by decide, cn_mono (x2_takeOut a0 _ _ _ (x_takeOut9 hA n htn m i hun hw1 (by omega) (fun j hj => (hsg j hj).1) (hT.ch htn hK) hok)) (fun o h1 q => ⟨q.1, thr2 hO q.2, fun z => absurd z (by decide)⟩), fun h1 j => cn_mono (k_takeOut9 (hm.same j.2.2) hr hT n m i htn hun hw1 (by omega) hok) (md0 hr hh hgl hgb (by decide))⟩
        | true =>
          exact ⟨0, nI (kN (cutK (tV (aT A)) (kL (tC (aT A) n) - i) (dropF (kS (tC (aT A) n)) m i))), (chgT (aT A) n (cutK (tV (aT A)) (kL (tC (aT A) n) - i) (dropF (kS (tC (aT A) n)) m i)), hisA A, (aB A, aD A)), hI.his (chgT_all hT htn hK hok).1 i60 i200, by decide, cn_mono (n_takeOut a0 _ _ _ (c_takeOut hA n htn m i hun hw1 (by omega) (fun j hj => (hsg j hj).1) (hT.ch htn hK) hok) (nP hO)) (fun o h1 q => ⟨q.1, (nrm q.2).1, fun _ => (nrm q.2).2⟩), fun h1 j => cn_mono (k_takeOut (hm.same j.2.2) hr hT hh iH i6 n m i htn hun hw1 (by omega) hok) (md2 hgl hgb)⟩
set_option maxHeartbeats 4000000 in
set_option maxRecDepth 100000 in
theorem ag_copy {X : mX} (hR : RO X) {h : mH} {A : mAs} (J : JA h A) (t : Int32) (u : Int32) : ∃ (k : Nat) (x : Int32) (A' : mAs), InvA A' ∧ k < 10 ∧ CnH X m_L_copy none none 1 6 [.ref 0, .int t, .int u, .ref 283] h (fun o h1 => o = .inl (some (.int (nI k))) ∧ JL h h1 A' ∧ (k = 0 → ∃ g, h1 283 = some (aL 1 g) ∧ g 0 = x.toInt64)) ∧ ∀ h1, JL h h1 A' → CnU X m_X7_copy [.ref 270, .int t, .int u] h1 (fun v h2 => ModP h1 h2 A' k x v) := by
  obtain ⟨hA, hI, ⟨k0, gz, gc, gs, gh, gk, gl, gb, gx, ⟨gr, gm, gp, gq, ge, gn, go, gu, gi, ga, gv, gw, hm⟩, hr, hh, hgl, hgb⟩, hO⟩ := J
  have a0 := hA.1
  obtain ⟨hT, iH, i6, i60, i200⟩ := id hI
  have hlk := hI.lk
  have hB := hlk.1
  have hl60 : gl ≤ 60 := by omega
  have hb2 : ∀ j, j < gl → gb j ≤ 200 := fun j hj => by rw [hgb j hj]; exact i200 j (by omega)
  have e1 : smN (addN gb) gl = smN (addN (aD A)) (aB A) := by rw [smA_congr hgb (Nat.le_refl gl), hgl]
  have e2 : tlN gb gl = tlN (aD A) (aB A) := by rw [tlN_congr hgb gl (Nat.le_refl gl), hgl]
  have e3 : whol gb gl = whol (aD A) (aB A) := by rw [whol_congr hgb, hgl]
  cases ht : inX t 0 4 with
  | false =>
    exact ⟨1, 0, A, hI, by decide, cn_mono (x0_copy a0 t u (x_copy t u ht)) (fun o h1 q => ⟨q.1, thr1 hA hO q.2, fun z => absurd z (by decide)⟩), fun h1 j => cn_mono (k_copy1 (hm.same j.2.2) t u ht) (md0 hr hh hgl hgb (by decide))⟩
  | true =>
    obtain ⟨n, rfl, -, htn⟩ := inX_k ht
    cases hu : inX u 0 4 with
    | false =>
      exact ⟨1, 0, A, hI, by decide, cn_mono (x0_copy a0 _ u (x_copy2 n u htn hu)) (fun o h1 q => ⟨q.1, thr1 hA hO q.2, fun z => absurd z (by decide)⟩), fun h1 j => cn_mono (k_copy2 (hm.same j.2.2) n u htn hu) (md0 hr hh hgl hgb (by decide))⟩
    | true =>
      obtain ⟨m, rfl, -, hun⟩ := inX_k hu
      have hK : Tile (cutK (tV (aT A)) (kL (tC (aT A) m)) (kS (tC (aT A) m))) := cutK_tile hT.1 (hT.2.1 m hun).1 (hT.2.1 m hun).2.1
      cases hok : okS (aT A) n (cutK (tV (aT A)) (kL (tC (aT A) m)) (kS (tC (aT A) m))) with
      | false =>
        exact ⟨2, 0, A, hI, by decide, cn_mono (x2_copy a0 _ _ (x_copy9 hA m hun (hlk.2.1 m hun) n htn (hT.ch htn hK) hok)) (fun o h1 q => ⟨q.1, thr2 hO q.2, fun z => absurd z (by decide)⟩), fun h1 j => cn_mono (k_copy9 (hm.same j.2.2) hr hT n m htn hun hok) (md0 hr hh hgl hgb (by decide))⟩
      | true =>
        exact ⟨0, nI (kN (cutK (tV (aT A)) (kL (tC (aT A) m)) (kS (tC (aT A) m)))), (chgT (aT A) n (cutK (tV (aT A)) (kL (tC (aT A) m)) (kS (tC (aT A) m))), hisA A, (aB A, aD A)), hI.his (chgT_all hT htn hK hok).1 i60 i200, by decide, cn_mono (n_copy a0 _ _ (c_copy hA m hun (hlk.2.1 m hun) n htn (hT.ch htn hK) hok) (nP hO)) (fun o h1 q => ⟨q.1, (nrm q.2).1, fun _ => (nrm q.2).2⟩), fun h1 j => cn_mono (k_copy (hm.same j.2.2) hr hT hh iH i6 n m htn hun hok) (md2 hgl hgb)⟩
set_option maxHeartbeats 4000000 in
set_option maxRecDepth 100000 in
theorem ag_rotate {X : mX} (hR : RO X) {h : mH} {A : mAs} (J : JA h A) (t : Int32) (u : Int32) : ∃ (k : Nat) (x : Int32) (A' : mAs), InvA A' ∧ k < 10 ∧ CnH X m_L_rotate none none 1 6 [.ref 0, .int t, .int u, .ref 283] h (fun o h1 => o = .inl (some (.int (nI k))) ∧ JL h h1 A' ∧ (k = 0 → ∃ g, h1 283 = some (aL 1 g) ∧ g 0 = x.toInt64)) ∧ ∀ h1, JL h h1 A' → CnU X m_X7_rotate [.ref 270, .int t, .int u] h1 (fun v h2 => ModP h1 h2 A' k x v) := by
  obtain ⟨hA, hI, ⟨k0, gz, gc, gs, gh, gk, gl, gb, gx, ⟨gr, gm, gp, gq, ge, gn, go, gu, gi, ga, gv, gw, hm⟩, hr, hh, hgl, hgb⟩, hO⟩ := J
  have a0 := hA.1
  obtain ⟨hT, iH, i6, i60, i200⟩ := id hI
  have hlk := hI.lk
  have hB := hlk.1
  have hl60 : gl ≤ 60 := by omega
  have hb2 : ∀ j, j < gl → gb j ≤ 200 := fun j hj => by rw [hgb j hj]; exact i200 j (by omega)
  have e1 : smN (addN gb) gl = smN (addN (aD A)) (aB A) := by rw [smA_congr hgb (Nat.le_refl gl), hgl]
  have e2 : tlN gb gl = tlN (aD A) (aB A) := by rw [tlN_congr hgb gl (Nat.le_refl gl), hgl]
  have e3 : whol gb gl = whol (aD A) (aB A) := by rw [whol_congr hgb, hgl]
  cases ht : inX t 0 4 with
  | false =>
    exact ⟨1, 0, A, hI, by decide, cn_mono (x0_rotate a0 t u (x_rotate t u ht)) (fun o h1 q => ⟨q.1, thr1 hA hO q.2, fun z => absurd z (by decide)⟩), fun h1 j => cn_mono (k_rotate1 (hm.same j.2.2) t u ht) (md0 hr hh hgl hgb (by decide))⟩
  | true =>
    obtain ⟨n, rfl, -, htn⟩ := inX_k ht
    cases hu : inX u 1 (kL (tC (aT A) n) + 1) with
    | false =>
      exact ⟨2, 0, A, hI, by decide, cn_mono (x1_rotate a0 _ u (x_rotate2 hA n u htn hu)) (fun o h1 q => ⟨q.1, thr1 hA hO q.2, fun z => absurd z (by decide)⟩), fun h1 j => cn_mono (k_rotate2 (hm.same j.2.2) hr hT n u htn hu) (md0 hr hh hgl hgb (by decide))⟩
    | true =>
      obtain ⟨m, rfl, hu1, hu2⟩ := inX_k hu
      have hsg : ∀ j, j < kL (tC (aT A) n) → 1 ≤ rotF (kS (tC (aT A) n)) (kL (tC (aT A) n)) m j ∧ rotF (kS (tC (aT A) n)) (kL (tC (aT A) n)) m j ≤ 8 := fun j hj => by
        rw [rotF]
        by_cases z1 : j < kL (tC (aT A) n) - m
        · rw [if_pos z1]; exact (hT.2.1 n htn).2.1 _ (by omega)
        · rw [if_neg z1]; exact (hT.2.1 n htn).2.1 _ (by omega)
      have hK : Tile (cutK (tV (aT A)) (kL (tC (aT A) n)) (rotF (kS (tC (aT A) n)) (kL (tC (aT A) n)) m)) := cutK_tile hT.1 (hT.2.1 n htn).1 hsg
      cases hok : okS (aT A) n (cutK (tV (aT A)) (kL (tC (aT A) n)) (rotF (kS (tC (aT A) n)) (kL (tC (aT A) n)) m)) with
      | false =>
        exact ⟨3, 0, A, hI, by decide, cn_mono (x2_rotate a0 _ _ (x_rotate9 hA n htn m hu1 (by omega) (fun j hj => (hsg j hj).1) (hT.ch htn hK) hok)) (fun o h1 q => ⟨q.1, thr2 hO q.2, fun z => absurd z (by decide)⟩), fun h1 j => cn_mono (k_rotate9 (hm.same j.2.2) hr hT n m htn hu1 (by omega) hok) (md0 hr hh hgl hgb (by decide))⟩
      | true =>
        exact ⟨0, nI (kN (cutK (tV (aT A)) (kL (tC (aT A) n)) (rotF (kS (tC (aT A) n)) (kL (tC (aT A) n)) m))), (chgT (aT A) n (cutK (tV (aT A)) (kL (tC (aT A) n)) (rotF (kS (tC (aT A) n)) (kL (tC (aT A) n)) m)), hisA A, (aB A, aD A)), hI.his (chgT_all hT htn hK hok).1 i60 i200, by decide, cn_mono (n_rotate a0 _ _ (c_rotate hA n htn m hu1 (by omega) (fun j hj => (hsg j hj).1) (hT.ch htn hK) hok) (nP hO)) (fun o h1 q => ⟨q.1, (nrm q.2).1, fun _ => (nrm q.2).2⟩), fun h1 j => cn_mono (k_rotate (hm.same j.2.2) hr hT hh iH i6 n m htn hu1 (by omega) hok) (md2 hgl hgb)⟩
set_option maxHeartbeats 4000000 in
set_option maxRecDepth 100000 in
theorem ag_drop {X : mX} (hR : RO X) {h : mH} {A : mAs} (J : JA h A) (t : Int32) : ∃ (k : Nat) (x : Int32) (A' : mAs), InvA A' ∧ k < 10 ∧ CnH X m_L_drop none none 1 6 [.ref 0, .int t, .ref 283] h (fun o h1 => o = .inl (some (.int (nI k))) ∧ JL h h1 A' ∧ (k = 0 → ∃ g, h1 283 = some (aL 1 g) ∧ g 0 = x.toInt64)) ∧ ∀ h1, JL h h1 A' → CnU X m_X7_drop [.ref 270, .int t] h1 (fun v h2 => ModP h1 h2 A' k x v) := by
  obtain ⟨hA, hI, ⟨k0, gz, gc, gs, gh, gk, gl, gb, gx, ⟨gr, gm, gp, gq, ge, gn, go, gu, gi, ga, gv, gw, hm⟩, hr, hh, hgl, hgb⟩, hO⟩ := J
  have a0 := hA.1
  obtain ⟨hT, iH, i6, i60, i200⟩ := id hI
  have hlk := hI.lk
  have hB := hlk.1
  have hl60 : gl ≤ 60 := by omega
  have hb2 : ∀ j, j < gl → gb j ≤ 200 := fun j hj => by rw [hgb j hj]; exact i200 j (by omega)
  have e1 : smN (addN gb) gl = smN (addN (aD A)) (aB A) := by rw [smA_congr hgb (Nat.le_refl gl), hgl]
  have e2 : tlN gb gl = tlN (aD A) (aB A) := by rw [tlN_congr hgb gl (Nat.le_refl gl), hgl]
  have e3 : whol gb gl = whol (aD A) (aB A) := by rw [whol_congr hgb, hgl]
  cases ht : inX t 0 4 with
  | false =>
    exact ⟨1, 0, A, hI, by decide, cn_mono (x0_drop a0 t (x_drop t ht)) (fun o h1 q => ⟨q.1, thr1 hA hO q.2, fun z => absurd z (by decide)⟩), fun h1 j => cn_mono (k_drop1 (hm.same j.2.2) t ht) (md0 hr hh hgl hgb (by decide))⟩
  | true =>
    obtain ⟨n, rfl, -, htn⟩ := inX_k ht
    exact ⟨0, nI (kL (tC (aT A) n)), (clrT (aT A) n, hisA A, (aB A, aD A)), hI.his (clrT_all hT htn) i60 i200, by decide, cn_mono (n_drop a0 _ (c_drop hA n htn (hT.los htn)) (nP hO)) (fun o h1 q => ⟨q.1, (nrm q.2).1, fun _ => (nrm q.2).2⟩), fun h1 j => cn_mono (k_drop (hm.same j.2.2) hr hT hh iH i6 n htn) (fun o h2 q => by obtain ⟨v, e, q1, ⟨z, s, H, E, q2, q4, q5⟩, q3⟩ := q; exact md2 hgl hgb o h2 ⟨v, e, q1, ⟨_, _, _, _, _, q2, q4, q5⟩, q3⟩)⟩
theorem rel_set {gz : Nat → Nat} {gc : Nat → Int64} {T : mSt} (hr : RelT gz gc T) (hT : InvT T) {k x : Nat} (hk : k < 5) : RelT (upN gz k x) gc (setT T k x) := by
  refine ⟨fun i hi => ?_, hr.2.1.congr (fun i hi => upN_n (by omega)) (fun _ _ => rfl), fun t ht => (hr.2.2 t ht).congr (hT.2.1 t ht) (fun i hi => upN_n (by omega)) (fun _ _ => rfl)⟩
  show upN gz k x i = upN (tV T) k x i
  by_cases e : i = k
  · rw [e, upN_s, upN_s]
  · rw [upN_n e, upN_n e]; exact hr.1 i hi
set_option maxHeartbeats 4000000 in
set_option maxRecDepth 100000 in
theorem ag_set {X : mX} (hR : RO X) {h : mH} {A : mAs} (J : JA h A) (t : Int32) (u : Int32) : ∃ (k : Nat) (x : Int32) (A' : mAs), InvA A' ∧ k < 10 ∧ CnH X m_L_set none none 1 6 [.ref 0, .int t, .int u, .ref 283] h (fun o h1 => o = .inl (some (.int (nI k))) ∧ JL h h1 A' ∧ (k = 0 → ∃ g, h1 283 = some (aL 1 g) ∧ g 0 = x.toInt64)) ∧ ∀ h1, JL h h1 A' → CnU X m_X7_set [.ref 270, .int t, .int u] h1 (fun v h2 => ModP h1 h2 A' k x v) := by
  obtain ⟨hA, hI, ⟨k0, gz, gc, gs, gh, gk, gl, gb, gx, ⟨gr, gm, gp, gq, ge, gn, go, gu, gi, ga, gv, gw, hm⟩, hr, hh, hgl, hgb⟩, hO⟩ := J
  have a0 := hA.1
  obtain ⟨hT, iH, i6, i60, i200⟩ := id hI
  have hlk := hI.lk
  have hB := hlk.1
  have hl60 : gl ≤ 60 := by omega
  have hb2 : ∀ j, j < gl → gb j ≤ 200 := fun j hj => by rw [hgb j hj]; exact i200 j (by omega)
  have e1 : smN (addN gb) gl = smN (addN (aD A)) (aB A) := by rw [smA_congr hgb (Nat.le_refl gl), hgl]
  have e2 : tlN gb gl = tlN (aD A) (aB A) := by rw [tlN_congr hgb gl (Nat.le_refl gl), hgl]
  have e3 : whol gb gl = whol (aD A) (aB A) := by rw [whol_congr hgb, hgl]
  cases ht : inX t 0 5 with
  | false =>
    exact ⟨1, 0, A, hI, by decide, cn_mono (x0_set a0 t u (x_set t u ht)) (fun o h1 q => ⟨q.1, thr1 hA hO q.2, fun z => absurd z (by decide)⟩), fun h1 j => cn_mono (k_set1 (hm.same j.2.2) t u ht) (md0 hr hh hgl hgb (by decide))⟩
  | true =>
    obtain ⟨n, rfl, -, htn⟩ := inX_k ht
    cases hu : inX u (lowF n) (higF n + 1) with
    | false =>
      exact ⟨2, 0, A, hI, by decide, cn_mono (x1_set a0 _ u (x_set2 hR n u htn hu)) (fun o h1 q => ⟨q.1, thr1 hA hO q.2, fun z => absurd z (by decide)⟩), fun h1 j => cn_mono (k_set2 (hm.same j.2.2) n u htn hu) (md0 hr hh hgl hgb (by decide))⟩
    | true =>
      obtain ⟨m, rfl, hu1, hu2⟩ := inX_k hu
      exact ⟨0, nI (tV (aT A) n), (setT (aT A) n m, hisA A, (aB A, aD A)), hI.his (setT_all hT htn hu1 (by omega)) i60 i200, by decide, cn_mono (n_set a0 _ _ (c_set hA hR n m htn hu1 (by omega)) (nP hO)) (fun o h1 q => ⟨q.1, (nrm q.2).1, fun _ => (nrm q.2).2⟩), fun h1 j => cn_mono (k_set (hm.same j.2.2) hr hT hh iH i6 n m htn hu1 (by omega)) (fun o h2 q => by obtain ⟨v, e, q1, ⟨s, H, E, q2, q5⟩, q3⟩ := q; exact md2 hgl hgb o h2 ⟨v, e, q1, ⟨_, _, _, _, _, q2, rel_set hr hT htn, q5⟩, q3⟩)⟩
set_option maxHeartbeats 4000000 in
set_option maxRecDepth 100000 in
theorem ag_append {X : mX} (hR : RO X) {h : mH} {A : mAs} (J : JA h A) (t : Int32) : ∃ (k : Nat) (x : Int32) (A' : mAs), InvA A' ∧ k < 10 ∧ CnH X m_L_append none none 1 6 [.ref 0, .int t, .ref 283] h (fun o h1 => o = .inl (some (.int (nI k))) ∧ JL h h1 A' ∧ (k = 0 → ∃ g, h1 283 = some (aL 1 g) ∧ g 0 = x.toInt64)) ∧ ∀ h1, JL h h1 A' → CnU X m_X7_append [.ref 270, .int t] h1 (fun v h2 => ModP h1 h2 A' k x v) := by
  obtain ⟨hA, hI, ⟨k0, gz, gc, gs, gh, gk, gl, gb, gx, ⟨gr, gm, gp, gq, ge, gn, go, gu, gi, ga, gv, gw, hm⟩, hr, hh, hgl, hgb⟩, hO⟩ := J
  have a0 := hA.1
  obtain ⟨hT, iH, i6, i60, i200⟩ := id hI
  have hlk := hI.lk
  have hB := hlk.1
  have hl60 : gl ≤ 60 := by omega
  have hb2 : ∀ j, j < gl → gb j ≤ 200 := fun j hj => by rw [hgb j hj]; exact i200 j (by omega)
  have e1 : smN (addN gb) gl = smN (addN (aD A)) (aB A) := by rw [smA_congr hgb (Nat.le_refl gl), hgl]
  have e2 : tlN gb gl = tlN (aD A) (aB A) := by rw [tlN_congr hgb gl (Nat.le_refl gl), hgl]
  have e3 : whol gb gl = whol (aD A) (aB A) := by rw [whol_congr hgb, hgl]
  cases ht : inX t 33 127 with
  | false =>
    exact ⟨1, 0, A, hI, by decide, cn_mono (x1_append a0 t (x_append t ht)) (fun o h1 q => ⟨q.1, thr1 hA hO q.2, fun z => absurd z (by decide)⟩), fun h1 j => cn_mono (k_appendN (hm.same j.2.2) t ht) (fun o h2 q => by obtain ⟨v, e, q1, q2, q3⟩ := q; exact md0 hr hh hgl hgb (by decide) o h2 ⟨v, e, q1, q2.ms, q3⟩)⟩
  | true =>
    obtain ⟨n, rfl, ht1, ht2⟩ := inX_k ht
    by_cases hb : aB A < 60
    · have hgl60 : gl < 60 := by omega
      exact ⟨0, nI (aB A + 1), (aT A, (aN A, aH A), (aB A + 1, upN (aD A) (aB A) n)), ⟨hT, iH, i6, by show aB A + 1 ≤ 60; omega, fun j hj => by
        have hj' : j < aB A + 1 := hj
        show upN (aD A) (aB A) n j ≤ 200
        by_cases e : j = aB A
        · rw [e, upN_s]; omega
        · rw [upN_n e]; exact i200 j (by omega)⟩, by decide, cn_mono (n_append a0 _ (c_append hA n ht1 ht2 hb) (nP hO)) (fun o h1 q => ⟨q.1, (nrm q.2).1, fun _ => (nrm q.2).2⟩), fun h1 j => cn_mono (k_append (hm.same j.2.2) n ht1 ht2 hgl60) (fun o h2 q => by
        obtain ⟨v, e, q1, q2, q3⟩ := q
        refine ⟨v, e, ⟨_, q1, fun _ => by rw [hgl]⟩, ⟨_, _, _, _, _, _, _, _, q2.ms, hr, hh, by rw [hgl], fun j hj => ?_⟩, q3⟩
        show upN gb gl n j = upN (aD A) (aB A) n j
        rw [hgl]
        by_cases e : j = aB A
        · rw [e, upN_s, upN_s]
        · rw [upN_n e, upN_n e]; exact hgb j (by omega))⟩
    · exact ⟨2, 0, A, hI, by decide, cn_mono (x2_append a0 _ (x_append2 hA n ht1 ht2 (by omega))) (fun o h1 q => ⟨q.1, thr1 hA hO q.2, fun z => absurd z (by decide)⟩), fun h1 j => cn_mono (k_appendF (hm.same j.2.2) n ht1 ht2 (by omega)) (fun o h2 q => by obtain ⟨v, e, q1, q2, q3⟩ := q; exact md0 hr hh hgl hgb (by decide) o h2 ⟨v, e, q1, q2.ms, q3⟩)⟩
set_option maxHeartbeats 4000000 in
set_option maxRecDepth 100000 in
theorem ag_undo {X : mX} (hR : RO X) {h : mH} {A : mAs} (J : JA h A)  : ∃ (k : Nat) (x : Int32) (A' : mAs), InvA A' ∧ k < 10 ∧ CnH X m_L_undo none none 1 6 [.ref 0, .ref 283] h (fun o h1 => o = .inl (some (.int (nI k))) ∧ JL h h1 A' ∧ (k = 0 → ∃ g, h1 283 = some (aL 1 g) ∧ g 0 = x.toInt64)) ∧ ∀ h1, JL h h1 A' → CnU X m_X7_undo [.ref 270] h1 (fun v h2 => ModP h1 h2 A' k x v) := by
  obtain ⟨hA, hI, ⟨k0, gz, gc, gs, gh, gk, gl, gb, gx, ⟨gr, gm, gp, gq, ge, gn, go, gu, gi, ga, gv, gw, hm⟩, hr, hh, hgl, hgb⟩, hO⟩ := J
  have a0 := hA.1
  obtain ⟨hT, iH, i6, i60, i200⟩ := id hI
  have hlk := hI.lk
  have hB := hlk.1
  have hl60 : gl ≤ 60 := by omega
  have hb2 : ∀ j, j < gl → gb j ≤ 200 := fun j hj => by rw [hgb j hj]; exact i200 j (by omega)
  have e1 : smN (addN gb) gl = smN (addN (aD A)) (aB A) := by rw [smA_congr hgb (Nat.le_refl gl), hgl]
  have e2 : tlN gb gl = tlN (aD A) (aB A) := by rw [tlN_congr hgb gl (Nat.le_refl gl), hgl]
  have e3 : whol gb gl = whol (aD A) (aB A) := by rw [whol_congr hgb, hgl]
  by_cases hn : aN A = 0
  · exact ⟨1, 0, A, hI, by decide, cn_mono (x2_undo a0 (x_undo hA hn)) (fun o h1 q => ⟨q.1, thr1 hA hO q.2, fun z => absurd z (by decide)⟩), fun h1 j => cn_mono (k_undo1 (hm.same j.2.2) (by rw [hh.1]; exact hn)) (md0 hr hh hgl hgb (by decide))⟩
  · obtain ⟨n, hn1⟩ : ∃ n, aN A = n + 1 := ⟨aN A - 1, by omega⟩
    have hh' : HisR gs gh gk (n + 1) (aH A) := by rw [← hn1]; exact hh
    exact ⟨0, nI n, (aH A n, (n, aH A), (aB A, aD A)), ⟨iH n (by omega), fun i hi => iH i (by have : i < n := hi; omega), by show n ≤ 6; omega, i60, i200⟩, by decide, cn_mono (n_undo a0 (c_undo hA n hn1) (nP hO)) (fun o h1 q => ⟨q.1, (nrm q.2).1, fun _ => (nrm q.2).2⟩), fun h1 j => cn_mono (k_undo (hm.same j.2.2) hh' (fun i hi => iH i (by omega)) (by omega)) (fun o h2 q => by
      obtain ⟨v, e, q1, ⟨Z, C, q2, q4⟩, q3⟩ := q
      exact ⟨v, e, ⟨_, q1, fun _ => rfl⟩, ⟨_, _, _, _, _, _, _, _, q2, q4, ⟨rfl, fun i hi => hh.2 i (by have : i < n := hi; omega)⟩, hgl, hgb⟩, q3⟩)⟩
set_option maxHeartbeats 4000000 in
set_option maxRecDepth 100000 in
theorem ag_sweep {X : mX} (hR : RO X) {h : mH} {A : mAs} (J : JA h A) : ∃ (x : Int32) (A' : mAs), InvA A' ∧ CnU X m_X6_sweep [.ref 0] h (fun v h1 => v = some (.int x) ∧ ClsN h1 A' ∧ Out h h1 0 270) ∧ ∀ h1, (ClsN h1 A' ∧ Out h h1 0 270) → CnU X m_X7_sweep [.ref 270] h1 (fun v h2 => v = some (.int x) ∧ MdA h2 A' 0 ∧ Out h1 h2 270 13) := by
  obtain ⟨hA, hI, ⟨k0, gz, gc, gs, gh, gk, gl, gb, gx, ⟨gr, gm, gp, gq, ge, gn, go, gu, gi, ga, gv, gw, hm⟩, hr, hh, hgl, hgb⟩, hO⟩ := J
  have a0 := hA.1
  obtain ⟨hT, iH, i6, i60, i200⟩ := id hI
  have hlk := hI.lk
  have hB := hlk.1
  have hl60 : gl ≤ 60 := by omega
  have hb2 : ∀ j, j < gl → gb j ≤ 200 := fun j hj => by rw [hgb j hj]; exact i200 j (by omega)
  have e1 : smN (addN gb) gl = smN (addN (aD A)) (aB A) := by rw [smA_congr hgb (Nat.le_refl gl), hgl]
  have e2 : tlN gb gl = tlN (aD A) (aB A) := by rw [tlN_congr hgb gl (Nat.le_refl gl), hgl]
  have e3 : whol gb gl = whol (aD A) (aB A) := by rw [whol_congr hgb, hgl]
  exact ⟨_, (swpT (aT A), hisA A, (aB A, aD A)), hI.his (swpT_all hT).1 i60 i200, c_sweep hA hB, fun h1 j => cn_mono (k_sweep (hm.same (fun q z1 z2 => j.2 q (by omega))) hr hT hh iH i6) (fun o h2 q => by obtain ⟨v, e, q1, ⟨z, c, s, H, E, q2, q4, q5⟩, q3⟩ := q; exact ⟨v, e, q1, ⟨_, _, _, _, _, _, _, _, q2, q4, q5, hgl, hgb⟩, q3⟩)⟩
set_option maxHeartbeats 4000000 in
set_option maxRecDepth 100000 in
theorem ag_clearBuffer {X : mX} (hR : RO X) {h : mH} {A : mAs} (J : JA h A) : ∃ (x : Int32) (A' : mAs), InvA A' ∧ CnU X m_X6_clearBuffer [.ref 0] h (fun v h1 => v = some (.int x) ∧ ClsN h1 A' ∧ Out h h1 0 270) ∧ ∀ h1, (ClsN h1 A' ∧ Out h h1 0 270) → CnU X m_X7_clearBuffer [.ref 270] h1 (fun v h2 => v = some (.int x) ∧ MdA h2 A' 0 ∧ Out h1 h2 270 13) := by
  obtain ⟨hA, hI, ⟨k0, gz, gc, gs, gh, gk, gl, gb, gx, ⟨gr, gm, gp, gq, ge, gn, go, gu, gi, ga, gv, gw, hm⟩, hr, hh, hgl, hgb⟩, hO⟩ := J
  have a0 := hA.1
  obtain ⟨hT, iH, i6, i60, i200⟩ := id hI
  have hlk := hI.lk
  have hB := hlk.1
  have hl60 : gl ≤ 60 := by omega
  have hb2 : ∀ j, j < gl → gb j ≤ 200 := fun j hj => by rw [hgb j hj]; exact i200 j (by omega)
  have e1 : smN (addN gb) gl = smN (addN (aD A)) (aB A) := by rw [smA_congr hgb (Nat.le_refl gl), hgl]
  have e2 : tlN gb gl = tlN (aD A) (aB A) := by rw [tlN_congr hgb gl (Nat.le_refl gl), hgl]
  have e3 : whol gb gl = whol (aD A) (aB A) := by rw [whol_congr hgb, hgl]
  exact ⟨_, (aT A, (aN A, aH A), (0, aD A)), ⟨hT, iH, i6, Nat.zero_le _, fun j hj => absurd hj (Nat.not_lt_zero j)⟩, c_clearBuffer hA, fun h1 j => cn_mono (k_clearBuffer (hm.same (fun q z1 z2 => j.2 q (by omega)))) (fun o h2 q => by obtain ⟨v, e, q1, q2, q3⟩ := q; exact ⟨v, e, by rw [← hgl]; exact q1, ⟨_, _, _, _, _, _, _, _, q2.ms, hr, hh, rfl, fun j hj => absurd hj (Nat.not_lt_zero j)⟩, q3⟩)⟩
set_option maxHeartbeats 4000000 in
set_option maxRecDepth 100000 in
theorem ag_firstError {X : mX} (hR : RO X) {h : mH} {A : mAs} (J : JA h A) : ∃ (x : Int32) (A' : mAs), InvA A' ∧ CnU X m_X6_firstError [.ref 0] h (fun v h1 => v = some (.int x) ∧ ClsN h1 A' ∧ Out h h1 0 270) ∧ ∀ h1, (ClsN h1 A' ∧ Out h h1 0 270) → CnU X m_X7_firstError [.ref 270] h1 (fun v h2 => v = some (.int x) ∧ MdA h2 A' 0 ∧ Out h1 h2 270 13) := by
  obtain ⟨hA, hI, ⟨k0, gz, gc, gs, gh, gk, gl, gb, gx, ⟨gr, gm, gp, gq, ge, gn, go, gu, gi, ga, gv, gw, hm⟩, hr, hh, hgl, hgb⟩, hO⟩ := J
  have a0 := hA.1
  obtain ⟨hT, iH, i6, i60, i200⟩ := id hI
  have hlk := hI.lk
  have hB := hlk.1
  have hl60 : gl ≤ 60 := by omega
  have hb2 : ∀ j, j < gl → gb j ≤ 200 := fun j hj => by rw [hgb j hj]; exact i200 j (by omega)
  have e1 : smN (addN gb) gl = smN (addN (aD A)) (aB A) := by rw [smA_congr hgb (Nat.le_refl gl), hgl]
  have e2 : tlN gb gl = tlN (aD A) (aB A) := by rw [tlN_congr hgb gl (Nat.le_refl gl), hgl]
  have e3 : whol gb gl = whol (aD A) (aB A) := by rw [whol_congr hgb, hgl]
  exact ⟨_, A, hI, cnP_J hA (c_firstError hA), fun h1 j => cn_mono (k_firstError (hm.same (fun q z1 z2 => j.2 q (by omega))) hl60 hb2) (fun o h2 q => by obtain ⟨v, e, q1, ⟨f, op, q2⟩, q3⟩ := q; exact ⟨v, e, by rw [show errI (aD A) (aB A) = errI gb gl from by rw [errI_congr hgb, hgl]]; exact q1, ⟨_, _, _, _, _, _, _, _, q2.ms, hr, hh, hgl, hgb⟩, q3⟩)⟩
set_option maxHeartbeats 4000000 in
set_option maxRecDepth 100000 in
theorem ag_bestDivisor {X : mX} (hR : RO X) {h : mH} {A : mAs} (J : JA h A) : ∃ (x : Int32) (A' : mAs), InvA A' ∧ CnU X m_X6_bestDivisor [.ref 0] h (fun v h1 => v = some (.int x) ∧ ClsN h1 A' ∧ Out h h1 0 270) ∧ ∀ h1, (ClsN h1 A' ∧ Out h h1 0 270) → CnU X m_X7_bestDivisor [.ref 270] h1 (fun v h2 => v = some (.int x) ∧ MdA h2 A' 0 ∧ Out h1 h2 270 13) := by
  obtain ⟨hA, hI, ⟨k0, gz, gc, gs, gh, gk, gl, gb, gx, ⟨gr, gm, gp, gq, ge, gn, go, gu, gi, ga, gv, gw, hm⟩, hr, hh, hgl, hgb⟩, hO⟩ := J
  have a0 := hA.1
  obtain ⟨hT, iH, i6, i60, i200⟩ := id hI
  have hlk := hI.lk
  have hB := hlk.1
  have hl60 : gl ≤ 60 := by omega
  have hb2 : ∀ j, j < gl → gb j ≤ 200 := fun j hj => by rw [hgb j hj]; exact i200 j (by omega)
  have e1 : smN (addN gb) gl = smN (addN (aD A)) (aB A) := by rw [smA_congr hgb (Nat.le_refl gl), hgl]
  have e2 : tlN gb gl = tlN (aD A) (aB A) := by rw [tlN_congr hgb gl (Nat.le_refl gl), hgl]
  have e3 : whol gb gl = whol (aD A) (aB A) := by rw [whol_congr hgb, hgl]
  exact ⟨_, A, hI, c_bestDivisor hA hlk.2.1, fun h1 j => cn_mono (k_bestDivisor (hm.same (fun q z1 z2 => j.2 q (by omega))) hr hT) (fun o h2 q => by obtain ⟨v, e, q1, q2, q3⟩ := q; exact ⟨v, e, q1, ⟨_, _, _, _, _, _, _, _, q2, hr, hh, hgl, hgb⟩, q3⟩)⟩
set_option maxHeartbeats 4000000 in
set_option maxRecDepth 100000 in
theorem ag_savedShare {X : mX} (hR : RO X) {h : mH} {A : mAs} (J : JA h A) : ∃ (x : UInt64), FP.dcmp x x = some .eq ∧ CnP X m_X6_savedShare [.ref 0] h (some (.double x)) ∧ CnU X m_X7_savedShare [.ref 270] h (fun v h2 => v = some (.double x) ∧ MdA h2 A 0 ∧ Out h h2 270 13) := by
  obtain ⟨hA, hI, ⟨k0, gz, gc, gs, gh, gk, gl, gb, gx, ⟨gr, gm, gp, gq, ge, gn, go, gu, gi, ga, gv, gw, hm⟩, hr, hh, hgl, hgb⟩, hO⟩ := J
  have a0 := hA.1
  obtain ⟨hT, iH, i6, i60, i200⟩ := id hI
  have hlk := hI.lk
  have hB := hlk.1
  have hl60 : gl ≤ 60 := by omega
  have hb2 : ∀ j, j < gl → gb j ≤ 200 := fun j hj => by rw [hgb j hj]; exact i200 j (by omega)
  have e1 : smN (addN gb) gl = smN (addN (aD A)) (aB A) := by rw [smA_congr hgb (Nat.le_refl gl), hgl]
  have e2 : tlN gb gl = tlN (aD A) (aB A) := by rw [tlN_congr hgb gl (Nat.le_refl gl), hgl]
  have e3 : whol gb gl = whol (aD A) (aB A) := by rw [whol_congr hgb, hgl]
  exact ⟨savD (aT A), hT.se, c_savedShare hA hB hT.sh, cn_mono (k_savedShare hm hr hT hT.sh) (fun o h2 q => by obtain ⟨v, e, q1, q2, q3⟩ := q; exact ⟨v, e, q1, ⟨_, _, _, _, _, _, _, _, q2, hr, hh, hgl, hgb⟩, q3⟩)⟩
set_option maxHeartbeats 4000000 in
set_option maxRecDepth 100000 in
theorem ag_digest {X : mX} (hR : RO X) {h : mH} {A : mAs} (J : JA h A) : ∃ (x : Int64) (A' : mAs), InvA A' ∧ CnU X m_X6_digest [.ref 0] h (fun v h1 => v = some (.long x) ∧ ClsN h1 A' ∧ Out h h1 0 270) ∧ ∀ h1, (ClsN h1 A' ∧ Out h h1 0 270) → CnU X m_X7_digest [.ref 270] h1 (fun v h2 => v = some (.long x) ∧ MdA h2 A' 0 ∧ Out h1 h2 270 13) := by
  obtain ⟨hA, hI, ⟨k0, gz, gc, gs, gh, gk, gl, gb, gx, ⟨gr, gm, gp, gq, ge, gn, go, gu, gi, ga, gv, gw, hm⟩, hr, hh, hgl, hgb⟩, hO⟩ := J
  have a0 := hA.1
  obtain ⟨hT, iH, i6, i60, i200⟩ := id hI
  have hlk := hI.lk
  have hB := hlk.1
  have hl60 : gl ≤ 60 := by omega
  have hb2 : ∀ j, j < gl → gb j ≤ 200 := fun j hj => by rw [hgb j hj]; exact i200 j (by omega)
  have e1 : smN (addN gb) gl = smN (addN (aD A)) (aB A) := by rw [smA_congr hgb (Nat.le_refl gl), hgl]
  have e2 : tlN gb gl = tlN (aD A) (aB A) := by rw [tlN_congr hgb gl (Nat.le_refl gl), hgl]
  have e3 : whol gb gl = whol (aD A) (aB A) := by rw [whol_congr hgb, hgl]
  exact ⟨_, A, hI, c_digest hA hR hlk, fun h1 j => cn_mono (k_digest (hm.same (fun q z1 z2 => j.2 q (by omega))) hr hT hh.1 hgl hgb hl60 hb2 hT.sh hT.se) (fun o h2 q => by obtain ⟨v, e, q1, ⟨x, q2⟩, q3⟩ := q; exact ⟨v, e, q1, ⟨_, _, _, _, _, _, _, _, q2, hr, hh, hgl, hgb⟩, q3⟩)⟩
