theorem LwN.s0 {h : mH} {V : Nat} {gn gs ge gl : Nat → Nat} {gc : Nat → Int64} {gq go gv : Nat → Nat} (y : LwN h V gn gs ge gl gc gq go gv) (hV : 277 ≤ V) (x : Nat → Nat) : LwN (mset h 270 (aI 12 (nf x))) V x gs ge gl gc gq go gv := by
  obtain ⟨k0, k1, k2, k3, k4, k5, k6, k7⟩ := y
  exact ⟨mset_s _ _ _, (mset_n (by omega)).trans k1, (mset_n (by omega)).trans k2, (mset_n (by omega)).trans k3, (mset_n (by omega)).trans k4, (mset_n (by omega)).trans k5, (mset_n (by omega)).trans k6, (mset_n (by omega)).trans k7⟩
theorem LwN.s1 {h : mH} {V : Nat} {gn gs ge gl : Nat → Nat} {gc : Nat → Int64} {gq go gv : Nat → Nat} (y : LwN h V gn gs ge gl gc gq go gv) (hV : 277 ≤ V) (x : Nat → Nat) : LwN (mset h 271 (aI 64 (nf x))) V gn x ge gl gc gq go gv := by
  obtain ⟨k0, k1, k2, k3, k4, k5, k6, k7⟩ := y
  exact ⟨(mset_n (by omega)).trans k0, mset_s _ _ _, (mset_n (by omega)).trans k2, (mset_n (by omega)).trans k3, (mset_n (by omega)).trans k4, (mset_n (by omega)).trans k5, (mset_n (by omega)).trans k6, (mset_n (by omega)).trans k7⟩
theorem LwN.s2 {h : mH} {V : Nat} {gn gs ge gl : Nat → Nat} {gc : Nat → Int64} {gq go gv : Nat → Nat} (y : LwN h V gn gs ge gl gc gq go gv) (hV : 277 ≤ V) (x : Nat → Nat) : LwN (mset h 272 (aI 64 (nf x))) V gn gs x gl gc gq go gv := by
  obtain ⟨k0, k1, k2, k3, k4, k5, k6, k7⟩ := y
  exact ⟨(mset_n (by omega)).trans k0, (mset_n (by omega)).trans k1, mset_s _ _ _, (mset_n (by omega)).trans k3, (mset_n (by omega)).trans k4, (mset_n (by omega)).trans k5, (mset_n (by omega)).trans k6, (mset_n (by omega)).trans k7⟩
theorem LwN.s3 {h : mH} {V : Nat} {gn gs ge gl : Nat → Nat} {gc : Nat → Int64} {gq go gv : Nat → Nat} (y : LwN h V gn gs ge gl gc gq go gv) (hV : 277 ≤ V) (x : Nat → Nat) : LwN (mset h 273 (aI 64 (nf x))) V gn gs ge x gc gq go gv := by
  obtain ⟨k0, k1, k2, k3, k4, k5, k6, k7⟩ := y
  exact ⟨(mset_n (by omega)).trans k0, (mset_n (by omega)).trans k1, (mset_n (by omega)).trans k2, mset_s _ _ _, (mset_n (by omega)).trans k4, (mset_n (by omega)).trans k5, (mset_n (by omega)).trans k6, (mset_n (by omega)).trans k7⟩
theorem LwN.s4 {h : mH} {V : Nat} {gn gs ge gl : Nat → Nat} {gc : Nat → Int64} {gq go gv : Nat → Nat} (y : LwN h V gn gs ge gl gc gq go gv) (hV : 277 ≤ V) (x : Nat → Int64) : LwN (mset h 274 (aL 60 x)) V gn gs ge gl x gq go gv := by
  obtain ⟨k0, k1, k2, k3, k4, k5, k6, k7⟩ := y
  exact ⟨(mset_n (by omega)).trans k0, (mset_n (by omega)).trans k1, (mset_n (by omega)).trans k2, (mset_n (by omega)).trans k3, mset_s _ _ _, (mset_n (by omega)).trans k5, (mset_n (by omega)).trans k6, (mset_n (by omega)).trans k7⟩
theorem LwN.s5 {h : mH} {V : Nat} {gn gs ge gl : Nat → Nat} {gc : Nat → Int64} {gq go gv : Nat → Nat} (y : LwN h V gn gs ge gl gc gq go gv) (hV : 277 ≤ V) (x : Nat → Nat) : LwN (mset h 275 (aI 60 (nf x))) V gn gs ge gl gc x go gv := by
  obtain ⟨k0, k1, k2, k3, k4, k5, k6, k7⟩ := y
  exact ⟨(mset_n (by omega)).trans k0, (mset_n (by omega)).trans k1, (mset_n (by omega)).trans k2, (mset_n (by omega)).trans k3, (mset_n (by omega)).trans k4, mset_s _ _ _, (mset_n (by omega)).trans k6, (mset_n (by omega)).trans k7⟩
theorem LwN.s6 {h : mH} {V : Nat} {gn gs ge gl : Nat → Nat} {gc : Nat → Int64} {gq go gv : Nat → Nat} (y : LwN h V gn gs ge gl gc gq go gv) (hV : 277 ≤ V) (x : Nat → Nat) : LwN (mset h 276 (aI 60 (nf x))) V gn gs ge gl gc gq x gv := by
  obtain ⟨k0, k1, k2, k3, k4, k5, k6, k7⟩ := y
  exact ⟨(mset_n (by omega)).trans k0, (mset_n (by omega)).trans k1, (mset_n (by omega)).trans k2, (mset_n (by omega)).trans k3, (mset_n (by omega)).trans k4, (mset_n (by omega)).trans k5, mset_s _ _ _, (mset_n (by omega)).trans k7⟩
theorem ite_k {j k a b : Nat} (e : ¬ j = k) : (if j < k ∧ a = 1 then 0 else b) = if j < k + 1 ∧ a = 1 then 0 else b := by
  by_cases h : j < k ∧ a = 1
  · rw [if_pos h, if_pos ⟨by omega, h.2⟩]
  · rw [if_neg h, if_neg (fun z => h ⟨by omega, z.2⟩)]
set_option maxHeartbeats 4000000 in
set_option maxRecDepth 100000 in
theorem lay_F {X : mX} {h : mH} {V M np sw : Nat} {B : mB} {gn gs ge gl : Nat → Nat} {gc : Nat → Int64} {gq go gv : Nat → Nat} {Q : mO → mH → Prop} (hl : LwN h V gn gs ge gl gc gq go gv) (hV : 277 ≤ V) (hVM : V < M) (t many : Nat) (ht : t < 4) {f4 f5 : Nat → Nat} (b4 : h (M + 3) = some (aI 60 (nf f4))) (b5 : h (M + 4) = some (aI 60 (nf f5))) (hf5 : ∀ j, j < 60 → f5 j ≤ 1)
    (kk : ∀ (h1 : mH) (q2 o2 : Nat → Nat), Out h h1 270 7 → LwN h1 V (upN (upN gn 11 (gn 11 + sw)) t many) gs ge gl gc q2 o2 gv → (∀ j, j < 60 → q2 j = if f5 j = 1 then 0 else gq j) → (∀ j, j < 60 → o2 j = f4 j) → Ev X m_L_lay B 555 [.ref 270, .ref 271, .ref 272, .ref 273, .ref 274, .ref 275, .ref 276, .int (nI t), .ref V, .int (nI many), .ref M, .ref (M + 1), .ref (M + 2), .int (nI np), jk, .ref (M + 3), jk, jk, jk, jk, .ref (M + 4), jk, jk, jk, jk, jk] [] h1 Q) :
    Ev X m_L_lay B 499 [.ref 270, .ref 271, .ref 272, .ref 273, .ref 274, .ref 275, .ref 276, .int (nI t), .ref V, .int (nI many), .ref M, .ref (M + 1), .ref (M + 2), .int (nI np), jk, .ref (M + 3), jk, jk, jk, jk, .ref (M + 4), .int (nI sw), jk, jk, jk, jk] [] h Q := by
  refine ev_iconst (nI 0) dL_lay_499 rfl ?_
  refine ev_istore (L' := [_, _, _, _, _, _, _, _, _, _, _, _, _, _, _, _, _, _, _, _, _, _, _, _, _, _]) dL_lay_500 (Nat.le_of_ble_eq_true rfl) rfl ?_
  refine ev_pc (pc' := 502) rfl ?_
  have LP502 : ∀ (mz : Nat) (k : Nat) (h1 : mH) (q2 : Nat → Nat) (o2 : Nat → Nat), 60 - k = mz → (k ≤ 60) → (Out h h1 270 7) → (LwN h1 V gn gs ge gl gc q2 o2 gv) → (∀ j, j < 60 → q2 j = if j < k ∧ f5 j = 1 then 0 else gq j) → (∀ j, j < k → o2 j = f4 j) → Ev X m_L_lay B 502 [.ref 270, .ref 271, .ref 272, .ref 273, .ref 274, .ref 275, .ref 276, .int (nI t), .ref V, .int (nI many), .ref M, .ref (M + 1), .ref (M + 2), .int (nI np), jk, .ref (M + 3), jk, jk, jk, jk, .ref (M + 4), .int (nI sw), .int (nI k), jk, jk, jk] [] h1 Q := by
    intro mz
    induction mz using Nat.strongRecOn with
    | _ mz ih =>
      intro k h1 q2 o2 hmz hk ho hl1 hq2 ho2
      have hl2 := hl1
      obtain ⟨k0, k1, k2, k3, k4, k5, k6, k7⟩ := hl1
      have a4 : h1 (M + 3) = some (aI 60 (nf f4)) := (ho _ (by omega)).trans b4
      have a5 : h1 (M + 4) = some (aI 60 (nf f5)) := (ho _ (by omega)).trans b5
      have h5k := hf5 k
      refine ev_iload dL_lay_502 rfl ?_
      refine ev_bipush (nI 60) dL_lay_504 rfl ?_
      refine ev_icmp_geN 540 dL_lay_506 rfl (by omega) (by omega) (fun hc506 => ?_) (fun hc506 => ?_)
      · refine ev_pc (pc' := 540) rfl ?_
        have ek : k = 60 := by omega
        subst ek
        refine ev_aload_n dL_lay_540 rfl rfl ?_
        refine ev_bipush (nI 11) dL_lay_541 rfl ?_
        refine ev_dup2 dL_lay_543 rfl rfl ?_
        refine ev_ialoadF dL_lay_544 (k0) (by omega) (by decide) ?_
        refine ev_iload dL_lay_545 rfl ?_
        refine ev_iaddN dL_lay_547 ?_
        refine ev_iastoreF dL_lay_548 (k0) (by omega) (by decide) ?_
        refine ev_aload_n dL_lay_549 rfl rfl ?_
        refine ev_iload dL_lay_550 rfl ?_
        refine ev_iload dL_lay_552 rfl ?_
        first | refine ev_iastoreF dL_lay_554 (mset_s _ _ _) (by omega) (by decide) ?_ | refine ev_iastoreF dL_lay_554 ((mset_n (by omega)).trans (k0)) (by omega) (by decide) ?_
        refine ev_pc (pc' := 555) rfl ?_
        refine ev_fgt 21 (L' := [_, _, _, _, _, _, _, _, _, _, _, _, _, _, _, _, _, _, _, _, _, _, _, _, _, _]) rfl ?_
        refine ev_fgt 22 (L' := [_, _, _, _, _, _, _, _, _, _, _, _, _, _, _, _, _, _, _, _, _, _, _, _, _, _]) rfl ?_
        exact kk _ q2 o2 ((ho.tr (Out.set (by omega) (by omega))).tr (Out.set (by omega) (by omega))) ((hl2.s0 hV _).s0 hV _) (fun j hj => by
          rw [hq2 j hj]
          by_cases e : f5 j = 1
          · rw [if_pos ⟨hj, e⟩, if_pos e]
          · rw [if_neg (fun z => e z.2), if_neg e]) ho2
      · refine ev_aload dL_lay_509 rfl ?_
        refine ev_iload dL_lay_511 rfl ?_
        refine ev_aload dL_lay_513 rfl ?_
        refine ev_iload dL_lay_515 rfl ?_
        first | refine ev_ialoadF dL_lay_517 (k0) (by omega) (by decide) ?_ | refine ev_ialoadF dL_lay_517 (k5) (by omega) (by decide) ?_ | refine ev_ialoadF dL_lay_517 (k6) (by omega) (by decide) ?_ | refine ev_ialoadF dL_lay_517 (a4) (by omega) (by decide) ?_ | refine ev_ialoadF dL_lay_517 (a5) (by omega) (by decide) ?_
        first | refine ev_iastoreF dL_lay_518 (k0) (by omega) (by decide) ?_ | refine ev_iastoreF dL_lay_518 (k5) (by omega) (by decide) ?_ | refine ev_iastoreF dL_lay_518 (k6) (by omega) (by decide) ?_ | refine ev_iastoreF dL_lay_518 (a4) (by omega) (by decide) ?_ | refine ev_iastoreF dL_lay_518 (a5) (by omega) (by decide) ?_
        refine ev_aload dL_lay_519 rfl ?_
        refine ev_iload dL_lay_521 rfl ?_
        first | refine ev_ialoadF dL_lay_523 (mset_s _ _ _) (by omega) (by decide) ?_ | refine ev_ialoadF dL_lay_523 ((mset_n (by omega)).trans (k0)) (by omega) (by decide) ?_ | refine ev_ialoadF dL_lay_523 ((mset_n (by omega)).trans (k5)) (by omega) (by decide) ?_ | refine ev_ialoadF dL_lay_523 ((mset_n (by omega)).trans (k6)) (by omega) (by decide) ?_ | refine ev_ialoadF dL_lay_523 ((mset_n (by omega)).trans (a4)) (by omega) (by decide) ?_ | refine ev_ialoadF dL_lay_523 ((mset_n (by omega)).trans (a5)) (by omega) (by decide) ?_
        refine ev_iconst (nI 1) dL_lay_524 rfl ?_
        refine ev_icmp_neN 534 dL_lay_525 rfl (by omega) (by omega) (fun hc525 => ?_) (fun hc525 => ?_)
        · refine ev_iincN (L' := [_, _, _, _, _, _, _, _, _, _, _, _, _, _, _, _, _, _, _, _, _, _, _, _, _, _]) 1 dL_lay_534 rfl rfl ?_
          refine ev_goto 502 dL_lay_537 rfl ?_
          refine ev_pc (pc' := 502) rfl ?_
          have hoo : ∀ j, j < k + 1 → upN o2 k (f4 k) j = f4 j := fun j hj => by
            by_cases e : j = k
            · rw [e, upN_s]
            · rw [upN_n e]; exact ho2 j (by omega)
          first
            | (have hne : ¬ f5 k = 1 := hc525
               exact ih (60 - (k + 1)) (by omega) (k + 1) _ _ _ rfl (by omega) (ho.tr (Out.set (by omega) (by omega))) (hl2.s6 hV _) (fun j hj => by
                 rw [hq2 j hj]
                 by_cases e : j = k
                 · rw [e, if_neg (fun z => Nat.lt_irrefl _ z.1), if_neg (fun z => hne z.2)]
                 · exact ite_k e) hoo)
            | (have hye : f5 k = 1 := hc525
               exact ih (60 - (k + 1)) (by omega) (k + 1) _ _ _ rfl (by omega) ((ho.tr (Out.set (by omega) (by omega))).tr (Out.set (by omega) (by omega))) ((hl2.s6 hV _).s5 hV _) (fun j hj => by
                 by_cases e : j = k
                 · rw [e, upN_s, if_pos ⟨Nat.lt_succ_self k, hye⟩]
                 · rw [upN_n e, hq2 j hj]; exact ite_k e) hoo)
        · refine ev_aload dL_lay_528 rfl ?_
          refine ev_iload dL_lay_530 rfl ?_
          refine ev_iconst (nI 0) dL_lay_532 rfl ?_
          first | refine ev_iastoreF dL_lay_533 (mset_s _ _ _) (by omega) (by decide) ?_ | refine ev_iastoreF dL_lay_533 ((mset_n (by omega)).trans (k0)) (by omega) (by decide) ?_ | refine ev_iastoreF dL_lay_533 ((mset_n (by omega)).trans (k5)) (by omega) (by decide) ?_ | refine ev_iastoreF dL_lay_533 ((mset_n (by omega)).trans (k6)) (by omega) (by decide) ?_ | refine ev_iastoreF dL_lay_533 ((mset_n (by omega)).trans (a4)) (by omega) (by decide) ?_ | refine ev_iastoreF dL_lay_533 ((mset_n (by omega)).trans (a5)) (by omega) (by decide) ?_
          refine ev_iincN (L' := [_, _, _, _, _, _, _, _, _, _, _, _, _, _, _, _, _, _, _, _, _, _, _, _, _, _]) 1 dL_lay_534 rfl rfl ?_
          refine ev_goto 502 dL_lay_537 rfl ?_
          refine ev_pc (pc' := 502) rfl ?_
          have hoo : ∀ j, j < k + 1 → upN o2 k (f4 k) j = f4 j := fun j hj => by
            by_cases e : j = k
            · rw [e, upN_s]
            · rw [upN_n e]; exact ho2 j (by omega)
          first
            | (have hne : ¬ f5 k = 1 := hc525
               exact ih (60 - (k + 1)) (by omega) (k + 1) _ _ _ rfl (by omega) (ho.tr (Out.set (by omega) (by omega))) (hl2.s6 hV _) (fun j hj => by
                 rw [hq2 j hj]
                 by_cases e : j = k
                 · rw [e, if_neg (fun z => Nat.lt_irrefl _ z.1), if_neg (fun z => hne z.2)]
                 · exact ite_k e) hoo)
            | (have hye : f5 k = 1 := hc525
               exact ih (60 - (k + 1)) (by omega) (k + 1) _ _ _ rfl (by omega) ((ho.tr (Out.set (by omega) (by omega))).tr (Out.set (by omega) (by omega))) ((hl2.s6 hV _).s5 hV _) (fun j hj => by
                 by_cases e : j = k
                 · rw [e, upN_s, if_pos ⟨Nat.lt_succ_self k, hye⟩]
                 · rw [upN_n e, hq2 j hj]; exact ite_k e) hoo)
  exact LP502 _ 0 h gq go rfl (Nat.zero_le _) Out.rf hl (fun j _ => by rw [if_neg (fun z => Nat.not_lt_zero _ z.1)]) (fun j hj => absurd hj (Nat.not_lt_zero j))
theorem RelS9.own {c : Nat → Int64} {q ow : Nat → Nat} {S : mSo} (h : RelS9 c q ow S) {u : Nat} (hu : u < 60) (h0 : sR S u ≠ 0) : RelS9 c q (upN ow u (ow u + 1)) (ownS S u) := fun k hk => by
  show (sR S k = 0 → q k = 0) ∧ (sR S k ≠ 0 → Ce (sR S k) (c k) (q k) ∧ upN ow u (ow u + 1) k = upN (sO S) u (sO S u + 1) k)
  refine ⟨(h k hk).1, fun z => ⟨((h k hk).2 z).1, ?_⟩⟩
  by_cases e : k = u
  · rw [e, upN_s, upN_s, ((h u hu).2 h0).2]
  · rw [upN_n e, upN_n e, ((h k hk).2 z).2]
theorem RelS9.put {c : Nat → Int64} {q ow : Nat → Nat} {S : mSo} (h : RelS9 c q ow S) {w cc : Int64} {n f : Nat} (hf : slU S 0 = f) (x : Ce w cc n) : RelS9 (vp_updL c f cc) (upN q f n) (upN (upN ow f 0) f (upN ow f 0 f + 1)) (ownS (putS S w) f) := fun k hk => by
  subst hf
  show (vp_updL (sR S) (slU S 0) w k = 0 → upN q (slU S 0) n k = 0) ∧ (vp_updL (sR S) (slU S 0) w k ≠ 0 → Ce (vp_updL (sR S) (slU S 0) w k) (vp_updL c (slU S 0) cc k) (upN q (slU S 0) n k) ∧ upN (upN ow (slU S 0) 0) (slU S 0) (upN ow (slU S 0) 0 (slU S 0) + 1) k = upN (upN (sO S) (slU S 0) 0) (slU S 0) (upN (sO S) (slU S 0) 0 (slU S 0) + 1) k)
  by_cases e : k = slU S 0
  · rw [e, upL_s, upL_s, upN_s, upN_s, upN_s, upN_s, upN_s]
    exact ⟨fun z => absurd z x.n0, fun _ => ⟨x, rfl⟩⟩
  · rw [upL_n e, upL_n e, upN_n e, upN_n e, upN_n e, upN_n e, upN_n e]
    exact h k hk
/-- of a piece the first k signs are placed -/
def PlA (gs ge gl : Nat → Nat) (t : Nat) (K : mCt) (u p k : Nat) : Prop := ∀ i, i < k → gs (16 * t + (kP K p + i)) = kS K (kP K p + i) ∧ gl (16 * t + (kP K p + i)) = u ∧ ge (16 * t + (kP K p + i)) ≤ 3 ∧ (ge (16 * t + (kP K p + i)) = 0 ↔ i + 1 ≠ kQ K p) ∧ (ge (16 * t + (kP K p + i)) = 2 ↔ i + 1 = kQ K p ∧ kF K p = true)
def PlX (gs ge gl : Nat → Nat) (t : Nat) (K : mCt) (S : mSo) (p : Nat) : Prop := ∀ q, q < p → PlA gs ge gl t K (slU S (kR K q)) q (kQ K q)
theorem PlA.step {gs ge gl : Nat → Nat} {t : Nat} {K : mCt} {u p k x y z : Nat} (h : PlA gs ge gl t K u p k) (hy : y = kS K (kP K p + k)) (hz : z = u) (h3 : x ≤ 3) (h0 : x = 0 ↔ k + 1 ≠ kQ K p) (h2 : x = 2 ↔ k + 1 = kQ K p ∧ kF K p = true) : PlA (upN gs (16 * t + (kP K p + k)) y) (upN ge (16 * t + (kP K p + k)) x) (upN gl (16 * t + (kP K p + k)) z) t K u p (k + 1) := fun i hi => by
  by_cases e : i = k
  · rw [e, upN_s, upN_s, upN_s]
    exact ⟨hy, hz, h3, h0, h2⟩
  · rw [upN_n (by omega), upN_n (by omega), upN_n (by omega)]
    exact h i (by omega)
theorem PlX.step {gs ge gl : Nat → Nat} {t : Nat} {K : mCt} {S : mSo} {p k x y z : Nat} (h : PlX gs ge gl t K S p) (hK : Tile K) (hp : p < kN K) : PlX (upN gs (16 * t + (kP K p + k)) y) (upN ge (16 * t + (kP K p + k)) x) (upN gl (16 * t + (kP K p + k)) z) t K S p := fun q hq i hi => by
  have he2 := hK.en (p := q) (by omega)
  have := smN_mono (kQ K) (show q + 1 ≤ p from hq)
  have := (hK.2.2.1 p hp).1
  rw [upN_n (by omega), upN_n (by omega), upN_n (by omega)]
  exact h q hq i hi
theorem PlX.more {gs ge gl : Nat → Nat} {t : Nat} {K : mCt} {S : mSo} {p : Nat} (h : PlX gs ge gl t K S p) (h2 : PlA gs ge gl t K (slU S (kR K p)) p (kQ K p)) : PlX gs ge gl t K S (p + 1) := fun q hq => by
  by_cases e : q = p
  · rw [e]; exact h2
  · exact h q (by omega)
theorem PlX.st {gs ge gl : Nat → Nat} {t : Nat} {K : mCt} {S S1 : mSo} {p : Nat} (h : PlX gs ge gl t K S p) (e : ∀ q, q < p → slU S1 (kR K q) = slU S (kR K q)) : PlX gs ge gl t K S1 p := fun q hq => by
  rw [e q hq]
  exact h q hq
/-- all that is asked of the stores that come as pieces get owners -/
def GtOK (S : mSo) (K : mCt) : Prop := (∀ p, p ≤ kN K → SoD (gtN S K p)) ∧ (∀ p, p < kN K → slU (gtN S K p) (kR K p) < 60 ∨ slU (gtN S K p) 0 < 60) ∧ (∀ p q, p < kN K → q < p → slU (gtN S K (p + 1)) (kR K q) = slU (gtN S K p) (kR K q)) ∧ ∀ p, p < kN K → slU (gtN S K (p + 1)) (kR K p) < 60
theorem GtOK.of {S : mSo} {K : mCt} {c : Int64 → Nat} (hK : Tile K) (hD : SoD S) (hO : Own S c) (hI : InS S c) (hG : GdR S) (hfit : ndS S K ≤ 60 - pcS S) : GtOK S K := by
  have g := gtN_all hK hD hO hI hG hfit
  have hr := (g (kN K) (Nat.le_refl _)).1
  refine ⟨fun p hp => (g p hp).2.1, hr, fun p q hp hq => ?_, fun p hp => ?_⟩
  · obtain ⟨-, b2, b3, b4, -, b6, -⟩ := g p (by omega)
    have hcq := hK.cd (p := q) (by omega)
    have hl : slU (gtN S K p) (kR K q) < 60 := (b6 _ hcq.n0).mpr (Or.inr (exN_yes hq (beq_self_eq_true _)))
    rw [gtN_s]
    exact (gt1_all (hK.cd hp).n0 b2 b3 b4 (hr p hp)).2.2.2.1 _ hcq.n0 hl
  · obtain ⟨-, b2, b3, b4, -, b6, -⟩ := g p (by omega)
    rw [gtN_s]
    exact (gt1_all (hK.cd hp).n0 b2 b3 b4 (hr p hp)).2.2.2.2
theorem free_first {c : Nat → Int64} {q ow : Nat → Nat} {S : mSo} (h : RelS9 c q ow S) {s : Nat} (hs : s < 60) (h0 : q s = 0) (hno : ∀ j, j < s → q j ≠ 0) : slU S 0 = s := by
  have z := Classical.byContradiction (fun z => (h.pos hs).mpr z h0)
  have hl := slU_is hs z
  have h1 := slU_def S 0
  rcases Nat.lt_trichotomy (slU S 0) s with e | e | e
  · have := slU_at hl
    exact absurd this ((h.pos (by omega)).mp (hno _ e))
  · exact e
  · have h3 := (upTo_lt (p := fun k => !(sR S k == 0)) (n := 60) (by rw [← h1]; exact hl)).2 s (by rw [← h1]; exact e)
    rw [z] at h3
    exact absurd h3 (by decide)
set_option maxHeartbeats 4000000 in
set_option maxRecDepth 100000 in
theorem lay_G {X : mX} {h : mH} {V M ce sl mc ms : Nat} {gn gs ge gl : Nat → Nat} {gc : Nat → Int64} {gq go gv : Nat → Nat} {Q : mO → mH → Prop} (hl : LwN h V gn gs ge gl gc gq go gv) (hV : 277 ≤ V) (hVM : V < M) (t many : Nat) (ht : t < 4) {S : mSo} (hS : RelS9 gc gq go S) (hgn : gn 10 = sC S) {K : mCt} (hK : Tile K) (h16 : kL K ≤ 16) (hgv : ∀ j, j < kL K → gv j = kS K j) (hG : GtOK S K) {f1 : Nat → Int64} {f2 f3 : Nat → Nat} (b1 : h M = some (aL 16 f1)) (b2 : h (M + 1) = some (aI 16 (nf f2))) (b3 : h (M + 2) = some (aI 16 (nf f3))) (hC : CutL f1 f2 f3 K) (hce : ce ≤ mc) (hsl : sl ≤ ms)
    (kq : ∀ (h1 : mH) (n2 s2 e2 l2 : Nat → Nat) (c2 : Nat → Int64) (q2 o2 : Nat → Nat), Out h h1 270 7 → LwN h1 V n2 s2 e2 l2 c2 q2 o2 gv → RelS9 c2 q2 o2 (gtN S K (kN K)) → n2 10 = sC (gtN S K (kN K)) → (∀ i, i ≠ 10 → n2 i = gn i) → (∀ i, (i < 16 * t ∨ 16 * t + 16 ≤ i) → s2 i = gs i ∧ e2 i = ge i ∧ l2 i = gl i) → PlX s2 e2 l2 t K (gtN S K (kN K)) (kN K) → Q (.inl (some (.int (nI (kN K))))) h1) :
    Ev X m_L_lay (some (M + 5), some (M + 5), ce, sl, mc, ms) 555 [.ref 270, .ref 271, .ref 272, .ref 273, .ref 274, .ref 275, .ref 276, .int (nI t), .ref V, .int (nI many), .ref M, .ref (M + 1), .ref (M + 2), .int (nI (kN K)), jk, .ref (M + 3), jk, jk, jk, jk, .ref (M + 4), jk, jk, jk, jk, jk] [] h Q := by
  obtain ⟨g1, g2, g3, g4⟩ := hG
  have hn16 := hK.n16 h16
  have hq : ∀ p, p < kN K → Ce (kR K p) (f1 p) (f2 p) ∧ f2 p = kQ K p ∧ ((1 ≤ f3 p ∧ f3 p ≤ 3) ∧ (f3 p = 2 ↔ kF K p = true)) := fun p hp => ⟨hC.ce hK h16 hp, (hC p hp).2.1, (hC p hp).2.2⟩
  refine ev_iconst (nI 0) dL_lay_555 rfl ?_
  refine ev_istore (L' := [_, _, _, _, _, _, _, _, _, _, _, _, _, _, _, _, _, _, _, _, _, _, _, _, _, _]) dL_lay_556 (Nat.le_of_ble_eq_true rfl) rfl ?_
  refine ev_iconst (nI 0) dL_lay_558 rfl ?_
  refine ev_istore (L' := [_, _, _, _, _, _, _, _, _, _, _, _, _, _, _, _, _, _, _, _, _, _, _, _, _, _]) dL_lay_559 (Nat.le_of_ble_eq_true rfl) rfl ?_
  refine ev_pc (pc' := 561) rfl ?_
  have LP561 : ∀ (mz : Nat) (k : Nat) (h1 : mH) (n2 : Nat → Nat) (s2 : Nat → Nat) (e2 : Nat → Nat) (l2 : Nat → Nat) (c2 : Nat → Int64) (q2 : Nat → Nat) (o2 : Nat → Nat), kN K - k = mz → (k ≤ kN K) → (Out h h1 270 7) → (LwN h1 V n2 s2 e2 l2 c2 q2 o2 gv) → (RelS9 c2 q2 o2 (gtN S K k)) → (n2 10 = sC (gtN S K k)) → (∀ i, i ≠ 10 → n2 i = gn i) → ((∀ i, (i < 16 * t ∨ 16 * t + 16 ≤ i) → s2 i = gs i ∧ e2 i = ge i ∧ l2 i = gl i)) → (PlX s2 e2 l2 t K (gtN S K k) k) → Ev X m_L_lay (some (M + 5), some (M + 5), ce, sl, mc, ms) 561 [.ref 270, .ref 271, .ref 272, .ref 273, .ref 274, .ref 275, .ref 276, .int (nI t), .ref V, .int (nI many), .ref M, .ref (M + 1), .ref (M + 2), .int (nI (kN K)), jk, .ref (M + 3), jk, jk, jk, jk, .ref (M + 4), jk, .int (nI (smN (kQ K) k)), .int (nI k), jk, jk] [] h1 Q := by
    intro mz
    induction mz using Nat.strongRecOn with
    | _ mz ih =>
      intro k h1 n2 s2 e2 l2 c2 q2 o2 hmz hk ho hl1 hR hn hno hx hpl
      have ihk := ih
      have hl2 := hl1
      obtain ⟨k0, k1, k2, k3, k4, k5, k6, k7⟩ := hl1
      have a1 : h1 M = some (aL 16 f1) := (ho _ (by omega)).trans b1
      have a2 : h1 (M + 1) = some (aI 16 (nf f2)) := (ho _ (by omega)).trans b2
      have a3 : h1 (M + 2) = some (aI 16 (nf f3)) := (ho _ (by omega)).trans b3
      refine ev_iload dL_lay_561 rfl ?_
      refine ev_iload dL_lay_563 rfl ?_
      refine ev_icmp_geN 736 dL_lay_565 rfl (by omega) (by omega) (fun hc565 => ?_) (fun hc565 => ?_)
      · refine ev_pc (pc' := 736) rfl ?_
        have ek : k = kN K := by omega
        subst ek
        refine ev_iload dL_lay_736 rfl ?_
        refine ev_ireturn dL_lay_738 rfl (Or.inl rfl) (by omega) (by omega) ?_
        exact kq h1 _ _ _ _ _ _ _ ho hl2 hR hn hno hx hpl
      · refine ev_pc (pc' := 568) rfl ?_
        have hkN : k < kN K := by omega
        have hqk := hq k hkN
        have hen := hK.en hkN
        have hkp1 := (hK.2.2.1 k hkN).1
        have hk2 : f2 k ≤ 16 := hqk.1.le.2
        have SIGNS : ∀ (h2 : mH) (n2 s9 e9 l9 : Nat → Nat) (c2 : Nat → Int64) (q2 o2 : Nat → Nat) (u : Nat), u = slU (gtN S K (k + 1)) (kR K k) → Out h h2 270 7 → LwN h2 V n2 s9 e9 l9 c2 q2 o2 gv → RelS9 c2 q2 o2 (gtN S K (k + 1)) → n2 10 = sC (gtN S K (k + 1)) → (∀ i, i ≠ 10 → n2 i = gn i) → (∀ i, (i < 16 * t ∨ 16 * t + 16 ≤ i) → s9 i = gs i ∧ e9 i = ge i ∧ l9 i = gl i) → PlX s9 e9 l9 t K (gtN S K (k + 1)) k → Ev X m_L_lay (some (M + 5), some (M + 5), ce, sl, mc, ms) 652 [.ref 270, .ref 271, .ref 272, .ref 273, .ref 274, .ref 275, .ref 276, .int (nI t), .ref V, .int (nI many), .ref M, .ref (M + 1), .ref (M + 2), .int (nI (kN K)), jk, .ref (M + 3), jk, jk, jk, jk, .ref (M + 4), jk, .int (nI (kP K k)), .int (nI k), .int (nI u), jk] [] h2 Q := by
          intro h2 n2 s9 e9 l9 c2 q2 o2 u hu ho9 hl9 hR hn hno hx9 hpl9
          refine ev_iconst (nI 1) dL_lay_652 rfl ?_
          refine ev_istore (L' := [_, _, _, _, _, _, _, _, _, _, _, _, _, _, _, _, _, _, _, _, _, _, _, _, _, _]) dL_lay_653 (Nat.le_of_ble_eq_true rfl) rfl ?_
          refine ev_pc (pc' := 655) rfl ?_
          have LP655 : ∀ (mz : Nat) (i : Nat) (h1 : mH) (s2 : Nat → Nat) (e2 : Nat → Nat) (l2 : Nat → Nat), kQ K k - i = mz → (i ≤ kQ K k) → (Out h h1 270 7) → (LwN h1 V n2 s2 e2 l2 c2 q2 o2 gv) → ((∀ i, (i < 16 * t ∨ 16 * t + 16 ≤ i) → s2 i = gs i ∧ e2 i = ge i ∧ l2 i = gl i)) → (PlX s2 e2 l2 t K (gtN S K (k + 1)) k) → (PlA s2 e2 l2 t K u k i) → Ev X m_L_lay (some (M + 5), some (M + 5), ce, sl, mc, ms) 655 [.ref 270, .ref 271, .ref 272, .ref 273, .ref 274, .ref 275, .ref 276, .int (nI t), .ref V, .int (nI many), .ref M, .ref (M + 1), .ref (M + 2), .int (nI (kN K)), jk, .ref (M + 3), jk, jk, jk, jk, .ref (M + 4), jk, .int (nI (kP K k + i)), .int (nI k), .int (nI u), .int (nI (i + 1))] [] h1 Q := by
            intro mz
            induction mz using Nat.strongRecOn with
            | _ mz ih =>
              intro i h1 s2 e2 l2 hmz hi ho hl1 hx hpl hpa
              have hl2 := hl1
              obtain ⟨k0, k1, k2, k3, k4, k5, k6, k7⟩ := hl1
              have a1 : h1 M = some (aL 16 f1) := (ho _ (by omega)).trans b1
              have a2 : h1 (M + 1) = some (aI 16 (nf f2)) := (ho _ (by omega)).trans b2
              have a3 : h1 (M + 2) = some (aI 16 (nf f3)) := (ho _ (by omega)).trans b3
              have hgi : i < kQ K k → gv (kP K k + i) = kS K (kP K k + i) := fun z => hgv _ (by omega)
              refine ev_iload dL_lay_655 rfl ?_
              refine ev_aload dL_lay_657 rfl ?_
              refine ev_iload dL_lay_659 rfl ?_
              first | refine ev_ialoadF dL_lay_661 (k1) (by omega) (by decide) ?_ | refine ev_ialoadF dL_lay_661 (k2) (by omega) (by decide) ?_ | refine ev_ialoadF dL_lay_661 (k3) (by omega) (by decide) ?_ | refine ev_ialoadF dL_lay_661 (k7) (by omega) (by decide) ?_ | refine ev_ialoadF dL_lay_661 (a2) (by omega) (by decide) ?_ | refine ev_ialoadF dL_lay_661 (a3) (by omega) (by decide) ?_
              rw [hqk.2.1]
              refine ev_icmp_gtN 730 dL_lay_662 rfl (by omega) (by omega) (fun hc662 => ?_) (fun hc662 => ?_)
              · refine ev_pc (pc' := 730) rfl ?_
                have ei : i = kQ K k := by omega
                subst ei
                refine ev_fgt 24 (L' := [_, _, _, _, _, _, _, _, _, _, _, _, _, _, _, _, _, _, _, _, _, _, _, _, _, _]) rfl ?_
                refine ev_fgt 25 (L' := [_, _, _, _, _, _, _, _, _, _, _, _, _, _, _, _, _, _, _, _, _, _, _, _, _, _]) rfl ?_
                refine ev_iincN (L' := [_, _, _, _, _, _, _, _, _, _, _, _, _, _, _, _, _, _, _, _, _, _, _, _, _, _]) 1 dL_lay_730 rfl rfl ?_
                refine ev_goto 561 dL_lay_733 rfl ?_
                refine ev_pc (pc' := 561) rfl ?_
                rw [hen.2.1]
                subst hu
                exact ihk (kN K - (k + 1)) (by omega) (k + 1) _ _ _ _ _ _ _ _ rfl (by omega) ho hl2 hR hn hno hx (hpl.more hpa)
              · refine ev_aload_n dL_lay_665 rfl rfl ?_
                refine ev_bipush (nI 16) dL_lay_666 rfl ?_
                refine ev_iload dL_lay_668 rfl ?_
                refine ev_imulN dL_lay_670 ?_
                refine ev_iload dL_lay_671 rfl ?_
                refine ev_iaddN dL_lay_673 ?_
                refine ev_aload dL_lay_674 rfl ?_
                refine ev_iload dL_lay_676 rfl ?_
                first | refine ev_ialoadF dL_lay_678 (k1) (by omega) (by decide) ?_ | refine ev_ialoadF dL_lay_678 (k2) (by omega) (by decide) ?_ | refine ev_ialoadF dL_lay_678 (k3) (by omega) (by decide) ?_ | refine ev_ialoadF dL_lay_678 (k7) (by omega) (by decide) ?_ | refine ev_ialoadF dL_lay_678 (a2) (by omega) (by decide) ?_ | refine ev_ialoadF dL_lay_678 (a3) (by omega) (by decide) ?_
                rw [hgi (by omega)]
                first | refine ev_iastoreF dL_lay_679 (k1) (by omega) (by decide) ?_ | refine ev_iastoreF dL_lay_679 (k2) (by omega) (by decide) ?_ | refine ev_iastoreF dL_lay_679 (k3) (by omega) (by decide) ?_ | refine ev_iastoreF dL_lay_679 (k7) (by omega) (by decide) ?_ | refine ev_iastoreF dL_lay_679 (a2) (by omega) (by decide) ?_ | refine ev_iastoreF dL_lay_679 (a3) (by omega) (by decide) ?_
                refine ev_aload_n dL_lay_680 rfl rfl ?_
                refine ev_bipush (nI 16) dL_lay_681 rfl ?_
                refine ev_iload dL_lay_683 rfl ?_
                refine ev_imulN dL_lay_685 ?_
                refine ev_iload dL_lay_686 rfl ?_
                refine ev_iaddN dL_lay_688 ?_
                refine ev_iload dL_lay_689 rfl ?_
                refine ev_aload dL_lay_691 rfl ?_
                refine ev_iload dL_lay_693 rfl ?_
                first | refine ev_ialoadF dL_lay_695 (mset_s _ _ _) (by omega) (by decide) ?_ | refine ev_ialoadF dL_lay_695 ((mset_n (by omega)).trans (k1)) (by omega) (by decide) ?_ | refine ev_ialoadF dL_lay_695 ((mset_n (by omega)).trans (k2)) (by omega) (by decide) ?_ | refine ev_ialoadF dL_lay_695 ((mset_n (by omega)).trans (k3)) (by omega) (by decide) ?_ | refine ev_ialoadF dL_lay_695 ((mset_n (by omega)).trans (k7)) (by omega) (by decide) ?_ | refine ev_ialoadF dL_lay_695 ((mset_n (by omega)).trans (a2)) (by omega) (by decide) ?_ | refine ev_ialoadF dL_lay_695 ((mset_n (by omega)).trans (a3)) (by omega) (by decide) ?_
                rw [hqk.2.1]
                refine ev_icmp_neN 707 dL_lay_696 rfl (by omega) (by omega) (fun hc696 => ?_) (fun hc696 => ?_)
                · refine ev_iconst (nI 0) dL_lay_707 rfl ?_
                  first | refine ev_iastoreF dL_lay_708 (mset_s _ _ _) (by omega) (by decide) ?_ | refine ev_iastoreF dL_lay_708 ((mset_n (by omega)).trans (k1)) (by omega) (by decide) ?_ | refine ev_iastoreF dL_lay_708 ((mset_n (by omega)).trans (k2)) (by omega) (by decide) ?_ | refine ev_iastoreF dL_lay_708 ((mset_n (by omega)).trans (k3)) (by omega) (by decide) ?_ | refine ev_iastoreF dL_lay_708 ((mset_n (by omega)).trans (k7)) (by omega) (by decide) ?_ | refine ev_iastoreF dL_lay_708 ((mset_n (by omega)).trans (a2)) (by omega) (by decide) ?_ | refine ev_iastoreF dL_lay_708 ((mset_n (by omega)).trans (a3)) (by omega) (by decide) ?_
                  refine ev_aload_n dL_lay_709 rfl rfl ?_
                  refine ev_bipush (nI 16) dL_lay_710 rfl ?_
                  refine ev_iload dL_lay_712 rfl ?_
                  refine ev_imulN dL_lay_714 ?_
                  refine ev_iload dL_lay_715 rfl ?_
                  refine ev_iaddN dL_lay_717 ?_
                  refine ev_iload dL_lay_718 rfl ?_
                  first | refine ev_iastoreF dL_lay_720 (mset_s _ _ _) (by omega) (by decide) ?_ | refine ev_iastoreF dL_lay_720 ((mset_n (by omega)).trans (mset_s _ _ _)) (by omega) (by decide) ?_ | refine ev_iastoreF dL_lay_720 ((mset_n (by omega)).trans ((mset_n (by omega)).trans (k1))) (by omega) (by decide) ?_ | refine ev_iastoreF dL_lay_720 ((mset_n (by omega)).trans ((mset_n (by omega)).trans (k2))) (by omega) (by decide) ?_ | refine ev_iastoreF dL_lay_720 ((mset_n (by omega)).trans ((mset_n (by omega)).trans (k3))) (by omega) (by decide) ?_ | refine ev_iastoreF dL_lay_720 ((mset_n (by omega)).trans ((mset_n (by omega)).trans (k7))) (by omega) (by decide) ?_ | refine ev_iastoreF dL_lay_720 ((mset_n (by omega)).trans ((mset_n (by omega)).trans (a2))) (by omega) (by decide) ?_ | refine ev_iastoreF dL_lay_720 ((mset_n (by omega)).trans ((mset_n (by omega)).trans (a3))) (by omega) (by decide) ?_
                  refine ev_iincN (L' := [_, _, _, _, _, _, _, _, _, _, _, _, _, _, _, _, _, _, _, _, _, _, _, _, _, _]) 1 dL_lay_721 rfl rfl ?_
                  refine ev_iincN (L' := [_, _, _, _, _, _, _, _, _, _, _, _, _, _, _, _, _, _, _, _, _, _, _, _, _, _]) 1 dL_lay_724 rfl rfl ?_
                  refine ev_goto 655 dL_lay_727 rfl ?_
                  refine ev_pc (pc' := 655) rfl ?_
                  have hxx : ∀ (x : Nat) (j : Nat), (j < 16 * t ∨ 16 * t + 16 ≤ j) → upN s2 (16 * t + (kP K k + i)) (kS K (kP K k + i)) j = gs j ∧ upN e2 (16 * t + (kP K k + i)) x j = ge j ∧ upN l2 (16 * t + (kP K k + i)) u j = gl j := fun x j hj => by
                    rw [upN_n (by omega), upN_n (by omega), upN_n (by omega)]
                    exact hx j hj
                  have hO3 : ∀ (a b c : mAc), Out h (mset (mset (mset h1 271 a) 272 b) 273 c) 270 7 := fun a b c => ((ho.tr (Out.set (by omega) (by omega))).tr (Out.set (by omega) (by omega))).tr (Out.set (by omega) (by omega))
                  first
                    | (have hM : i + 1 = kQ K k := hc696
                       exact ih (kQ K k - (i + 1)) (by omega) (i + 1) _ _ _ _ rfl (by omega) (hO3 _ _ _) (((hl2.s1 hV _).s2 hV _).s3 hV _) (hxx _) (hpl.step hK hkN) (hpa.step rfl rfl hqk.2.2.1.2 ⟨fun z => by omega, fun z => absurd hM z⟩ ⟨fun z => ⟨hM, hqk.2.2.2.mp z⟩, fun z => hqk.2.2.2.mpr z.2⟩))
                    | (have hM : ¬ i + 1 = kQ K k := hc696
                       exact ih (kQ K k - (i + 1)) (by omega) (i + 1) _ _ _ _ rfl (by omega) (hO3 _ _ _) (((hl2.s1 hV _).s2 hV _).s3 hV _) (hxx _) (hpl.step hK hkN) (hpa.step rfl rfl (by omega) ⟨fun _ => hM, fun _ => rfl⟩ ⟨fun z => by omega, fun z => absurd z.1 hM⟩))
                · refine ev_aload dL_lay_699 rfl ?_
                  refine ev_iload dL_lay_701 rfl ?_
                  first | refine ev_ialoadF dL_lay_703 (mset_s _ _ _) (by omega) (by decide) ?_ | refine ev_ialoadF dL_lay_703 ((mset_n (by omega)).trans (k1)) (by omega) (by decide) ?_ | refine ev_ialoadF dL_lay_703 ((mset_n (by omega)).trans (k2)) (by omega) (by decide) ?_ | refine ev_ialoadF dL_lay_703 ((mset_n (by omega)).trans (k3)) (by omega) (by decide) ?_ | refine ev_ialoadF dL_lay_703 ((mset_n (by omega)).trans (k7)) (by omega) (by decide) ?_ | refine ev_ialoadF dL_lay_703 ((mset_n (by omega)).trans (a2)) (by omega) (by decide) ?_ | refine ev_ialoadF dL_lay_703 ((mset_n (by omega)).trans (a3)) (by omega) (by decide) ?_
                  refine ev_goto 708 dL_lay_704 rfl ?_
                  first | refine ev_iastoreF dL_lay_708 (mset_s _ _ _) (by omega) (by decide) ?_ | refine ev_iastoreF dL_lay_708 ((mset_n (by omega)).trans (k1)) (by omega) (by decide) ?_ | refine ev_iastoreF dL_lay_708 ((mset_n (by omega)).trans (k2)) (by omega) (by decide) ?_ | refine ev_iastoreF dL_lay_708 ((mset_n (by omega)).trans (k3)) (by omega) (by decide) ?_ | refine ev_iastoreF dL_lay_708 ((mset_n (by omega)).trans (k7)) (by omega) (by decide) ?_ | refine ev_iastoreF dL_lay_708 ((mset_n (by omega)).trans (a2)) (by omega) (by decide) ?_ | refine ev_iastoreF dL_lay_708 ((mset_n (by omega)).trans (a3)) (by omega) (by decide) ?_
                  refine ev_aload_n dL_lay_709 rfl rfl ?_
                  refine ev_bipush (nI 16) dL_lay_710 rfl ?_
                  refine ev_iload dL_lay_712 rfl ?_
                  refine ev_imulN dL_lay_714 ?_
                  refine ev_iload dL_lay_715 rfl ?_
                  refine ev_iaddN dL_lay_717 ?_
                  refine ev_iload dL_lay_718 rfl ?_
                  first | refine ev_iastoreF dL_lay_720 (mset_s _ _ _) (by omega) (by decide) ?_ | refine ev_iastoreF dL_lay_720 ((mset_n (by omega)).trans (mset_s _ _ _)) (by omega) (by decide) ?_ | refine ev_iastoreF dL_lay_720 ((mset_n (by omega)).trans ((mset_n (by omega)).trans (k1))) (by omega) (by decide) ?_ | refine ev_iastoreF dL_lay_720 ((mset_n (by omega)).trans ((mset_n (by omega)).trans (k2))) (by omega) (by decide) ?_ | refine ev_iastoreF dL_lay_720 ((mset_n (by omega)).trans ((mset_n (by omega)).trans (k3))) (by omega) (by decide) ?_ | refine ev_iastoreF dL_lay_720 ((mset_n (by omega)).trans ((mset_n (by omega)).trans (k7))) (by omega) (by decide) ?_ | refine ev_iastoreF dL_lay_720 ((mset_n (by omega)).trans ((mset_n (by omega)).trans (a2))) (by omega) (by decide) ?_ | refine ev_iastoreF dL_lay_720 ((mset_n (by omega)).trans ((mset_n (by omega)).trans (a3))) (by omega) (by decide) ?_
                  refine ev_iincN (L' := [_, _, _, _, _, _, _, _, _, _, _, _, _, _, _, _, _, _, _, _, _, _, _, _, _, _]) 1 dL_lay_721 rfl rfl ?_
                  refine ev_iincN (L' := [_, _, _, _, _, _, _, _, _, _, _, _, _, _, _, _, _, _, _, _, _, _, _, _, _, _]) 1 dL_lay_724 rfl rfl ?_
                  refine ev_goto 655 dL_lay_727 rfl ?_
                  refine ev_pc (pc' := 655) rfl ?_
                  have hxx : ∀ (x : Nat) (j : Nat), (j < 16 * t ∨ 16 * t + 16 ≤ j) → upN s2 (16 * t + (kP K k + i)) (kS K (kP K k + i)) j = gs j ∧ upN e2 (16 * t + (kP K k + i)) x j = ge j ∧ upN l2 (16 * t + (kP K k + i)) u j = gl j := fun x j hj => by
                    rw [upN_n (by omega), upN_n (by omega), upN_n (by omega)]
                    exact hx j hj
                  have hO3 : ∀ (a b c : mAc), Out h (mset (mset (mset h1 271 a) 272 b) 273 c) 270 7 := fun a b c => ((ho.tr (Out.set (by omega) (by omega))).tr (Out.set (by omega) (by omega))).tr (Out.set (by omega) (by omega))
                  first
                    | (have hM : i + 1 = kQ K k := hc696
                       exact ih (kQ K k - (i + 1)) (by omega) (i + 1) _ _ _ _ rfl (by omega) (hO3 _ _ _) (((hl2.s1 hV _).s2 hV _).s3 hV _) (hxx _) (hpl.step hK hkN) (hpa.step rfl rfl hqk.2.2.1.2 ⟨fun z => by omega, fun z => absurd hM z⟩ ⟨fun z => ⟨hM, hqk.2.2.2.mp z⟩, fun z => hqk.2.2.2.mpr z.2⟩))
                    | (have hM : ¬ i + 1 = kQ K k := hc696
                       exact ih (kQ K k - (i + 1)) (by omega) (i + 1) _ _ _ _ rfl (by omega) (hO3 _ _ _) (((hl2.s1 hV _).s2 hV _).s3 hV _) (hxx _) (hpl.step hK hkN) (hpa.step rfl rfl (by omega) ⟨fun _ => hM, fun _ => rfl⟩ ⟨fun z => by omega, fun z => absurd z.1 hM⟩))
          exact LP655 _ 0 h2 s9 e9 l9 rfl (Nat.zero_le _) ho9 hl9 hx9 hpl9 (fun i hi => absurd hi (Nat.not_lt_zero i))
        rw [← hkp1]
        refine ev_aload dL_lay_568 rfl ?_
        refine ev_aload dL_lay_570 rfl ?_
        refine ev_aload dL_lay_572 rfl ?_
        refine ev_iload dL_lay_574 rfl ?_
        first | refine ev_laloadN dL_lay_576 (a1) (by omega) (by decide) ?_ | refine ev_laloadN dL_lay_576 (a2) (by omega) (by decide) ?_
        refine ev_aload dL_lay_577 rfl ?_
        refine ev_iload dL_lay_579 rfl ?_
        first | refine ev_ialoadF dL_lay_581 (a1) (by omega) (by decide) ?_ | refine ev_ialoadF dL_lay_581 (a2) (by omega) (by decide) ?_
        refine ev_cSP4 dL_lay_582 cal_L_slot lk_8_16 ⟨(Nat.le_of_ble_eq_true rfl), (Nat.le_of_ble_eq_true rfl)⟩ rfl (Nat.le_of_ble_eq_true rfl) (by omega) (by omega) (c_slotL k4 k5 hR (g1 k hk) hqk.1) ?_
        refine ev_istore (L' := [_, _, _, _, _, _, _, _, _, _, _, _, _, _, _, _, _, _, _, _, _, _, _, _, _, _]) dL_lay_585 (Nat.le_of_ble_eq_true rfl) rfl ?_
        refine ev_iload dL_lay_587 rfl ?_
        refine ev_if_ge 643 dL_lay_589 rfl (fun hc589 => ?_) (fun hc589 => ?_)
        · refine ev_pc (pc' := 643) rfl ?_
          have hu : slU (gtN S K k) (kR K k) < 60 := slI_ge.mp hc589
          have hat := slU_at hu
          have hz : sR (gtN S K k) (slU (gtN S K k) (kR K k)) ≠ 0 := by rw [hat]; exact hqk.1.n0
          have hg : gtN S K (k + 1) = ownS (gtN S K k) (slU (gtN S K k) (kR K k)) := by rw [gtN_s, gt1_in hu]
          have hus : slU (gtN S K k) (kR K k) = slU (gtN S K (k + 1)) (kR K k) := by rw [hg]; exact (slU_congr (fun j _ => rfl)).symm
          rw [slI_y hu]
          refine ev_aload dL_lay_643 rfl ?_
          refine ev_iload dL_lay_645 rfl ?_
          refine ev_dup2 dL_lay_647 rfl rfl ?_
          refine ev_ialoadF dL_lay_648 (k6) (by omega) (by decide) ?_
          refine ev_iconst (nI 1) dL_lay_649 rfl ?_
          refine ev_iaddN dL_lay_650 ?_
          refine ev_iastoreF dL_lay_651 (k6) (by omega) (by decide) ?_
          refine ev_pc (pc' := 652) rfl ?_
          refine SIGNS _ _ _ _ _ _ _ _ _ hus (ho.tr (Out.set (by omega) (by omega))) (hl2.s6 hV _) ?_ ?_ hno hx ?_
          · rw [hg]; exact hR.own hu hz
          · rw [hg]; exact hn
          · exact hpl.st (fun q hq => g3 k q hkN hq)
        · refine ev_pc (pc' := 592) rfl ?_
          have hno60 : ¬ slU (gtN S K k) (kR K k) < 60 := fun z => hc589 (slI_ge.mpr z)
          have hf60 : slU (gtN S K k) 0 < 60 := (g2 k hkN).resolve_left hno60
          refine ev_fgt 24 (L' := [_, _, _, _, _, _, _, _, _, _, _, _, _, _, _, _, _, _, _, _, _, _, _, _, _, _]) rfl ?_
          refine ev_iconst (nI 0) dL_lay_592 rfl ?_
          refine ev_istore (L' := [_, _, _, _, _, _, _, _, _, _, _, _, _, _, _, _, _, _, _, _, _, _, _, _, _, _]) dL_lay_593 (Nat.le_of_ble_eq_true rfl) rfl ?_
          refine ev_pc (pc' := 595) rfl ?_
          have LP595 : ∀ (mz : Nat) (f : Nat), 60 - f = mz → (f ≤ slU (gtN S K k) 0) → (∀ j, j < f → q2 j ≠ 0) → Ev X m_L_lay (some (M + 5), some (M + 5), ce, sl, mc, ms) 595 [.ref 270, .ref 271, .ref 272, .ref 273, .ref 274, .ref 275, .ref 276, .int (nI t), .ref V, .int (nI many), .ref M, .ref (M + 1), .ref (M + 2), .int (nI (kN K)), jk, .ref (M + 3), jk, jk, jk, jk, .ref (M + 4), jk, .int (nI (kP K k)), .int (nI k), .int (nI f), jk] [] h1 Q := by
            intro mz
            induction mz using Nat.strongRecOn with
            | _ mz ih =>
              intro f hmz hf hfn
              have hqf := hR.le (k := f) (by omega)
              refine ev_aload dL_lay_595 rfl ?_
              refine ev_iload dL_lay_597 rfl ?_
              refine ev_ialoadF dL_lay_599 (k5) (by omega) (by decide) ?_
              refine ev_if_leN 609 dL_lay_600 rfl (by omega) (fun hc600 => ?_) (fun hc600 => ?_)
              · refine ev_pc (pc' := 609) rfl ?_
                have hff : slU (gtN S K k) 0 = f := free_first hR (by omega) hc600 hfn
                have hg : gtN S K (k + 1) = ownS (putS (gtN S K k) (kR K k)) f := by rw [gtN_s, gt1_out hno60, hff]
                have hus : f = slU (gtN S K (k + 1)) (kR K k) := by
                  refine (slU_eq (g1 (k + 1) (by omega)) hqk.1.n0 (by omega) ?_).symm
                  rw [hg, ← hff]
                  exact upL_s _ _ _
                refine ev_aload dL_lay_609 rfl ?_
                refine ev_iload dL_lay_611 rfl ?_
                refine ev_aload dL_lay_613 rfl ?_
                refine ev_iload dL_lay_615 rfl ?_
                first | refine ev_ialoadF dL_lay_617 (k0) (by omega) (by decide) ?_ | refine ev_ialoadF dL_lay_617 (k4) (by omega) (by decide) ?_ | refine ev_ialoadF dL_lay_617 (k5) (by omega) (by decide) ?_ | refine ev_ialoadF dL_lay_617 (k6) (by omega) (by decide) ?_ | refine ev_ialoadF dL_lay_617 (a1) (by omega) (by decide) ?_ | refine ev_ialoadF dL_lay_617 (a2) (by omega) (by decide) ?_
                first | refine ev_iastoreF dL_lay_618 (k0) (by omega) (by decide) ?_ | refine ev_iastoreF dL_lay_618 (k4) (by omega) (by decide) ?_ | refine ev_iastoreF dL_lay_618 (k5) (by omega) (by decide) ?_ | refine ev_iastoreF dL_lay_618 (k6) (by omega) (by decide) ?_ | refine ev_iastoreF dL_lay_618 (a1) (by omega) (by decide) ?_ | refine ev_iastoreF dL_lay_618 (a2) (by omega) (by decide) ?_
                refine ev_aload dL_lay_619 rfl ?_
                refine ev_iload dL_lay_621 rfl ?_
                refine ev_aload dL_lay_623 rfl ?_
                refine ev_iload dL_lay_625 rfl ?_
                first | refine ev_laloadN dL_lay_627 (mset_s _ _ _) (by omega) (by decide) ?_ | refine ev_laloadN dL_lay_627 ((mset_n (by omega)).trans (k0)) (by omega) (by decide) ?_ | refine ev_laloadN dL_lay_627 ((mset_n (by omega)).trans (k4)) (by omega) (by decide) ?_ | refine ev_laloadN dL_lay_627 ((mset_n (by omega)).trans (k5)) (by omega) (by decide) ?_ | refine ev_laloadN dL_lay_627 ((mset_n (by omega)).trans (k6)) (by omega) (by decide) ?_ | refine ev_laloadN dL_lay_627 ((mset_n (by omega)).trans (a1)) (by omega) (by decide) ?_ | refine ev_laloadN dL_lay_627 ((mset_n (by omega)).trans (a2)) (by omega) (by decide) ?_
                first | refine ev_lastoreN dL_lay_628 (mset_s _ _ _) (by omega) (by decide) ?_ | refine ev_lastoreN dL_lay_628 ((mset_n (by omega)).trans (k0)) (by omega) (by decide) ?_ | refine ev_lastoreN dL_lay_628 ((mset_n (by omega)).trans (k4)) (by omega) (by decide) ?_ | refine ev_lastoreN dL_lay_628 ((mset_n (by omega)).trans (k5)) (by omega) (by decide) ?_ | refine ev_lastoreN dL_lay_628 ((mset_n (by omega)).trans (k6)) (by omega) (by decide) ?_ | refine ev_lastoreN dL_lay_628 ((mset_n (by omega)).trans (a1)) (by omega) (by decide) ?_ | refine ev_lastoreN dL_lay_628 ((mset_n (by omega)).trans (a2)) (by omega) (by decide) ?_
                refine ev_aload dL_lay_629 rfl ?_
                refine ev_iload dL_lay_631 rfl ?_
                refine ev_iconst (nI 0) dL_lay_633 rfl ?_
                first | refine ev_iastoreF dL_lay_634 (mset_s _ _ _) (by omega) (by decide) ?_ | refine ev_iastoreF dL_lay_634 ((mset_n (by omega)).trans (mset_s _ _ _)) (by omega) (by decide) ?_ | refine ev_iastoreF dL_lay_634 ((mset_n (by omega)).trans ((mset_n (by omega)).trans (k0))) (by omega) (by decide) ?_ | refine ev_iastoreF dL_lay_634 ((mset_n (by omega)).trans ((mset_n (by omega)).trans (k4))) (by omega) (by decide) ?_ | refine ev_iastoreF dL_lay_634 ((mset_n (by omega)).trans ((mset_n (by omega)).trans (k5))) (by omega) (by decide) ?_ | refine ev_iastoreF dL_lay_634 ((mset_n (by omega)).trans ((mset_n (by omega)).trans (k6))) (by omega) (by decide) ?_ | refine ev_iastoreF dL_lay_634 ((mset_n (by omega)).trans ((mset_n (by omega)).trans (a1))) (by omega) (by decide) ?_ | refine ev_iastoreF dL_lay_634 ((mset_n (by omega)).trans ((mset_n (by omega)).trans (a2))) (by omega) (by decide) ?_
                refine ev_aload_n dL_lay_635 rfl rfl ?_
                refine ev_bipush (nI 10) dL_lay_636 rfl ?_
                refine ev_dup2 dL_lay_638 rfl rfl ?_
                first | refine ev_ialoadF dL_lay_639 (mset_s _ _ _) (by omega) (by decide) ?_ | refine ev_ialoadF dL_lay_639 ((mset_n (by omega)).trans (mset_s _ _ _)) (by omega) (by decide) ?_ | refine ev_ialoadF dL_lay_639 ((mset_n (by omega)).trans ((mset_n (by omega)).trans (mset_s _ _ _))) (by omega) (by decide) ?_ | refine ev_ialoadF dL_lay_639 ((mset_n (by omega)).trans ((mset_n (by omega)).trans ((mset_n (by omega)).trans (k0)))) (by omega) (by decide) ?_ | refine ev_ialoadF dL_lay_639 ((mset_n (by omega)).trans ((mset_n (by omega)).trans ((mset_n (by omega)).trans (k4)))) (by omega) (by decide) ?_ | refine ev_ialoadF dL_lay_639 ((mset_n (by omega)).trans ((mset_n (by omega)).trans ((mset_n (by omega)).trans (k5)))) (by omega) (by decide) ?_ | refine ev_ialoadF dL_lay_639 ((mset_n (by omega)).trans ((mset_n (by omega)).trans ((mset_n (by omega)).trans (k6)))) (by omega) (by decide) ?_ | refine ev_ialoadF dL_lay_639 ((mset_n (by omega)).trans ((mset_n (by omega)).trans ((mset_n (by omega)).trans (a1)))) (by omega) (by decide) ?_ | refine ev_ialoadF dL_lay_639 ((mset_n (by omega)).trans ((mset_n (by omega)).trans ((mset_n (by omega)).trans (a2)))) (by omega) (by decide) ?_
                refine ev_iconst (nI 1) dL_lay_640 rfl ?_
                refine ev_iaddN dL_lay_641 ?_
                first | refine ev_iastoreF dL_lay_642 (mset_s _ _ _) (by omega) (by decide) ?_ | refine ev_iastoreF dL_lay_642 ((mset_n (by omega)).trans (mset_s _ _ _)) (by omega) (by decide) ?_ | refine ev_iastoreF dL_lay_642 ((mset_n (by omega)).trans ((mset_n (by omega)).trans (mset_s _ _ _))) (by omega) (by decide) ?_ | refine ev_iastoreF dL_lay_642 ((mset_n (by omega)).trans ((mset_n (by omega)).trans ((mset_n (by omega)).trans (k0)))) (by omega) (by decide) ?_ | refine ev_iastoreF dL_lay_642 ((mset_n (by omega)).trans ((mset_n (by omega)).trans ((mset_n (by omega)).trans (k4)))) (by omega) (by decide) ?_ | refine ev_iastoreF dL_lay_642 ((mset_n (by omega)).trans ((mset_n (by omega)).trans ((mset_n (by omega)).trans (k5)))) (by omega) (by decide) ?_ | refine ev_iastoreF dL_lay_642 ((mset_n (by omega)).trans ((mset_n (by omega)).trans ((mset_n (by omega)).trans (k6)))) (by omega) (by decide) ?_ | refine ev_iastoreF dL_lay_642 ((mset_n (by omega)).trans ((mset_n (by omega)).trans ((mset_n (by omega)).trans (a1)))) (by omega) (by decide) ?_ | refine ev_iastoreF dL_lay_642 ((mset_n (by omega)).trans ((mset_n (by omega)).trans ((mset_n (by omega)).trans (a2)))) (by omega) (by decide) ?_
                refine ev_aload dL_lay_643 rfl ?_
                refine ev_iload dL_lay_645 rfl ?_
                refine ev_dup2 dL_lay_647 rfl rfl ?_
                first | refine ev_ialoadF dL_lay_648 (mset_s _ _ _) (by omega) (by decide) ?_ | refine ev_ialoadF dL_lay_648 ((mset_n (by omega)).trans (mset_s _ _ _)) (by omega) (by decide) ?_ | refine ev_ialoadF dL_lay_648 ((mset_n (by omega)).trans ((mset_n (by omega)).trans (mset_s _ _ _))) (by omega) (by decide) ?_ | refine ev_ialoadF dL_lay_648 ((mset_n (by omega)).trans ((mset_n (by omega)).trans ((mset_n (by omega)).trans (mset_s _ _ _)))) (by omega) (by decide) ?_ | refine ev_ialoadF dL_lay_648 ((mset_n (by omega)).trans ((mset_n (by omega)).trans ((mset_n (by omega)).trans ((mset_n (by omega)).trans (k0))))) (by omega) (by decide) ?_ | refine ev_ialoadF dL_lay_648 ((mset_n (by omega)).trans ((mset_n (by omega)).trans ((mset_n (by omega)).trans ((mset_n (by omega)).trans (k4))))) (by omega) (by decide) ?_ | refine ev_ialoadF dL_lay_648 ((mset_n (by omega)).trans ((mset_n (by omega)).trans ((mset_n (by omega)).trans ((mset_n (by omega)).trans (k5))))) (by omega) (by decide) ?_ | refine ev_ialoadF dL_lay_648 ((mset_n (by omega)).trans ((mset_n (by omega)).trans ((mset_n (by omega)).trans ((mset_n (by omega)).trans (k6))))) (by omega) (by decide) ?_ | refine ev_ialoadF dL_lay_648 ((mset_n (by omega)).trans ((mset_n (by omega)).trans ((mset_n (by omega)).trans ((mset_n (by omega)).trans (a1))))) (by omega) (by decide) ?_ | refine ev_ialoadF dL_lay_648 ((mset_n (by omega)).trans ((mset_n (by omega)).trans ((mset_n (by omega)).trans ((mset_n (by omega)).trans (a2))))) (by omega) (by decide) ?_
                refine ev_iconst (nI 1) dL_lay_649 rfl ?_
                refine ev_iaddN dL_lay_650 ?_
                first | refine ev_iastoreF dL_lay_651 (mset_s _ _ _) (by omega) (by decide) ?_ | refine ev_iastoreF dL_lay_651 ((mset_n (by omega)).trans (mset_s _ _ _)) (by omega) (by decide) ?_ | refine ev_iastoreF dL_lay_651 ((mset_n (by omega)).trans ((mset_n (by omega)).trans (mset_s _ _ _))) (by omega) (by decide) ?_ | refine ev_iastoreF dL_lay_651 ((mset_n (by omega)).trans ((mset_n (by omega)).trans ((mset_n (by omega)).trans (mset_s _ _ _)))) (by omega) (by decide) ?_ | refine ev_iastoreF dL_lay_651 ((mset_n (by omega)).trans ((mset_n (by omega)).trans ((mset_n (by omega)).trans ((mset_n (by omega)).trans (k0))))) (by omega) (by decide) ?_ | refine ev_iastoreF dL_lay_651 ((mset_n (by omega)).trans ((mset_n (by omega)).trans ((mset_n (by omega)).trans ((mset_n (by omega)).trans (k4))))) (by omega) (by decide) ?_ | refine ev_iastoreF dL_lay_651 ((mset_n (by omega)).trans ((mset_n (by omega)).trans ((mset_n (by omega)).trans ((mset_n (by omega)).trans (k5))))) (by omega) (by decide) ?_ | refine ev_iastoreF dL_lay_651 ((mset_n (by omega)).trans ((mset_n (by omega)).trans ((mset_n (by omega)).trans ((mset_n (by omega)).trans (k6))))) (by omega) (by decide) ?_ | refine ev_iastoreF dL_lay_651 ((mset_n (by omega)).trans ((mset_n (by omega)).trans ((mset_n (by omega)).trans ((mset_n (by omega)).trans (a1))))) (by omega) (by decide) ?_ | refine ev_iastoreF dL_lay_651 ((mset_n (by omega)).trans ((mset_n (by omega)).trans ((mset_n (by omega)).trans ((mset_n (by omega)).trans (a2))))) (by omega) (by decide) ?_
                refine ev_pc (pc' := 652) rfl ?_
                refine SIGNS _ _ _ _ _ _ _ _ _ hus (((((ho.tr (Out.set (by omega) (by omega))).tr (Out.set (by omega) (by omega))).tr (Out.set (by omega) (by omega))).tr (Out.set (by omega) (by omega))).tr (Out.set (by omega) (by omega))) (((((hl2.s5 hV _).s4 hV _).s6 hV _).s0 hV _).s6 hV _) ?_ ?_ (fun i hi => ?_) hx ?_
                · rw [hg]; exact hR.put hff hqk.1
                · rw [upN_s, hn, hg]; rfl
                · rw [upN_n hi]; exact hno i hi
                · exact hpl.st (fun q hq => g3 k q hkN hq)
              · refine ev_iincN (L' := [_, _, _, _, _, _, _, _, _, _, _, _, _, _, _, _, _, _, _, _, _, _, _, _, _, _]) 1 dL_lay_603 rfl rfl ?_
                refine ev_goto 595 dL_lay_606 rfl ?_
                refine ev_pc (pc' := 595) rfl ?_
                have hne : q2 f ≠ 0 := by omega
                have hlt : f ≠ slU (gtN S K k) 0 := fun z => (hR.pos (by omega)).mp hne (by rw [z]; exact slU_at hf60)
                exact ih (60 - (f + 1)) (by omega) (f + 1) rfl (by omega) (fun j hj => by
                  by_cases e : j = f
                  · rw [e]; exact hne
                  · exact hfn j (by omega))
          exact LP595 _ 0 rfl (Nat.zero_le _) (fun j hj => absurd hj (Nat.not_lt_zero j))
  exact LP561 _ 0 h gn gs ge gl gc gq go rfl (Nat.zero_le _) Out.rf hl hS hgn (fun _ _ => rfl) (fun _ _ => ⟨rfl, rfl, rfl⟩) (fun q hq => absurd hq (Nat.not_lt_zero q))
