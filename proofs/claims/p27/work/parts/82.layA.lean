/-- the law's arrays, and the row of values -/
def LwN (h : mH) (V : Nat) (gn gs ge gl : Nat → Nat) (gc : Nat → Int64) (gq go gv : Nat → Nat) : Prop := h 270 = some (aI 12 (nf gn)) ∧ h 271 = some (aI 64 (nf gs)) ∧ h 272 = some (aI 64 (nf ge)) ∧ h 273 = some (aI 64 (nf gl)) ∧ h 274 = some (aL 60 gc) ∧ h 275 = some (aI 60 (nf gq)) ∧ h 276 = some (aI 60 (nf go)) ∧ h V = some (aI 16 (nf gv))
theorem LwN.go {h h1 : mH} {V : Nat} {gn gs ge gl : Nat → Nat} {gc : Nat → Int64} {gq go gv : Nat → Nat} {a n : Nat} (x : LwN h V gn gs ge gl gc gq go gv) (o : Out h h1 a n) (ha : 277 ≤ a ∨ a + n ≤ 270) (hV : V < a ∨ a + n ≤ V) : LwN h1 V gn gs ge gl gc gq go gv := by
  obtain ⟨k0, k1, k2, k3, k4, k5, k6, k7⟩ := x
  exact ⟨(o _ (by omega)).trans k0, (o _ (by omega)).trans k1, (o _ (by omega)).trans k2, (o _ (by omega)).trans k3, (o _ (by omega)).trans k4, (o _ (by omega)).trans k5, (o _ (by omega)).trans k6, (o _ (by omega)).trans k7⟩
theorem endL_le (gn gv : Nat → Nat) (many p len : Nat) : endL gn gv many p len ≤ 3 := by
  unfold endL
  (repeat' split) <;> omega
theorem endL_cut {v gn gv : Nat → Nat} {n i m : Nat} (hz : ∀ k, k < 5 → gn (4 + k) = v k) (hm : m ≤ v 4) : endL gn gv n i m = if cutE v gv i m = true then 1 else if cutF v m = true then 2 else if i + 1 = n then 3 else 0 := by
  have z0 : gn 4 = v 0 := hz 0 (by omega)
  have z1 : gn 5 = v 1 := hz 1 (by omega)
  have z2 : gn 6 = v 2 := hz 2 (by omega)
  have z3 : gn 7 = v 3 := hz 3 (by omega)
  have z4 : gn 8 = v 4 := hz 4 (by omega)
  unfold endL cutE cutF
  rw [z0, z1, z2, z3, z4]
  by_cases h1 : v 3 ≤ m ∧ sumN gv (v 0) i % v 1 = v 2
  · rw [if_pos h1, if_pos (by rw [decide_eq_true h1.1, decide_eq_true h1.2]; rfl)]
  · have e1 : ¬ ((decide (v 3 ≤ m) && decide (sumN gv (v 0) i % v 1 = v 2)) = true) := fun z => h1 (by simpa using z)
    rw [if_neg h1, if_neg e1]
    by_cases h2 : m = v 4
    · rw [if_pos h2, if_pos (decide_eq_true (by omega))]
    · rw [if_neg h2, if_neg (show ¬ decide (v 4 ≤ m) = true from fun z => h2 (by have := of_decide_eq_true z; omega))]
theorem endL_y {v gn gv : Nat → Nat} {n i m : Nat} (hz : ∀ k, k < 5 → gn (4 + k) = v k) (hm : m ≤ v 4) (h : ¬ endL gn gv n i m = 0) : cutH v gv n i m = true ∧ (endL gn gv n i m = 2 ↔ (cutF v m && !(cutE v gv i m)) = true) := by
  rw [endL_cut hz hm] at h ⊢
  cases a : cutE v gv i m with
  | true => exact ⟨cutH_1 a, by simp⟩
  | false =>
    cases b : cutF v m with
    | true => exact ⟨cutH_2 b, by simp⟩
    | false =>
      rw [a, b, if_neg (by decide), if_neg (by decide)] at h
      by_cases e : i + 1 = n
      · exact ⟨cutH_3 e, by simp [e]⟩
      · rw [if_neg e] at h
        exact absurd rfl h
theorem endL_n0 {v gn gv : Nat → Nat} {n i m : Nat} (hz : ∀ k, k < 5 → gn (4 + k) = v k) (hm : m ≤ v 4) (h : endL gn gv n i m = 0) : cutH v gv n i m = false := by
  rw [endL_cut hz hm] at h
  cases a : cutE v gv i m with
  | true => rw [a, if_pos rfl] at h; cases h
  | false =>
    cases b : cutF v m with
    | true => rw [a, b, if_neg (by decide), if_pos rfl] at h; cases h
    | false =>
      rw [a, b, if_neg (by decide), if_neg (by decide)] at h
      by_cases e : i + 1 = n
      · rw [if_pos e] at h; cases h
      · exact cutH_n a b e
/-- the law's pieces so far: codes, lengths, ends -/
def CutA (f1 : Nat → Int64) (f2 f3 gv : Nat → Nat) (σ : mCs) (p : Nat) : Prop := (∀ q, q < σ.2.1 → f1 q = c9 gv (σ.2.2.1 q) (σ.2.2.2.1 q) ∧ f2 q = σ.2.2.2.1 q ∧ (1 ≤ f3 q ∧ f3 q ≤ 3) ∧ (f3 q = 2 ↔ σ.2.2.2.2.1 q = true)) ∧ f1 σ.2.1 = c9 gv σ.1 (p - σ.1) ∧ ∀ q, σ.2.1 < q → f1 q = 0
def CutL (f1 : Nat → Int64) (f2 f3 : Nat → Nat) (K : mCt) : Prop := ∀ p, p < kN K → f1 p = c9 (kS K) (kP K p) (kQ K p) ∧ f2 p = kQ K p ∧ (1 ≤ f3 p ∧ f3 p ≤ 3) ∧ (f3 p = 2 ↔ kF K p = true)
theorem CutA.new {f1 : Nat → Int64} {f2 f3 gv : Nat → Nat} {σ : mCs} {p : Nat} (h : CutA f1 f2 f3 gv σ p) (hp : σ.1 ≤ p) : f1 σ.2.1 * 9 + lN (gv p) = c9 gv σ.1 (p - σ.1 + 1) := by
  rw [c9, h.2.1, show σ.1 + (p - σ.1) = p by omega]
theorem CutA.step_n {f1 : Nat → Int64} {f2 f3 gv : Nat → Nat} {σ : mCs} {p x y : Nat} (h : CutA f1 f2 f3 gv σ p) (hp : σ.1 ≤ p) : CutA (vp_updL f1 σ.2.1 (f1 σ.2.1 * 9 + lN (gv p))) (upN f2 σ.2.1 x) (upN f3 σ.2.1 y) gv σ (p + 1) := by
  refine ⟨fun q hq => ?_, ?_, fun q hq => ?_⟩
  · rw [upL_n (by omega), upN_n (by omega), upN_n (by omega)]
    exact h.1 q hq
  · rw [upL_s, h.new hp, show p + 1 - σ.1 = p - σ.1 + 1 by omega]
  · rw [upL_n (by omega)]
    exact h.2.2 q hq
theorem CutA.step_y {f1 : Nat → Int64} {f2 f3 gv : Nat → Nat} {σ : mCs} {p e : Nat} {b : Bool} (h : CutA f1 f2 f3 gv σ p) (hp : σ.1 ≤ p) (he : 1 ≤ e ∧ e ≤ 3) (hb : e = 2 ↔ b = true) : CutA (vp_updL f1 σ.2.1 (f1 σ.2.1 * 9 + lN (gv p))) (upN f2 σ.2.1 (p - σ.1 + 1)) (upN f3 σ.2.1 e) gv (cutP gv σ p (p - σ.1 + 1) b) (p + 1) := by
  refine ⟨fun q hq => ?_, ?_, fun q hq => ?_⟩
  · have hq' : q < σ.2.1 + 1 := hq
    show vp_updL f1 σ.2.1 (f1 σ.2.1 * 9 + lN (gv p)) q = c9 gv (upN σ.2.2.1 σ.2.1 σ.1 q) (upN σ.2.2.2.1 σ.2.1 (p - σ.1 + 1) q) ∧ upN f2 σ.2.1 (p - σ.1 + 1) q = upN σ.2.2.2.1 σ.2.1 (p - σ.1 + 1) q ∧ (1 ≤ upN f3 σ.2.1 e q ∧ upN f3 σ.2.1 e q ≤ 3) ∧ (upN f3 σ.2.1 e q = 2 ↔ upB σ.2.2.2.2.1 σ.2.1 b q = true)
    by_cases k : q = σ.2.1
    · rw [k, upL_s, upN_s, upN_s, upN_s, upN_s, upB_s, h.new hp]
      exact ⟨rfl, rfl, he, hb⟩
    · rw [upL_n k, upN_n k, upN_n k, upN_n k, upN_n k, upB_n k]
      exact h.1 q (by omega)
  · show vp_updL f1 σ.2.1 (f1 σ.2.1 * 9 + lN (gv p)) (σ.2.1 + 1) = c9 gv (p + 1) (p + 1 - (p + 1))
    rw [upL_n (by omega), Nat.sub_self, h.2.2 _ (by omega)]
    rfl
  · have hq' : σ.2.1 + 1 < q := hq
    rw [upL_n (by omega)]
    exact h.2.2 q (by omega)
set_option maxHeartbeats 4000000 in
set_option maxRecDepth 100000 in
theorem lay_A {X : mX} {h : mH} {V M : Nat} {gn gs ge gl : Nat → Nat} {gc : Nat → Int64} {gq go gv : Nat → Nat} {f' : Option Nat} {ce sl mc ms : Nat} {Q : mO → mH → Prop} (hl : LwN h V gn gs ge gl gc gq go gv) (hV : 277 ≤ V) (hVM : V < M) (hM : M + 5 < 1000000) {v : Nat → Nat} (hv : SetV v) (hz : ∀ k, k < 5 → gn (4 + k) = v k) (hS : SetL gn) (t many : Nat) (hm : many ≤ 16) (hg : ∀ j, j < many → 1 ≤ gv j ∧ gv j ≤ 8) (hce : ce + 5 ≤ mc) (hsl : sl + 168 ≤ ms)
    (kk : ∀ (h1 : mH) (f1 : Nat → Int64) (f2 f3 : Nat → Nat), Out h h1 M 3 → h1 M = some (aL 16 f1) → h1 (M + 1) = some (aI 16 (nf f2)) → h1 (M + 2) = some (aI 16 (nf f3)) → CutL f1 f2 f3 (cutK v many gv) → Ev X m_L_lay (some (M + 3), f', ce + 3, sl + 48, mc, ms) 115 [.ref 270, .ref 271, .ref 272, .ref 273, .ref 274, .ref 275, .ref 276, .int (nI t), .ref V, .int (nI many), .ref M, .ref (M + 1), .ref (M + 2), .int (nI (kN (cutK v many gv))), jk, jk, jk, jk, jk, jk, jk, jk, jk, jk, jk, jk] [] h1 Q) :
    Ev X m_L_lay (some M, f', ce, sl, mc, ms) 0 [.ref 270, .ref 271, .ref 272, .ref 273, .ref 274, .ref 275, .ref 276, .int (nI t), .ref V, .int (nI many), jk, jk, jk, jk, jk, jk, jk, jk, jk, jk, jk, jk, jk, jk, jk, jk] [] h Q := by
  refine ev_bipush (nI 16) dL_lay_0 rfl ?_
  refine ev_newL 16 dL_lay_2 w_arrL (by decide) rfl (by decide) (by first | omega | (simp only [NN]; omega)) (by first | omega | (simp only [NN]; omega)) (by first | omega | (simp only [NN]; omega)) ?_
  refine ev_astore (L' := [_, _, _, _, _, _, _, _, _, _, _, _, _, _, _, _, _, _, _, _, _, _, _, _, _, _]) dL_lay_4 (Nat.le_of_ble_eq_true rfl) rfl ?_
  refine ev_bipush (nI 16) dL_lay_6 rfl ?_
  refine ev_newIN 16 dL_lay_8 (by decide) rfl (by decide) (by first | omega | (simp only [NN]; omega)) (by first | omega | (simp only [NN]; omega)) (by first | omega | (simp only [NN]; omega)) ?_
  refine ev_astore (L' := [_, _, _, _, _, _, _, _, _, _, _, _, _, _, _, _, _, _, _, _, _, _, _, _, _, _]) dL_lay_10 (Nat.le_of_ble_eq_true rfl) rfl ?_
  refine ev_bipush (nI 16) dL_lay_12 rfl ?_
  refine ev_newIN 16 dL_lay_14 (by decide) rfl (by decide) (by first | omega | (simp only [NN]; omega)) (by first | omega | (simp only [NN]; omega)) (by first | omega | (simp only [NN]; omega)) ?_
  refine ev_astore (L' := [_, _, _, _, _, _, _, _, _, _, _, _, _, _, _, _, _, _, _, _, _, _, _, _, _, _]) dL_lay_16 (Nat.le_of_ble_eq_true rfl) rfl ?_
  refine ev_iconst (nI 0) dL_lay_18 rfl ?_
  refine ev_istore (L' := [_, _, _, _, _, _, _, _, _, _, _, _, _, _, _, _, _, _, _, _, _, _, _, _, _, _]) dL_lay_19 (Nat.le_of_ble_eq_true rfl) rfl ?_
  refine ev_iconst (nI 0) dL_lay_21 rfl ?_
  refine ev_istore (L' := [_, _, _, _, _, _, _, _, _, _, _, _, _, _, _, _, _, _, _, _, _, _, _, _, _, _]) dL_lay_22 (Nat.le_of_ble_eq_true rfl) rfl ?_
  refine ev_iconst (nI 0) dL_lay_24 rfl ?_
  refine ev_istore (L' := [_, _, _, _, _, _, _, _, _, _, _, _, _, _, _, _, _, _, _, _, _, _, _, _, _, _]) dL_lay_25 (Nat.le_of_ble_eq_true rfl) rfl ?_
  refine ev_pc (pc' := 27) rfl ?_
  have LP27 : ∀ (mz : Nat) (p : Nat) (h1 : mH) (f1 : Nat → Int64) (f2 : Nat → Nat) (f3 : Nat → Nat), many - p = mz → (p ≤ many) → (Out h h1 M 3) → (h1 M = some (aL 16 f1)) → (h1 (M + 1) = some (aI 16 (nf f2))) → (h1 (M + 2) = some (aI 16 (nf f3))) → (CutA f1 f2 f3 gv (cutG v many gv p) p) → Ev X m_L_lay (some (M + 3), f', ce + 3, sl + 48, mc, ms) 27 [.ref 270, .ref 271, .ref 272, .ref 273, .ref 274, .ref 275, .ref 276, .int (nI t), .ref V, .int (nI many), .ref M, .ref (M + 1), .ref (M + 2), .int (nI (cutG v many gv p).2.1), .int (nI (cutG v many gv p).1), .int (nI p), jk, jk, jk, jk, jk, jk, jk, jk, jk, jk] [] h1 Q := by
    intro mz
    induction mz using Nat.strongRecOn with
    | _ mz ih =>
      intro p h1 f1 f2 f3 hmz hp ho a1 a2 a3 hA
      obtain ⟨k0, k1, k2, k3, k4, k5, k6, k7⟩ := hl.go ho (Or.inl (by omega)) (Or.inl hVM)
      obtain ⟨-, hin, -⟩ := cut_in hv hg p hp
      have hst := cutG_st v many gv p
      have hz4 : gn 8 = v 4 := hz 4 (by omega)
      have hv20 := hv.2.2.2.2
      have hep := endL_le gn gv many p (p - (cutG v many gv p).1 + 1)
      have ey := fun z => cutG_y (v := v) (n := many) (s := gv) (i := p) z
      have en := fun z => cutG_n (v := v) (n := many) (s := gv) (i := p) z
      have ly := fun z => endL_y (v := v) (gn := gn) (gv := gv) (n := many) (i := p) (m := p - (cutG v many gv p).1 + 1) hz (by omega) z
      have ln := fun z => endL_n0 (v := v) (gn := gn) (gv := gv) (n := many) (i := p) (m := p - (cutG v many gv p).1 + 1) hz (by omega) z
      generalize hσ : cutG v many gv p = σ at *
      have hgp : p < many → gv p ≤ 8 := fun z => (hg p z).2
      refine ev_iload dL_lay_27 rfl ?_
      refine ev_iload dL_lay_29 rfl ?_
      refine ev_icmp_geN 115 dL_lay_31 rfl (by omega) (by omega) (fun hc31 => ?_) (fun hc31 => ?_)
      · refine ev_pc (pc' := 115) rfl ?_
        have ep : p = many := by omega
        subst ep
        refine ev_fgt 14 (L' := [_, _, _, _, _, _, _, _, _, _, _, _, _, _, _, _, _, _, _, _, _, _, _, _, _, _]) rfl ?_
        refine ev_fgt 15 (L' := [_, _, _, _, _, _, _, _, _, _, _, _, _, _, _, _, _, _, _, _, _, _, _, _, _, _]) rfl ?_
        subst hσ
        exact kk h1 f1 f2 f3 ho a1 a2 a3 hA.1
      · refine ev_aload dL_lay_34 rfl ?_
        refine ev_iload dL_lay_36 rfl ?_
        refine ev_aload dL_lay_38 rfl ?_
        refine ev_iload dL_lay_40 rfl ?_
        first | refine ev_laloadN dL_lay_42 (k0) (by omega) (by decide) ?_ | refine ev_laloadN dL_lay_42 (k7) (by omega) (by decide) ?_ | refine ev_laloadN dL_lay_42 (a1) (by omega) (by decide) ?_ | refine ev_laloadN dL_lay_42 (a2) (by omega) (by decide) ?_ | refine ev_laloadN dL_lay_42 (a3) (by omega) (by decide) ?_
        refine ev_ldc2 _ dL_lay_43 lc_8_8 ?_
        refine ev_lmul dL_lay_46 ?_
        refine ev_aload dL_lay_47 rfl ?_
        refine ev_iload dL_lay_49 rfl ?_
        first | refine ev_ialoadF dL_lay_51 (k0) (by omega) (by decide) ?_ | refine ev_ialoadF dL_lay_51 (k7) (by omega) (by decide) ?_ | refine ev_ialoadF dL_lay_51 (a1) (by omega) (by decide) ?_ | refine ev_ialoadF dL_lay_51 (a2) (by omega) (by decide) ?_ | refine ev_ialoadF dL_lay_51 (a3) (by omega) (by decide) ?_
        refine ev_i2lN dL_lay_52 (by omega) ?_
        refine ev_ladd dL_lay_53 ?_
        first | refine ev_lastoreN dL_lay_54 (k0) (by omega) (by decide) ?_ | refine ev_lastoreN dL_lay_54 (k7) (by omega) (by decide) ?_ | refine ev_lastoreN dL_lay_54 (a1) (by omega) (by decide) ?_ | refine ev_lastoreN dL_lay_54 (a2) (by omega) (by decide) ?_ | refine ev_lastoreN dL_lay_54 (a3) (by omega) (by decide) ?_
        refine ev_aload dL_lay_55 rfl ?_
        refine ev_iload dL_lay_57 rfl ?_
        refine ev_iload dL_lay_59 rfl ?_
        refine ev_iload dL_lay_61 rfl ?_
        refine ev_isubN dL_lay_63 (by omega) ?_
        refine ev_iconst (nI 1) dL_lay_64 rfl ?_
        refine ev_iaddN dL_lay_65 ?_
        first | refine ev_iastoreF dL_lay_66 (mset_s _ _ _) (by omega) (by decide) ?_ | refine ev_iastoreF dL_lay_66 ((mset_n (by omega)).trans (k0)) (by omega) (by decide) ?_ | refine ev_iastoreF dL_lay_66 ((mset_n (by omega)).trans (k7)) (by omega) (by decide) ?_ | refine ev_iastoreF dL_lay_66 ((mset_n (by omega)).trans (a1)) (by omega) (by decide) ?_ | refine ev_iastoreF dL_lay_66 ((mset_n (by omega)).trans (a2)) (by omega) (by decide) ?_ | refine ev_iastoreF dL_lay_66 ((mset_n (by omega)).trans (a3)) (by omega) (by decide) ?_
        refine ev_aload dL_lay_67 rfl ?_
        refine ev_iload dL_lay_69 rfl ?_
        refine ev_aload_n dL_lay_71 rfl rfl ?_
        refine ev_aload dL_lay_72 rfl ?_
        refine ev_iload dL_lay_74 rfl ?_
        refine ev_iload dL_lay_76 rfl ?_
        refine ev_iload dL_lay_78 rfl ?_
        refine ev_iload dL_lay_80 rfl ?_
        refine ev_isubN dL_lay_82 (by omega) ?_
        refine ev_iconst (nI 1) dL_lay_83 rfl ?_
        refine ev_iaddN dL_lay_84 ?_
        refine ev_cSP5 dL_lay_85 cal_L_ends lk_8_10 ⟨(Nat.le_of_ble_eq_true rfl), (Nat.le_of_ble_eq_true rfl)⟩ rfl (Nat.le_of_ble_eq_true rfl) (by omega) (by omega) (c_ends (X := X) ((mset_n (by omega)).trans ((mset_n (by omega)).trans k0)) ((mset_n (by omega)).trans ((mset_n (by omega)).trans k7)) hS many p (p - σ.1 + 1) (by omega) hm (fun j hj => (hg j hj).2) (by omega)) ?_
        first | refine ev_iastoreF dL_lay_88 (mset_s _ _ _) (by omega) (by decide) ?_ | refine ev_iastoreF dL_lay_88 ((mset_n (by omega)).trans (mset_s _ _ _)) (by omega) (by decide) ?_ | refine ev_iastoreF dL_lay_88 ((mset_n (by omega)).trans ((mset_n (by omega)).trans (k0))) (by omega) (by decide) ?_ | refine ev_iastoreF dL_lay_88 ((mset_n (by omega)).trans ((mset_n (by omega)).trans (k7))) (by omega) (by decide) ?_ | refine ev_iastoreF dL_lay_88 ((mset_n (by omega)).trans ((mset_n (by omega)).trans (a1))) (by omega) (by decide) ?_ | refine ev_iastoreF dL_lay_88 ((mset_n (by omega)).trans ((mset_n (by omega)).trans (a2))) (by omega) (by decide) ?_ | refine ev_iastoreF dL_lay_88 ((mset_n (by omega)).trans ((mset_n (by omega)).trans (a3))) (by omega) (by decide) ?_
        refine ev_aload dL_lay_89 rfl ?_
        refine ev_iload dL_lay_91 rfl ?_
        first | refine ev_ialoadF dL_lay_93 (mset_s _ _ _) (by omega) (by decide) ?_ | refine ev_ialoadF dL_lay_93 ((mset_n (by omega)).trans (mset_s _ _ _)) (by omega) (by decide) ?_ | refine ev_ialoadF dL_lay_93 ((mset_n (by omega)).trans ((mset_n (by omega)).trans (mset_s _ _ _))) (by omega) (by decide) ?_ | refine ev_ialoadF dL_lay_93 ((mset_n (by omega)).trans ((mset_n (by omega)).trans ((mset_n (by omega)).trans (k0)))) (by omega) (by decide) ?_ | refine ev_ialoadF dL_lay_93 ((mset_n (by omega)).trans ((mset_n (by omega)).trans ((mset_n (by omega)).trans (k7)))) (by omega) (by decide) ?_ | refine ev_ialoadF dL_lay_93 ((mset_n (by omega)).trans ((mset_n (by omega)).trans ((mset_n (by omega)).trans (a1)))) (by omega) (by decide) ?_ | refine ev_ialoadF dL_lay_93 ((mset_n (by omega)).trans ((mset_n (by omega)).trans ((mset_n (by omega)).trans (a2)))) (by omega) (by decide) ?_ | refine ev_ialoadF dL_lay_93 ((mset_n (by omega)).trans ((mset_n (by omega)).trans ((mset_n (by omega)).trans (a3)))) (by omega) (by decide) ?_
        rw [upN_s]
        refine ev_if_neN 100 dL_lay_94 rfl (by omega) (fun hc94 => ?_) (fun hc94 => ?_)
        · refine ev_pc (pc' := 100) rfl ?_
          have hy : ¬ endL gn gv many p (p - σ.1 + 1) = 0 := hc94
          obtain ⟨y1, y2⟩ := ly hy
          refine ev_iincN (L' := [_, _, _, _, _, _, _, _, _, _, _, _, _, _, _, _, _, _, _, _, _, _, _, _, _, _]) 1 dL_lay_100 rfl rfl ?_
          refine ev_iload dL_lay_103 rfl ?_
          refine ev_iconst (nI 1) dL_lay_105 rfl ?_
          refine ev_iaddN dL_lay_106 ?_
          refine ev_istore (L' := [_, _, _, _, _, _, _, _, _, _, _, _, _, _, _, _, _, _, _, _, _, _, _, _, _, _]) dL_lay_107 (Nat.le_of_ble_eq_true rfl) rfl ?_
          refine ev_iincN (L' := [_, _, _, _, _, _, _, _, _, _, _, _, _, _, _, _, _, _, _, _, _, _, _, _, _, _]) 1 dL_lay_109 rfl rfl ?_
          refine ev_goto 27 dL_lay_112 rfl ?_
          refine ev_pc (pc' := 27) rfl ?_
          have E := ih (many - (p + 1)) (by omega) (p + 1) _ _ _ _ rfl (by omega) (((ho.tr (Out.set (by omega) (by omega))).tr (Out.set (by omega) (by omega))).tr (Out.set (by omega) (by omega))) ((mset_n (by omega)).trans ((mset_n (by omega)).trans (mset_s _ _ _))) ((mset_n (by omega)).trans (mset_s _ _ _)) (mset_s _ _ _) (by rw [ey y1]; exact hA.step_y hst.1 ⟨by omega, hep⟩ y2)
          rw [ey y1] at E
          exact E
        · refine ev_goto 109 dL_lay_97 rfl ?_
          refine ev_iincN (L' := [_, _, _, _, _, _, _, _, _, _, _, _, _, _, _, _, _, _, _, _, _, _, _, _, _, _]) 1 dL_lay_109 rfl rfl ?_
          refine ev_goto 27 dL_lay_112 rfl ?_
          refine ev_pc (pc' := 27) rfl ?_
          have hn : endL gn gv many p (p - σ.1 + 1) = 0 := hc94
          have e9 := en (ln hn)
          have E := ih (many - (p + 1)) (by omega) (p + 1) _ _ _ _ rfl (by omega) (((ho.tr (Out.set (by omega) (by omega))).tr (Out.set (by omega) (by omega))).tr (Out.set (by omega) (by omega))) ((mset_n (by omega)).trans ((mset_n (by omega)).trans (mset_s _ _ _))) ((mset_n (by omega)).trans (mset_s _ _ _)) (mset_s _ _ _) (by rw [e9]; exact hA.step_n (x := p - σ.1 + 1) (y := endL gn gv many p (p - σ.1 + 1)) hst.1)
          rw [e9] at E
          exact E
  exact LP27 _ 0 _ (fun _ => 0) (fun _ => 0) (fun _ => 0) rfl (Nat.zero_le _) (((Out.set (by omega) (by omega)).tr (Out.set (by omega) (by omega))).tr (Out.set (by omega) (by omega))) ((mset_n (by omega)).trans ((mset_n (by omega)).trans (mset_s _ _ _))) ((mset_n (by omega)).trans (mset_s _ _ _)) (mset_s _ _ _) ⟨fun q hq => absurd hq (Nat.not_lt_zero q), rfl, fun q hq => rfl⟩
