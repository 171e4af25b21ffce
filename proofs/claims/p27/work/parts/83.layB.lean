set_option maxHeartbeats 4000000 in
set_option maxRecDepth 100000 in
theorem lay_B {X : mX} {h : mH} {V M np : Nat} {gn gs ge gl : Nat → Nat} {gc : Nat → Int64} {gq go gv : Nat → Nat} {f' : Option Nat} {ce sl mc ms : Nat} {Q : mO → mH → Prop} (hl : LwN h V gn gs ge gl gc gq go gv) (hV : 277 ≤ V) (hVM : V < M) (hM : M + 5 < 1000000) (hq16 : ∀ k, k < 60 → gq k ≤ 16) (t many : Nat) (hce : ce + 1 ≤ mc) (hsl : sl + 60 ≤ ms)
    (kk : ∀ (h1 : mH) (f4 : Nat → Nat), Out h h1 (M + 3) 1 → h1 (M + 3) = some (aI 60 (nf f4)) → (∀ j, j < 60 → f4 j = go j) → Ev X m_L_lay (some (M + 4), f', ce + 1, sl + 60, mc, ms) 174 [.ref 270, .ref 271, .ref 272, .ref 273, .ref 274, .ref 275, .ref 276, .int (nI t), .ref V, .int (nI many), .ref M, .ref (M + 1), .ref (M + 2), .int (nI np), jk, .ref (M + 3), .int (nI (smN gq 60)), .int (nI (ctN (fun j => decide (gq j = 0)) 60)), jk, jk, jk, jk, jk, jk, jk, jk] [] h1 Q) :
    Ev X m_L_lay (some (M + 3), f', ce, sl, mc, ms) 115 [.ref 270, .ref 271, .ref 272, .ref 273, .ref 274, .ref 275, .ref 276, .int (nI t), .ref V, .int (nI many), .ref M, .ref (M + 1), .ref (M + 2), .int (nI np), jk, jk, jk, jk, jk, jk, jk, jk, jk, jk, jk, jk] [] h Q := by
  refine ev_bipush (nI 60) dL_lay_115 rfl ?_
  refine ev_newIN 60 dL_lay_117 (by decide) rfl (by decide) (by first | omega | (simp only [NN]; omega)) (by first | omega | (simp only [NN]; omega)) (by first | omega | (simp only [NN]; omega)) ?_
  refine ev_astore (L' := [_, _, _, _, _, _, _, _, _, _, _, _, _, _, _, _, _, _, _, _, _, _, _, _, _, _]) dL_lay_119 (Nat.le_of_ble_eq_true rfl) rfl ?_
  refine ev_iconst (nI 0) dL_lay_121 rfl ?_
  refine ev_istore (L' := [_, _, _, _, _, _, _, _, _, _, _, _, _, _, _, _, _, _, _, _, _, _, _, _, _, _]) dL_lay_122 (Nat.le_of_ble_eq_true rfl) rfl ?_
  refine ev_iconst (nI 0) dL_lay_124 rfl ?_
  refine ev_istore (L' := [_, _, _, _, _, _, _, _, _, _, _, _, _, _, _, _, _, _, _, _, _, _, _, _, _, _]) dL_lay_125 (Nat.le_of_ble_eq_true rfl) rfl ?_
  refine ev_iconst (nI 0) dL_lay_127 rfl ?_
  refine ev_istore (L' := [_, _, _, _, _, _, _, _, _, _, _, _, _, _, _, _, _, _, _, _, _, _, _, _, _, _]) dL_lay_128 (Nat.le_of_ble_eq_true rfl) rfl ?_
  refine ev_pc (pc' := 130) rfl ?_
  have LP130 : ∀ (mz : Nat) (k : Nat) (h1 : mH) (f4 : Nat → Nat), 60 - k = mz → (k ≤ 60) → (Out h h1 (M + 3) 1) → (h1 (M + 3) = some (aI 60 (nf f4))) → (∀ j, j < k → f4 j = go j) → Ev X m_L_lay (some (M + 4), f', ce + 1, sl + 60, mc, ms) 130 [.ref 270, .ref 271, .ref 272, .ref 273, .ref 274, .ref 275, .ref 276, .int (nI t), .ref V, .int (nI many), .ref M, .ref (M + 1), .ref (M + 2), .int (nI np), jk, .ref (M + 3), .int (nI (smN gq k)), .int (nI (ctN (fun j => decide (gq j = 0)) k)), .int (nI k), jk, jk, jk, jk, jk, jk, jk] [] h1 Q := by
    intro mz
    induction mz using Nat.strongRecOn with
    | _ mz ih =>
      intro k h1 f4 hmz hk ho a4 hf
      obtain ⟨k0, k1, k2, k3, k4, k5, k6, k7⟩ := hl.go ho (Or.inl (by omega)) (Or.inl (by omega))
      have hqk := hq16 k
      refine ev_iload dL_lay_130 rfl ?_
      refine ev_bipush (nI 60) dL_lay_132 rfl ?_
      refine ev_icmp_geN 174 dL_lay_134 rfl (by omega) (by omega) (fun hc134 => ?_) (fun hc134 => ?_)
      · refine ev_pc (pc' := 174) rfl ?_
        have ek : k = 60 := by omega
        subst ek
        refine ev_fgt 18 (L' := [_, _, _, _, _, _, _, _, _, _, _, _, _, _, _, _, _, _, _, _, _, _, _, _, _, _]) rfl ?_
        exact kk h1 f4 ho a4 hf
      · refine ev_aload dL_lay_137 rfl ?_
        refine ev_iload dL_lay_139 rfl ?_
        refine ev_aload dL_lay_141 rfl ?_
        refine ev_iload dL_lay_143 rfl ?_
        first | refine ev_ialoadF dL_lay_145 (k5) (by omega) (by decide) ?_ | refine ev_ialoadF dL_lay_145 (k6) (by omega) (by decide) ?_ | refine ev_ialoadF dL_lay_145 (a4) (by omega) (by decide) ?_
        first | refine ev_iastoreF dL_lay_146 (k5) (by omega) (by decide) ?_ | refine ev_iastoreF dL_lay_146 (k6) (by omega) (by decide) ?_ | refine ev_iastoreF dL_lay_146 (a4) (by omega) (by decide) ?_
        refine ev_iload dL_lay_147 rfl ?_
        refine ev_aload dL_lay_149 rfl ?_
        refine ev_iload dL_lay_151 rfl ?_
        first | refine ev_ialoadF dL_lay_153 (mset_s _ _ _) (by omega) (by decide) ?_ | refine ev_ialoadF dL_lay_153 ((mset_n (by omega)).trans (k5)) (by omega) (by decide) ?_ | refine ev_ialoadF dL_lay_153 ((mset_n (by omega)).trans (k6)) (by omega) (by decide) ?_ | refine ev_ialoadF dL_lay_153 ((mset_n (by omega)).trans (a4)) (by omega) (by decide) ?_
        refine ev_iaddN dL_lay_154 ?_
        refine ev_istore (L' := [_, _, _, _, _, _, _, _, _, _, _, _, _, _, _, _, _, _, _, _, _, _, _, _, _, _]) dL_lay_155 (Nat.le_of_ble_eq_true rfl) rfl ?_
        refine ev_aload dL_lay_157 rfl ?_
        refine ev_iload dL_lay_159 rfl ?_
        first | refine ev_ialoadF dL_lay_161 (mset_s _ _ _) (by omega) (by decide) ?_ | refine ev_ialoadF dL_lay_161 ((mset_n (by omega)).trans (k5)) (by omega) (by decide) ?_ | refine ev_ialoadF dL_lay_161 ((mset_n (by omega)).trans (k6)) (by omega) (by decide) ?_ | refine ev_ialoadF dL_lay_161 ((mset_n (by omega)).trans (a4)) (by omega) (by decide) ?_
        refine ev_if_neN 168 dL_lay_162 rfl (by omega) (fun hc162 => ?_) (fun hc162 => ?_)
        · refine ev_iincN (L' := [_, _, _, _, _, _, _, _, _, _, _, _, _, _, _, _, _, _, _, _, _, _, _, _, _, _]) 1 dL_lay_168 rfl rfl ?_
          refine ev_goto 130 dL_lay_171 rfl ?_
          refine ev_pc (pc' := 130) rfl ?_
          have hf2 : ∀ j, j < k + 1 → upN f4 k (go k) j = go j := fun j hj => by
            by_cases e : j = k
            · rw [e, upN_s]
            · rw [upN_n e]; exact hf j (by omega)
          have E := ih (60 - (k + 1)) (by omega) (k + 1) _ _ rfl (by omega) (ho.tr (Out.set (by omega) (by omega))) (mset_s _ _ _) hf2
          first
            | (rw [ctN_n (p := fun j => decide (gq j = 0)) (decide_eq_false hc162)] at E; exact E)
            | (rw [ctN_y (p := fun j => decide (gq j = 0)) (decide_eq_true hc162)] at E; exact E)
        · refine ev_iincN (L' := [_, _, _, _, _, _, _, _, _, _, _, _, _, _, _, _, _, _, _, _, _, _, _, _, _, _]) 1 dL_lay_165 rfl rfl ?_
          refine ev_iincN (L' := [_, _, _, _, _, _, _, _, _, _, _, _, _, _, _, _, _, _, _, _, _, _, _, _, _, _]) 1 dL_lay_168 rfl rfl ?_
          refine ev_goto 130 dL_lay_171 rfl ?_
          refine ev_pc (pc' := 130) rfl ?_
          have hf2 : ∀ j, j < k + 1 → upN f4 k (go k) j = go j := fun j hj => by
            by_cases e : j = k
            · rw [e, upN_s]
            · rw [upN_n e]; exact hf j (by omega)
          have E := ih (60 - (k + 1)) (by omega) (k + 1) _ _ rfl (by omega) (ho.tr (Out.set (by omega) (by omega))) (mset_s _ _ _) hf2
          first
            | (rw [ctN_n (p := fun j => decide (gq j = 0)) (decide_eq_false hc162)] at E; exact E)
            | (rw [ctN_y (p := fun j => decide (gq j = 0)) (decide_eq_true hc162)] at E; exact E)
  exact LP130 _ 0 _ (fun _ => 0) rfl (Nat.zero_le _) (Out.set (by omega) (by omega)) (mset_s _ _ _) (fun j hj => absurd hj (Nat.not_lt_zero j))
/-- how many pieces of the first p places of a text lie in slot j -/
def cntL (ge gl : Nat → Nat) (t j p : Nat) : Nat := ctN (fun i => decide (ge (16 * t + i) ≠ 0) && decide (gl (16 * t + i) = j)) p
theorem cntL_y {ge gl : Nat → Nat} {t j p : Nat} (h1 : ge (16 * t + p) ≠ 0) (h2 : gl (16 * t + p) = j) : cntL ge gl t j (p + 1) = cntL ge gl t j p + 1 := ctN_y (p := fun i => decide (ge (16 * t + i) ≠ 0) && decide (gl (16 * t + i) = j)) (by rw [decide_eq_true h1, decide_eq_true h2]; rfl)
theorem cntL_n1 {ge gl : Nat → Nat} {t j p : Nat} (h1 : ge (16 * t + p) = 0) : cntL ge gl t j (p + 1) = cntL ge gl t j p := ctN_n (p := fun i => decide (ge (16 * t + i) ≠ 0) && decide (gl (16 * t + i) = j)) (by rw [decide_eq_false (fun z => z h1)]; rfl)
theorem cntL_n2 {ge gl : Nat → Nat} {t j p : Nat} (h2 : gl (16 * t + p) ≠ j) : cntL ge gl t j (p + 1) = cntL ge gl t j p := ctN_n (p := fun i => decide (ge (16 * t + i) ≠ 0) && decide (gl (16 * t + i) = j)) (by rw [decide_eq_false h2, Bool.and_false])
theorem cntL_le {ge gl : Nat → Nat} {t j p n : Nat} (h : p ≤ n) : cntL ge gl t j p ≤ cntL ge gl t j n := ctN_mono _ h
/-- each end of the text lies in a slot that has enough owners -/
def OwnL (gn ge gl go : Nat → Nat) (t : Nat) : Prop := gn t ≤ 16 ∧ ∀ p, p < gn t → ge (16 * t + p) ≤ 3 ∧ (ge (16 * t + p) ≠ 0 → gl (16 * t + p) < 60 ∧ cntL ge gl t (gl (16 * t + p)) (gn t) ≤ go (gl (16 * t + p)))
theorem lose_y {ge gl go f4 : Nat → Nat} {t p : Nat} (hf : ∀ j, j < 60 → f4 j = go j - cntL ge gl t j p) (h1 : ge (16 * t + p) ≠ 0) (h2 : gl (16 * t + p) < 60) : ∀ j, j < 60 → upN f4 (gl (16 * t + p)) (f4 (gl (16 * t + p)) - 1) j = go j - cntL ge gl t j (p + 1) := fun j hj => by
  by_cases e : j = gl (16 * t + p)
  · rw [e, upN_s, cntL_y h1 rfl, hf _ h2]
    omega
  · rw [upN_n e, cntL_n2 (fun z => e z.symm)]
    exact hf j hj
set_option maxHeartbeats 4000000 in
set_option maxRecDepth 100000 in
theorem lay_C {X : mX} {h : mH} {V M np size slots : Nat} {B : mB} {gn gs ge gl : Nat → Nat} {gc : Nat → Int64} {gq go gv : Nat → Nat} {Q : mO → mH → Prop} (hl : LwN h V gn gs ge gl gc gq go gv) (hV : 277 ≤ V) (hVM : V < M) (t many : Nat) (ht : t < 4) (hO : OwnL gn ge gl go t) {f0 : Nat → Nat} (b4 : h (M + 3) = some (aI 60 (nf f0))) (hf0 : ∀ j, j < 60 → f0 j = go j)
    (kk : ∀ (h1 : mH) (f4 : Nat → Nat), Out h h1 (M + 3) 1 → h1 (M + 3) = some (aI 60 (nf f4)) → (∀ j, j < 60 → f4 j = go j - cntL ge gl t j (gn t)) → Ev X m_L_lay B 222 [.ref 270, .ref 271, .ref 272, .ref 273, .ref 274, .ref 275, .ref 276, .int (nI t), .ref V, .int (nI many), .ref M, .ref (M + 1), .ref (M + 2), .int (nI np), jk, .ref (M + 3), .int (nI size), .int (nI slots), jk, jk, jk, jk, jk, jk, jk, jk] [] h1 Q) :
    Ev X m_L_lay B 174 [.ref 270, .ref 271, .ref 272, .ref 273, .ref 274, .ref 275, .ref 276, .int (nI t), .ref V, .int (nI many), .ref M, .ref (M + 1), .ref (M + 2), .int (nI np), jk, .ref (M + 3), .int (nI size), .int (nI slots), jk, jk, jk, jk, jk, jk, jk, jk] [] h Q := by
  obtain ⟨hO1, hO2⟩ := hO
  refine ev_iconst (nI 0) dL_lay_174 rfl ?_
  refine ev_istore (L' := [_, _, _, _, _, _, _, _, _, _, _, _, _, _, _, _, _, _, _, _, _, _, _, _, _, _]) dL_lay_175 (Nat.le_of_ble_eq_true rfl) rfl ?_
  refine ev_pc (pc' := 177) rfl ?_
  have LP177 : ∀ (mz : Nat) (p : Nat) (h1 : mH) (f4 : Nat → Nat), gn t - p = mz → (p ≤ gn t) → (Out h h1 (M + 3) 1) → (h1 (M + 3) = some (aI 60 (nf f4))) → (∀ j, j < 60 → f4 j = go j - cntL ge gl t j p) → Ev X m_L_lay B 177 [.ref 270, .ref 271, .ref 272, .ref 273, .ref 274, .ref 275, .ref 276, .int (nI t), .ref V, .int (nI many), .ref M, .ref (M + 1), .ref (M + 2), .int (nI np), jk, .ref (M + 3), .int (nI size), .int (nI slots), .int (nI p), jk, jk, jk, jk, jk, jk, jk] [] h1 Q := by
    intro mz
    induction mz using Nat.strongRecOn with
    | _ mz ih =>
      intro p h1 f4 hmz hp ho a4 hf
      obtain ⟨k0, k1, k2, k3, k4, k5, k6, k7⟩ := hl.go ho (Or.inl (by omega)) (Or.inl (by omega))
      have hOp := hO2 p
      refine ev_iload dL_lay_177 rfl ?_
      refine ev_aload_n dL_lay_179 rfl rfl ?_
      refine ev_iload dL_lay_180 rfl ?_
      first | refine ev_ialoadF dL_lay_182 (k0) (by omega) (by decide) ?_ | refine ev_ialoadF dL_lay_182 (k2) (by omega) (by decide) ?_ | refine ev_ialoadF dL_lay_182 (k3) (by omega) (by decide) ?_ | refine ev_ialoadF dL_lay_182 (a4) (by omega) (by decide) ?_
      refine ev_icmp_geN 222 dL_lay_183 rfl (by omega) (by omega) (fun hc183 => ?_) (fun hc183 => ?_)
      · refine ev_pc (pc' := 222) rfl ?_
        have ep : p = gn t := by omega
        subst ep
        refine ev_fgt 18 (L' := [_, _, _, _, _, _, _, _, _, _, _, _, _, _, _, _, _, _, _, _, _, _, _, _, _, _]) rfl ?_
        exact kk h1 f4 ho a4 hf
      · refine ev_aload_n dL_lay_186 rfl rfl ?_
        refine ev_bipush (nI 16) dL_lay_187 rfl ?_
        refine ev_iload dL_lay_189 rfl ?_
        refine ev_imulN dL_lay_191 ?_
        refine ev_iload dL_lay_192 rfl ?_
        refine ev_iaddN dL_lay_194 ?_
        first | refine ev_ialoadF dL_lay_195 (k0) (by omega) (by decide) ?_ | refine ev_ialoadF dL_lay_195 (k2) (by omega) (by decide) ?_ | refine ev_ialoadF dL_lay_195 (k3) (by omega) (by decide) ?_ | refine ev_ialoadF dL_lay_195 (a4) (by omega) (by decide) ?_
        refine ev_if_leN 216 dL_lay_196 rfl (by omega) (fun hc196 => ?_) (fun hc196 => ?_)
        · refine ev_iincN (L' := [_, _, _, _, _, _, _, _, _, _, _, _, _, _, _, _, _, _, _, _, _, _, _, _, _, _]) 1 dL_lay_216 rfl rfl ?_
          refine ev_goto 177 dL_lay_219 rfl ?_
          refine ev_pc (pc' := 177) rfl ?_
          first
            | (have hz : ge (16 * t + p) = 0 := hc196
               exact ih _ (by omega) (p + 1) _ _ rfl (by omega) ho a4 (fun j hj => by rw [cntL_n1 hz]; exact hf j hj))
            | exact ih _ (by omega) (p + 1) _ _ rfl (by omega) (ho.tr (Out.set (by omega) (by omega))) (mset_s _ _ _) (lose_y hf hnz hg60)
        · refine ev_pc (pc' := 199) rfl ?_
          have hnz : ge (16 * t + p) ≠ 0 := by omega
          obtain ⟨hg60, hgo⟩ := (hOp (by omega)).2 hnz
          have hc1 := cntL_y (ge := ge) (gl := gl) (t := t) (p := p) hnz rfl
          have hc2 := cntL_le (ge := ge) (gl := gl) (t := t) (j := gl (16 * t + p)) (show p + 1 ≤ gn t by omega)
          have hf1 := hf _ hg60
          refine ev_aload dL_lay_199 rfl ?_
          refine ev_aload_n dL_lay_201 rfl rfl ?_
          refine ev_bipush (nI 16) dL_lay_202 rfl ?_
          refine ev_iload dL_lay_204 rfl ?_
          refine ev_imulN dL_lay_206 ?_
          refine ev_iload dL_lay_207 rfl ?_
          refine ev_iaddN dL_lay_209 ?_
          first | refine ev_ialoadF dL_lay_210 (k0) (by omega) (by decide) ?_ | refine ev_ialoadF dL_lay_210 (k2) (by omega) (by decide) ?_ | refine ev_ialoadF dL_lay_210 (k3) (by omega) (by decide) ?_ | refine ev_ialoadF dL_lay_210 (a4) (by omega) (by decide) ?_
          refine ev_dup2 dL_lay_211 rfl rfl ?_
          first | refine ev_ialoadF dL_lay_212 (k0) (by omega) (by decide) ?_ | refine ev_ialoadF dL_lay_212 (k2) (by omega) (by decide) ?_ | refine ev_ialoadF dL_lay_212 (k3) (by omega) (by decide) ?_ | refine ev_ialoadF dL_lay_212 (a4) (by omega) (by decide) ?_
          refine ev_iconst (nI 1) dL_lay_213 rfl ?_
          refine ev_isubN dL_lay_214 (by omega) ?_
          first | refine ev_iastoreF dL_lay_215 (k0) (by omega) (by decide) ?_ | refine ev_iastoreF dL_lay_215 (k2) (by omega) (by decide) ?_ | refine ev_iastoreF dL_lay_215 (k3) (by omega) (by decide) ?_ | refine ev_iastoreF dL_lay_215 (a4) (by omega) (by decide) ?_
          refine ev_iincN (L' := [_, _, _, _, _, _, _, _, _, _, _, _, _, _, _, _, _, _, _, _, _, _, _, _, _, _]) 1 dL_lay_216 rfl rfl ?_
          refine ev_goto 177 dL_lay_219 rfl ?_
          refine ev_pc (pc' := 177) rfl ?_
          exact ih _ (by omega) (p + 1) _ _ rfl (by omega) (ho.tr (Out.set (by omega) (by omega))) (mset_s _ _ _) (lose_y hf hnz hg60)
  exact LP177 _ 0 h f0 rfl (Nat.zero_le _) Out.rf b4 hf0
