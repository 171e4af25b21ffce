/-- the law's arrays tell what the class's state is -/
def RelT9 (gn gs ge gl : Nat → Nat) (gc : Nat → Int64) (gq go : Nat → Nat) (T : mSt) : Prop := (∀ k, k < 5 → gn (4 + k) = tV T k) ∧ gn 10 = sC (tS T) ∧ gn 11 = sW (tS T) ∧ RelS9 gc gq go (tS T) ∧ ∀ t, t < 4 → gn t = kL (tC T t) ∧ kL (tC T t) ≤ 16 ∧ PlX gs ge gl t (tC T t) (tS T) (kN (tC T t))
theorem sl_row {S : mSo} (hD : SoD S) {w : Int64} (hw : w ≠ 0) (hl : slU S w < 60) {k : Nat} (hk : k < 60) : slU S w = k ↔ w = sR S k := ⟨fun e => by rw [← e, slU_at hl], fun e => slU_eq hD hw hk e.symm⟩
theorem own9 {gs ge gl : Nat → Nat} {t : Nat} {K : mCt} {S : mSo} (h : PlX gs ge gl t K S (kN K)) (hK : Tile K) (k : Nat) : cntL ge gl t k (kL K) = ctN (fun p => decide (slU S (kR K p) = k)) (kN K) := by
  rw [cntL, ctN_sm, ctN_sm, ← hK.2.2.2]
  refine hK.last _ _ (fun p hp i hi => ?_) (Nat.le_refl _)
  obtain ⟨-, a, b, c, -⟩ := h p hp i hi
  rw [a]
  by_cases e : i + 1 = kQ K p
  · rw [if_pos e, decide_eq_true (show ge (16 * t + (kP K p + i)) ≠ 0 from fun z => c.mp z e), Bool.true_and]
  · rw [if_neg e, decide_eq_false (show ¬ ge (16 * t + (kP K p + i)) ≠ 0 from fun z => z (c.mpr e)), Bool.false_and, if_neg (by decide)]
theorem own9T {gn gs ge gl : Nat → Nat} {gc : Nat → Int64} {gq go : Nat → Nat} {T : mSt} (hr : RelT9 gn gs ge gl gc gq go T) (hT : InvT T) {t : Nat} (ht : t < 4) {k : Nat} (hk : k < 60) (e : sR (tS T) k ≠ 0) : cntL ge gl t k (gn t) = ctT T t (sR (tS T) k) := by
  obtain ⟨h1, h2, h3⟩ := hr.2.2.2.2 t ht
  have hK := hT.2.1 t ht
  rw [h1, own9 h3 hK, ctT]
  refine ctN_congr (fun p hp => ?_)
  rw [ieq, decide_eq_decide]
  exact sl_row hT.2.2.1 (hK.cd hp).n0 (hT.inS ht hp) hk
theorem RelT9.ownL {gn gs ge gl : Nat → Nat} {gc : Nat → Int64} {gq go : Nat → Nat} {T : mSt} (hr : RelT9 gn gs ge gl gc gq go T) (hT : InvT T) {t : Nat} (ht : t < 4) : OwnL gn ge gl go t := by
  obtain ⟨h1, h2, h3⟩ := hr.2.2.2.2 t ht
  have hK := hT.2.1 t ht
  refine ⟨by rw [h1]; exact h2, fun j hj => ?_⟩
  rw [h1] at hj
  obtain ⟨p, i, hp, hi, e⟩ := hK.pl hj
  obtain ⟨-, a, b, -⟩ := h3 p hp i hi
  rw [e]
  refine ⟨b, fun _ => ?_⟩
  have hl := hT.inS ht hp
  have hat := slU_at hl
  have h0 : sR (tS T) (slU (tS T) (kR (tC T t) p)) ≠ 0 := by rw [hat]; exact (hK.cd hp).n0
  rw [a]
  refine ⟨hl, ?_⟩
  rw [own9T hr hT ht hl h0, ((hr.2.2.2.1 _ hl).2 h0).2, hT.2.2.2.2.1 _ hl h0]
  exact ctT_le T ht _
theorem RelT9.los {gn gs ge gl : Nat → Nat} {gc : Nat → Int64} {gq go f4 : Nat → Nat} {T : mSt} (hr : RelT9 gn gs ge gl gc gq go T) (hT : InvT T) {t : Nat} (ht : t < 4) (h4 : ∀ j, j < 60 → f4 j = go j - cntL ge gl t j (gn t)) : RelS9 gc gq f4 (los1 T t) := fun k hk => by
  show (sR (tS T) k = 0 → gq k = 0) ∧ (sR (tS T) k ≠ 0 → Ce (sR (tS T) k) (gc k) (gq k) ∧ f4 k = sO (tS T) k - ctN (fun p => kR (tC T t) p == sR (tS T) k) (kN (tC T t)))
  refine ⟨(hr.2.2.2.1 k hk).1, fun z => ⟨((hr.2.2.2.1 k hk).2 z).1, ?_⟩⟩
  rw [h4 k hk, own9T hr hT ht hk z, ((hr.2.2.2.1 k hk).2 z).2]
  rfl
theorem gtN_sW (S : mSo) (K : mCt) : ∀ n, sW (gtN S K n) = sW S
  | 0 => rfl
  | n + 1 => by
    rw [gtN_s, ← gtN_sW S K n]
    by_cases h : slU (gtN S K n) (kR K n) < 60
    · rw [gt1_in h]; rfl
    · rw [gt1_out h]; rfl
theorem chg_rel {gc : Nat → Int64} {gq f4 f5 q2 o2 : Nat → Nat} {T : mSt} {t : Nat} {K : mCt} (hS : RelS9 gc gq f4 (los1 T t)) (h5 : ∀ j, j < 60 → f5 j = b2n (!(fitS (los1 T t) K) && rmS (los1 T t) K j)) (hq : ∀ j, j < 60 → q2 j = if f5 j = 1 then 0 else gq j) (ho : ∀ j, j < 60 → o2 j = f4 j) : RelS9 gc q2 o2 (chgS T t K) := fun k hk => by
  rw [hq k hk, ho k hk, h5 k hk, chgS]
  by_cases f : fitS (los1 T t) K = true
  · rw [if_pos f, f]
    have e : (if b2n (!true && rmS (los1 T t) K k) = 1 then 0 else gq k) = gq k := if_neg (by show ¬ b2n (false && _) = 1; rw [Bool.false_and]; decide)
    rw [e]
    exact hS k hk
  · rw [if_neg f, Bool.eq_false_iff.mpr f, swN_R hk]
    show (_ → (if b2n (!false && rmS (los1 T t) K k) = 1 then 0 else gq k) = 0) ∧ (_ → Ce _ _ (if b2n (!false && rmS (los1 T t) K k) = 1 then 0 else gq k) ∧ f4 k = sO (los1 T t) k)
    rw [Bool.not_false, Bool.true_and]
    cases r : rmS (los1 T t) K k with
    | true =>
      rw [if_pos rfl]
      exact ⟨fun _ => if_pos rfl, fun z => absurd rfl z⟩
    | false =>
      rw [if_neg (by decide), if_neg (by decide)]
      exact hS k hk
theorem chg_sW {T : mSt} {t : Nat} {K : mCt} {sw : Nat} (h : sw = if fitS (los1 T t) K = true then 0 else ctN (rmS (los1 T t) K) 60) : sW (chgS T t K) = sW (tS T) + sw := by
  rw [h, chgS]
  by_cases f : fitS (los1 T t) K = true
  · rw [if_pos f, if_pos f]; rfl
  · rw [if_neg f, if_neg f]; rfl
theorem chg_sC {T : mSt} {t : Nat} {K : mCt} : sC (chgS T t K) = sC (tS T) := by
  rw [chgS]
  by_cases f : fitS (los1 T t) K = true
  · rw [if_pos f]; rfl
  · rw [if_neg f]; rfl
theorem ok_of {T : mSt} {t : Nat} {K : mCt} (h : fitS (los1 T t) K = true ∨ fitS (swN (los1 T t) K 60 (sW (los1 T t) + ctN (rmS (los1 T t) K) 60)) K = true) : okS T t K = true := by
  rw [okS, chgS]
  by_cases f : fitS (los1 T t) K = true
  · rw [if_pos f]; exact f
  · rw [if_neg f]; exact h.resolve_left f
theorem ok_no {T : mSt} {t : Nat} {K : mCt} (h1 : fitS (los1 T t) K = false) (h2 : fitS (swN (los1 T t) K 60 (sW (los1 T t) + ctN (rmS (los1 T t) K) 60)) K = false) : okS T t K = false := by
  rw [okS, chgS, if_neg (by rw [h1]; decide)]
  exact h2
theorem PlX.at {gs ge gl s2 e2 l2 : Nat → Nat} {t : Nat} {K : mCt} {S S1 : mSo} (h : PlX gs ge gl t K S (kN K)) (hK : Tile K) (h16 : kL K ≤ 16) (e : ∀ j, j < 16 → s2 (16 * t + j) = gs (16 * t + j) ∧ e2 (16 * t + j) = ge (16 * t + j) ∧ l2 (16 * t + j) = gl (16 * t + j)) (e2' : ∀ p, p < kN K → slU S1 (kR K p) = slU S (kR K p)) : PlX s2 e2 l2 t K S1 (kN K) := fun p hp i hi => by
  have he := hK.en hp
  obtain ⟨x1, x2, x3⟩ := e (kP K p + i) (by omega)
  rw [x1, x2, x3, e2' p hp]
  exact h p hp i hi
theorem rowC_congr {s t : Nat → Nat} {a : Nat} : ∀ m, (∀ i, i < m → s (a + i) = t (a + i)) → rowC s a m = rowC t a m
  | 0, _ => rfl
  | m + 1, h => by rw [rowC, rowC, rowC_congr m (fun i hi => h i (by omega)), h m (by omega)]
theorem c9_congr {s t : Nat → Nat} {a : Nat} : ∀ m, (∀ i, i < m → s (a + i) = t (a + i)) → c9 s a m = c9 t a m
  | 0, _ => rfl
  | m + 1, h => by rw [c9, c9, c9_congr m (fun i hi => h i (by omega)), h m (by omega)]
theorem cutG_congr {v : Nat → Nat} {n : Nat} {r s : Nat → Nat} (h : ∀ j, j < n → r j = s j) : ∀ i, i ≤ n → cutG v n r i = cutG v n s i
  | 0, _ => rfl
  | i + 1, hi => by
    have ih := cutG_congr (v := v) h i (by omega)
    have hst := (cutG_st v n s i).1
    have eE : ∀ m, cutE v r i m = cutE v s i m := fun m => by
      unfold cutE
      rw [sumN_congr (r := r) (s := s) (fun j hj => h j (by omega))]
    have eH : ∀ m, cutH v r n i m = cutH v s n i m := fun m => by
      unfold cutH
      rw [eE]
    have eP : ∀ b, cutP r (cutG v n s i) i (i - (cutG v n s i).1 + 1) b = cutP s (cutG v n s i) i (i - (cutG v n s i).1 + 1) b := fun b => by
      unfold cutP
      rw [rowC_congr (s := r) (t := s) (i - (cutG v n s i).1 + 1) (fun j hj => h _ (by omega))]
    rw [cutG, cutG, ih, eH, eE, eP]
theorem cutL_congr {v : Nat → Nat} {n : Nat} {r s : Nat → Nat} {f1 : Nat → Int64} {f2 f3 : Nat → Nat} (hK : Tile (cutK v n s)) (h : ∀ j, j < n → r j = s j) (e : cutG v n r n = cutG v n s n) (hC : CutL f1 f2 f3 (cutK v n r)) : CutL f1 f2 f3 (cutK v n s) := by
  intro p hp
  have hp' : p < kN (cutK v n r) := by
    show p < (cutG v n r n).2.1
    rw [e]
    exact hp
  have hen := hK.en hp
  have x := hC p hp'
  have x1 : f1 p = c9 r ((cutG v n r n).2.2.1 p) ((cutG v n r n).2.2.2.1 p) := x.1
  have x2 : f2 p = (cutG v n r n).2.2.2.1 p := x.2.1
  have x3 : (1 ≤ f3 p ∧ f3 p ≤ 3) ∧ (f3 p = 2 ↔ (cutG v n r n).2.2.2.2.1 p = true) := x.2.2
  rw [e] at x1 x2 x3
  refine ⟨?_, x2, x3⟩
  rw [x1]
  have hb : kP (cutK v n s) p + kQ (cutK v n s) p ≤ n := hen.1
  exact c9_congr _ (fun i hi => h _ (by
    have hi' : i < kQ (cutK v n s) p := hi
    show kP (cutK v n s) p + i < n
    omega))
set_option maxHeartbeats 4000000 in
set_option maxRecDepth 100000 in
theorem c_lay {X : mX} {h : mH} {V M : Nat} {gn gs ge gl : Nat → Nat} {gc : Nat → Int64} {gq go gv : Nat → Nat} (hl : LwN h V gn gs ge gl gc gq go gv) (hV : 277 ≤ V) (hVM : V < M) (hM : M + 5 < 1000000) {T : mSt} (hr : RelT9 gn gs ge gl gc gq go T) (hT : InvT T) (t many : Nat) (ht : t < 4) (hm : many ≤ 16) {s : Nat → Nat} (hs : ∀ j, j < many → gv j = s j) (hg : ∀ j, j < many → 1 ≤ s j ∧ s j ≤ 8) : Cn X m_L_lay (some M) (some (M + 5)) 5 168 [.ref 270, .ref 271, .ref 272, .ref 273, .ref 274, .ref 275, .ref 276, .int (nI t), .ref V, .int (nI many)] h (fun o h1 => (okS T t (cutK (tV T) many s) = true → o = .inl (some (.int (nI (kN (cutK (tV T) many s))))) ∧ ∃ (n2 s2 e2 l2 : Nat → Nat) (c2 : Nat → Int64) (q2 o2 : Nat → Nat), LwN h1 V n2 s2 e2 l2 c2 q2 o2 gv ∧ RelT9 n2 s2 e2 l2 c2 q2 o2 (chgT T t (cutK (tV T) many s)) ∧ n2 9 = gn 9) ∧ (okS T t (cutK (tV T) many s) = false → o = .inl (some (.int (-1))) ∧ LwN h1 V gn gs ge gl gc gq go gv) ∧ Out h h1 270 (M - 265)) := by
  have hK : Tile (cutK (tV T) many s) := cutK_tile hT.1 (by omega) hg
  obtain ⟨r1, r2, r3, r4, r5⟩ := id hr
  have z0 : gn 4 = tV T 0 := r1 0 (by omega)
  have z1 : gn 5 = tV T 1 := r1 1 (by omega)
  have z2 : gn 6 = tV T 2 := r1 2 (by omega)
  have z3 : gn 7 = tV T 3 := r1 3 (by omega)
  have z4 : gn 8 = tV T 4 := r1 4 (by omega)
  have hSL : SetL gn := by
    unfold SetL
    rw [z0, z1, z2, z3, z4]
    exact hT.1
  have h16 : kL (cutK (tV T) many s) ≤ 16 := hm
  have hD : SoD (los1 T t) := hT.2.2.1
  have hz : szS (los1 T t) ≤ 150 := hT.2.2.2.2.2.2
  obtain ⟨a1, a2, a3, a4, a5, a6⟩ := chgS_all (t := t) (K := (cutK (tV T) many s)) hT
  refine cn_of_ev (L0 := [_, _, _, _, _, _, _, _, _, _, _, _, _, _, _, _, _, _, _, _, _, _, _, _, _, _]) (by decide +kernel) rfl rfl (Nat.le_of_ble_eq_true rfl) rfl ?_
  refine lay_A hl hV hVM hM hT.1 r1 hSL t many hm (fun j hj => by rw [hs j hj]; exact hg j hj) (Nat.le_refl _) (Nat.le_refl _) (fun h1 f1 f2 f3 o1 x1 x2 x3 hC0 => ?_)
  have eG : cutG (tV T) many gv many = cutG (tV T) many s many := cutG_congr hs many (Nat.le_refl _)
  have hC : CutL f1 f2 f3 (cutK (tV T) many s) := cutL_congr hK hs eG hC0
  rw [show kN (cutK (tV T) many gv) = kN (cutK (tV T) many s) from congrArg (fun σ : mCs => σ.2.1) eG]
  have hl1 := hl.go o1 (Or.inl (by omega)) (Or.inl hVM)
  refine lay_B hl1 hV hVM hM (fun k hk => r4.le hk) t many (by omega) (by omega) (fun h2 f0 o2 y4 hf0 => ?_)
  have hl2 := hl1.go o2 (Or.inl (by omega)) (Or.inl (by omega))
  refine lay_C hl2 hV hVM t many ht (hr.ownL hT ht) y4 hf0 (fun h3 f4 o3 w4 hf4 => ?_)
  have hl3 := hl2.go o3 (Or.inl (by omega)) (Or.inl (by omega))
  have b1 : h3 M = some (aL 16 f1) := (o3 _ (by omega)).trans ((o2 _ (by omega)).trans x1)
  have b2 : h3 (M + 1) = some (aI 16 (nf f2)) := (o3 _ (by omega)).trans ((o2 _ (by omega)).trans x2)
  have b3 : h3 (M + 2) = some (aI 16 (nf f3)) := (o3 _ (by omega)).trans ((o2 _ (by omega)).trans x3)
  have hlos := hr.los hT ht hf4
  refine lay_D hl3 t many r4 hT.2.2.1 hK h16 b1 b2 hC (by omega) (by omega) ?_
  rw [size_q r4, show szS (tS T) = szS (los1 T t) from rfl, show ndS (tS T) (cutK (tV T) many s) = ndS (los1 T t) (cutK (tV T) many s) from rfl, show ndR (tS T) (cutK (tV T) many s) = ndR (los1 T t) (cutK (tV T) many s) from rfl]
  have lowC : ∀ (hh : mH), Out h3 hh (M + 4) 1 → Out h hh 270 (M - 265) := fun hh ox => (((o1.up (by omega) (by omega)).tr (o2.up (by omega) (by omega))).tr (o3.up (by omega) (by omega))).tr (ox.up (by omega) (by omega))
  refine lay_E hl3 hV hVM hM t many hlos hD (los1_SoB hT.B) hz (slots_q hlos) hK h16 b1 b2 w4 hC (by omega) (by omega) (fun h4 f5 sw o4 v5 hf5 hsw hfit => ?_) (fun n1 n2 h4 o4 => ?_)
  · have hok := ok_of hfit
    have hl4 := hl3.go o4 (Or.inl (by omega)) (Or.inl (by omega))
    refine lay_F hl4 hV hVM t many ht ((o4 _ (by omega)).trans w4) v5 (fun j hj => by rw [hf5 j hj]; exact b2n_le _) (fun h5 q2 w2 o5 hl5 hq2 hw2 => ?_)
    have hS5 := chg_rel hlos hf5 hq2 hw2
    have e10 : upN (upN gn 11 (gn 11 + sw)) t many 10 = sC (chgS T t (cutK (tV T) many s)) := by
      rw [upN_n (by omega), upN_n (by omega), r2, chg_sC]
    have b1' : h5 M = some (aL 16 f1) := (o5 _ (by omega)).trans ((o4 _ (by omega)).trans b1)
    have b2' : h5 (M + 1) = some (aI 16 (nf f2)) := (o5 _ (by omega)).trans ((o4 _ (by omega)).trans b2)
    have b3' : h5 (M + 2) = some (aI 16 (nf f3)) := (o5 _ (by omega)).trans ((o4 _ (by omega)).trans b3)
    refine lay_G hl5 hV hVM t many ht hS5 e10 hK h16 hs (GtOK.of hK a1 a3 a4 a2 (okS_1 hok).1) b1' b2' b3' hC (by omega) (by omega) (fun h6 n2 s2 e2 l2 c2 q6 w6 o6 hl6 hR hn hno hx hpl => ?_)
    refine ⟨fun _ => ⟨rfl, n2, s2, e2, l2, c2, q6, w6, hl6, ⟨fun k hk => ?_, hn, ?_, hR, fun u hu => ?_⟩, ?_⟩, fun z => (by rw [hok] at z; cases z), ((lowC h4 o4).tr (o5.up (by omega) (by omega))).tr (o6.up (by omega) (by omega))⟩
    · rw [hno _ (by omega), upN_n (by omega), upN_n (by omega)]
      exact r1 k hk
    · rw [hno _ (by omega), upN_n (by omega), upN_s, r3]
      show _ = sW (gtN (chgS T t (cutK (tV T) many s)) (cutK (tV T) many s) (kN (cutK (tV T) many s)))
      rw [gtN_sW, chg_sW hsw]
    · show n2 u = kL (if u = t then (cutK (tV T) many s) else tC T u) ∧ kL (if u = t then (cutK (tV T) many s) else tC T u) ≤ 16 ∧ PlX s2 e2 l2 u (if u = t then (cutK (tV T) many s) else tC T u) (gtN (chgS T t (cutK (tV T) many s)) (cutK (tV T) many s) (kN (cutK (tV T) many s))) (kN (if u = t then (cutK (tV T) many s) else tC T u))
      by_cases e : u = t
      · rw [if_pos e, e]
        exact ⟨by rw [hno _ (by omega), upN_s]; rfl, h16, hpl⟩
      · rw [if_neg e]
        obtain ⟨u1, u2, u3⟩ := r5 u hu
        refine ⟨by rw [hno _ (by omega), upN_n e, upN_n (by omega)]; exact u1, u2, u3.at (hT.2.1 u hu) u2 (fun j hj => hx _ (by omega)) (fun p hp => (chgT_all hT ht hK hok).2.1 u p hu e hp)⟩
    · rw [hno _ (by omega), upN_n (by omega), upN_n (by omega)]
  · refine ⟨fun z => (by rw [ok_no n1 n2] at z; cases z), fun _ => ⟨rfl, hl3.go o4 (Or.inl (by omega)) (Or.inl (by omega))⟩, lowC h4 o4⟩
