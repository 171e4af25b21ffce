/-- the model's cells hold what the class's do; the last call has thrown k -/
def MdA (h : mH) (A : mAs) (k : Nat) : Prop := ∃ gz gc gs gh gk gl gb gx, MS h gz gc gs gh gk gl gb k gx ∧ RelT gz gc (aT A) ∧ HisR gs gh gk (aN A) (aH A) ∧ gl = aB A ∧ ∀ j, j < gl → gb j = aD A j
def OtN (h : mH) : Prop := ∃ g, h 283 = some (aL 1 g)
/-- between calls -/
def JA (h : mH) (A : mAs) : Prop := ClsN h A ∧ InvA A ∧ (∃ k, MdA h A k) ∧ OtN h
/-- behind the class's call: the model's cells as before -/
def JL (h h1 : mH) (A : mAs) : Prop := ClsN h1 A ∧ OtN h1 ∧ ∀ q, 270 ≤ q → q < 283 → h1 q = h q
def ModP (h1 h2 : mH) (A : mAs) (k : Nat) (x : Int32) (v : Option Value) : Prop := (∃ b, v = some (.int b) ∧ (k = 0 → b = x)) ∧ MdA h2 A k ∧ Out h1 h2 270 13
theorem MN.same {h h1 : mH} {gz : Nat → Nat} {gc : Nat → Int64} {gs : Nat} {gh : Nat → Nat} {gk : Nat → Int64} {gl : Nat} {gb : Nat → Nat} {gt : Nat} {gr : Nat → Nat} {gm : Nat} {gp : Nat → Int64} {gq : Nat → Nat} {ge : Nat → Nat} {gn : Nat} {go : Nat → Nat} {gu : Nat} {gi : Bool} {ga : Nat → Int64} {gv : Nat → Nat} {gw : Nat} {gx : Int64} (x : MN h gz gc gs gh gk gl gb gt gr gm gp gq ge gn go gu gi ga gv gw gx) (e : ∀ q, 270 ≤ q → q < 283 → h1 q = h q) : MN h1 gz gc gs gh gk gl gb gt gr gm gp gq ge gn go gu gi ga gv gw gx := by
  obtain ⟨m0, m1, m2, m3, m4, m5, m6, m7, m8, m9, m10, m11, m12⟩ := x
  exact ⟨(e 270 (by decide) (by decide)).trans m0, (e 271 (by decide) (by decide)).trans m1, (e 272 (by decide) (by decide)).trans m2, (e 273 (by decide) (by decide)).trans m3, (e 274 (by decide) (by decide)).trans m4, (e 275 (by decide) (by decide)).trans m5, (e 276 (by decide) (by decide)).trans m6, (e 277 (by decide) (by decide)).trans m7, (e 278 (by decide) (by decide)).trans m8, (e 279 (by decide) (by decide)).trans m9, (e 280 (by decide) (by decide)).trans m10, (e 281 (by decide) (by decide)).trans m11, (e 282 (by decide) (by decide)).trans m12⟩
theorem nrm {h h1 : mH} {A : mAs} {x : Int32} (q : ∃ h2 y g, ((some (Value.int y) : Option Value) = some (.int x) ∧ ClsN h2 A ∧ Out h h2 0 270) ∧ h2 283 = some (aL 1 g) ∧ h1 = mset h2 283 (aL 1 (vp_updL g 0 y.toInt64))) : JL h h1 A ∧ ∃ g, h1 283 = some (aL 1 g) ∧ g 0 = x.toInt64 := by
  obtain ⟨h2, y, g, ⟨q1, q2, q3⟩, q4, rfl⟩ := q
  cases q1
  exact ⟨⟨q2.go (a := 283) (n := 1) (fun q hq => mset_n (by omega)) (by omega), ⟨_, mset_s _ _ _⟩, fun q h1 h2 => (mset_n (by omega)).trans (q3 q (by omega))⟩, _, mset_s _ _ _, upL_s _ _ _⟩
theorem nP {h : mH} {A : mAs} {x : Int32} (hO : OtN h) : ∀ (v : Option Value) (h1 : mH), (v = some (.int x) ∧ ClsN h1 A ∧ Out h h1 0 270) → ∃ y g, v = some (.int y) ∧ h1 283 = some (aL 1 g) := fun v h1 q => by
  obtain ⟨g, hg⟩ := hO
  exact ⟨x, g, q.1, (q.2.2 283 (by omega)).trans hg⟩
theorem thr1 {h h1 : mH} {A : mAs} (hA : ClsN h A) (hO : OtN h) (e : h1 = h) : JL h h1 A := by
  subst e
  exact ⟨hA, hO, fun _ _ _ => rfl⟩
theorem thr2 {h h1 : mH} {A : mAs} (hO : OtN h) (e : ClsN h1 A ∧ Out h h1 0 270) : JL h h1 A := by
  obtain ⟨g, hg⟩ := hO
  exact ⟨e.1, ⟨g, (e.2 283 (by omega)).trans hg⟩, fun q h1 h2 => e.2 q (by omega)⟩
theorem cnP_J {X : mX} {M : mMD} {as : List Value} {h : mH} {A : mAs} {x : Int32} (hA : ClsN h A) (hc : CnP X M as h (some (.int x))) : CnU X M as h (fun v h1 => v = some (.int x) ∧ ClsN h1 A ∧ Out h h1 0 270) := cn_mono hc (fun o h1 q => ⟨_, q.1, rfl, by rw [q.2]; exact hA, by rw [q.2]; exact Out.rf⟩)
theorem md0 {h1 : mH} {A : mAs} {gz : Nat → Nat} {gc : Nat → Int64} {gs : Nat} {gh : Nat → Nat} {gk : Nat → Int64} {gl : Nat} {gb : Nat → Nat} {gx : Int64} {k : Nat} {x : Int32} (hr : RelT gz gc (aT A)) (hh : HisR gs gh gk (aN A) (aH A)) (hgl : gl = aB A) (hgb : ∀ j, j < gl → gb j = aD A j) (hk : k ≠ 0) : ∀ (o : mO) (h2 : mH), (∃ v, o = .inl v ∧ (v = some (.int (nI 0)) ∧ MS h2 gz gc gs gh gk gl gb k gx ∧ Out h1 h2 270 13)) → ∃ v, o = .inl v ∧ ModP h1 h2 A k x v := fun o h2 q => by
  obtain ⟨v, e, q1, q2, q3⟩ := q
  exact ⟨v, e, ⟨_, q1, fun z => absurd z hk⟩, ⟨_, _, _, _, _, _, _, _, q2, hr, hh, hgl, hgb⟩, q3⟩
theorem md1 {h1 : mH} {A : mAs} {gz : Nat → Nat} {gc : Nat → Int64} {gs : Nat} {gh : Nat → Nat} {gk : Nat → Int64} {gl : Nat} {gb : Nat → Nat} {gx : Int64} {x : Int32} (hr : RelT gz gc (aT A)) (hh : HisR gs gh gk (aN A) (aH A)) (hgl : gl = aB A) (hgb : ∀ j, j < gl → gb j = aD A j) : ∀ (o : mO) (h2 : mH), (∃ v, o = .inl v ∧ (v = some (.int x) ∧ MS h2 gz gc gs gh gk gl gb 0 gx ∧ Out h1 h2 270 13)) → ∃ v, o = .inl v ∧ ModP h1 h2 A 0 x v := fun o h2 q => by
  obtain ⟨v, e, q1, q2, q3⟩ := q
  exact ⟨v, e, ⟨_, q1, fun _ => rfl⟩, ⟨_, _, _, _, _, _, _, _, q2, hr, hh, hgl, hgb⟩, q3⟩
theorem md2 {h1 : mH} {T : mSt} {n b : Nat} {Ts : Nat → mSt} {d : Nat → Nat} {gl : Nat} {gb : Nat → Nat} {gx : Int64} {x : Int32} (hgl : gl = b) (hgb : ∀ j, j < gl → gb j = d j) : ∀ (o : mO) (h2 : mH), (∃ v, o = .inl v ∧ (v = some (.int x) ∧ (∃ z c s H E, MS h2 z c s H E gl gb 0 gx ∧ RelT z c T ∧ HisR s H E n Ts) ∧ Out h1 h2 270 13)) → ∃ v, o = .inl v ∧ ModP h1 h2 (T, (n, Ts), (b, d)) 0 x v := fun o h2 q => by
  obtain ⟨v, e, q1, ⟨z, c, s, H, E, q2, q4, q5⟩, q3⟩ := q
  exact ⟨v, e, ⟨_, q1, fun _ => rfl⟩, ⟨_, _, _, _, _, _, _, _, q2, q4, q5, hgl, hgb⟩, q3⟩
set_option maxHeartbeats 4000000 in
set_option maxRecDepth 100000 in
theorem ag_setting {X : mX} (hR : RO X) {h : mH} {A : mAs} (J : JA h A) (t : Int32) : ∃ (k : Nat) (x : Int32) (A' : mAs), InvA A' ∧ k < 10 ∧ CnH X m_L_setting none none 1 6 [.ref 0, .int t, .ref 283] h (fun o h1 => o = .inl (some (.int (nI k))) ∧ JL h h1 A' ∧ (k = 0 → ∃ g, h1 283 = some (aL 1 g) ∧ g 0 = x.toInt64)) ∧ ∀ h1, JL h h1 A' → CnU X m_X7_setting [.ref 270, .int t] h1 (fun v h2 => ModP h1 h2 A' k x v) := by
  obtain ⟨hA, hI, ⟨k0, gz, gc, gs, gh, gk, gl, gb, gx, ⟨gr, gm, gp, gq, ge, gn, go, gu, gi, ga, gv, gw, hm⟩, hr, hh, hgl, hgb⟩, hO⟩ := J
  have a0 := hA.1
  obtain ⟨hT, iH, i6, i60, i200⟩ := id hI
  have hlk := hI.lk
  have hB := hlk.1
  have hl60 : gl ≤ 60 := by omega
  have hb2 : ∀ j, j < gl → gb j ≤ 200 := fun j hj => by rw [hgb j hj]; exact i200 j (by omega)
  have e1 : smN (addN gb) gl = smN (addN (aD A)) (aB A) := by rw [smA_congr hgb (Nat.le_refl gl), hgl]
  have e2 : tlN gb gl = tlN (aD A) (aB A) := by rw [tlN_congr hgb gl (Nat.le_refl gl), hgl]
  have e3 : whol gb gl = whol (aD A) (aB A) := by rw [whol_congr hgb, hgl]
  cases ht : inX t 0 5 with
  | false =>
    exact ⟨1, 0, A, hI, by decide, cn_mono (x0_setting a0 t (x_setting t ht)) (fun o h1 q => ⟨q.1, thr1 hA hO q.2, fun z => absurd z (by decide)⟩), fun h1 j => cn_mono (k_setting1 (hm.same j.2.2) t ht) (md0 hr hh hgl hgb (by decide))⟩
  | true =>
    obtain ⟨n, rfl, -, htn⟩ := inX_k ht
    exact ⟨0, nI (tV (aT A) n), A, hI, by decide, cn_mono (n_setting a0 _ (cnP_J hA (c_setting hA n htn)) (nP hO)) (fun o h1 q => ⟨q.1, (nrm q.2).1, fun _ => (nrm q.2).2⟩), fun h1 j => cn_mono (k_setting (hm.same j.2.2) hr hT n htn) (md1 hr hh hgl hgb)⟩
set_option maxHeartbeats 4000000 in
set_option maxRecDepth 100000 in
theorem ag_count {X : mX} (hR : RO X) {h : mH} {A : mAs} (J : JA h A) (t : Int32) : ∃ (k : Nat) (x : Int32) (A' : mAs), InvA A' ∧ k < 10 ∧ CnH X m_L_count none none 1 6 [.ref 0, .int t, .ref 283] h (fun o h1 => o = .inl (some (.int (nI k))) ∧ JL h h1 A' ∧ (k = 0 → ∃ g, h1 283 = some (aL 1 g) ∧ g 0 = x.toInt64)) ∧ ∀ h1, JL h h1 A' → CnU X m_X7_count [.ref 270, .int t] h1 (fun v h2 => ModP h1 h2 A' k x v) := by
  obtain ⟨hA, hI, ⟨k0, gz, gc, gs, gh, gk, gl, gb, gx, ⟨gr, gm, gp, gq, ge, gn, go, gu, gi, ga, gv, gw, hm⟩, hr, hh, hgl, hgb⟩, hO⟩ := J
  have a0 := hA.1
  obtain ⟨hT, iH, i6, i60, i200⟩ := id hI
  have hlk := hI.lk
  have hB := hlk.1
  have hl60 : gl ≤ 60 := by omega
  have hb2 : ∀ j, j < gl → gb j ≤ 200 := fun j hj => by rw [hgb j hj]; exact i200 j (by omega)
  have e1 : smN (addN gb) gl = smN (addN (aD A)) (aB A) := by rw [smA_congr hgb (Nat.le_refl gl), hgl]
  have e2 : tlN gb gl = tlN (aD A) (aB A) := by rw [tlN_congr hgb gl (Nat.le_refl gl), hgl]
  have e3 : whol gb gl = whol (aD A) (aB A) := by rw [whol_congr hgb, hgl]
  cases ht : inX t 0 10 with
  | false =>
    exact ⟨1, 0, A, hI, by decide, cn_mono (x1_count a0 t (x_count t ht)) (fun o h1 q => ⟨q.1, thr1 hA hO q.2, fun z => absurd z (by decide)⟩), fun h1 j => cn_mono (k_count1 (hm.same j.2.2) t ht) (md0 hr hh hgl hgb (by decide))⟩
  | true =>
    obtain ⟨n, rfl, -, htn⟩ := inX_k ht
    exact ⟨0, nI (cntV A n), A, hI, by decide, cn_mono (n_count a0 _ (cnP_J hA (c_count hA hB n htn)) (nP hO)) (fun o h1 q => ⟨q.1, (nrm q.2).1, fun _ => (nrm q.2).2⟩), fun h1 j => cn_mono (k_count (hm.same j.2.2) hr hT hh.1 n htn) (md1 hr hh hgl hgb)⟩
set_option maxHeartbeats 4000000 in
set_option maxRecDepth 100000 in
theorem ag_text {X : mX} (hR : RO X) {h : mH} {A : mAs} (J : JA h A) (t : Int32) (u : Int32) : ∃ (k : Nat) (x : Int32) (A' : mAs), InvA A' ∧ k < 10 ∧ CnH X m_L_text none none 1 6 [.ref 0, .int t, .int u, .ref 283] h (fun o h1 => o = .inl (some (.int (nI k))) ∧ JL h h1 A' ∧ (k = 0 → ∃ g, h1 283 = some (aL 1 g) ∧ g 0 = x.toInt64)) ∧ ∀ h1, JL h h1 A' → CnU X m_X7_text [.ref 270, .int t, .int u] h1 (fun v h2 => ModP h1 h2 A' k x v) := by
  obtain ⟨hA, hI, ⟨k0, gz, gc, gs, gh, gk, gl, gb, gx, ⟨gr, gm, gp, gq, ge, gn, go, gu, gi, ga, gv, gw, hm⟩, hr, hh, hgl, hgb⟩, hO⟩ := J
  have a0 := hA.1
  obtain ⟨hT, iH, i6, i60, i200⟩ := id hI
  have hlk := hI.lk
  have hB := hlk.1
  have hl60 : gl ≤ 60 := by omega
  have hb2 : ∀ j, j < gl → gb j ≤ 200 := fun j hj => by rw [hgb j hj]; exact i200 j (by omega)
  have e1 : smN (addN gb) gl = smN (addN (aD A)) (aB A) := by rw [smA_congr hgb (Nat.le_refl gl), hgl]
  have e2 : tlN gb gl = tlN (aD A) (aB A) := by rw [tlN_congr hgb gl (Nat.le_refl gl), hgl]
  have e3 : whol gb gl = whol (aD A) (aB A) := by rw [whol_congr hgb, hgl]
  cases ht : inX t 0 4 with
  | false =>
    exact ⟨1, 0, A, hI, by decide, cn_mono (x0_text a0 t u (x_text t u ht)) (fun o h1 q => ⟨q.1, thr1 hA hO q.2, fun z => absurd z (by decide)⟩), fun h1 j => cn_mono (k_text1 (hm.same j.2.2) t u ht) (md0 hr hh hgl hgb (by decide))⟩
  | true =>
    obtain ⟨n, rfl, -, htn⟩ := inX_k ht
    cases hu : inX u 0 6 with
    | false =>
      exact ⟨2, 0, A, hI, by decide, cn_mono (x1_text a0 _ u (x_text2 n u htn hu)) (fun o h1 q => ⟨q.1, thr1 hA hO q.2, fun z => absurd z (by decide)⟩), fun h1 j => cn_mono (k_text2 (hm.same j.2.2) n u htn hu) (md0 hr hh hgl hgb (by decide))⟩
    | true =>
      obtain ⟨m, rfl, -, hun⟩ := inX_k hu
      exact ⟨0, nI (txtV (aT A) n m), A, hI, by decide, cn_mono (n_text a0 _ _ (cnP_J hA (c_text hA n m htn hun)) (nP hO)) (fun o h1 q => ⟨q.1, (nrm q.2).1, fun _ => (nrm q.2).2⟩), fun h1 j => cn_mono (k_text (hm.same j.2.2) hr hT n m htn hun) (md1 hr hh hgl hgb)⟩
set_option maxHeartbeats 4000000 in
set_option maxRecDepth 100000 in
theorem ag_slot {X : mX} (hR : RO X) {h : mH} {A : mAs} (J : JA h A) (t : Int32) (u : Int32) : ∃ (k : Nat) (x : Int32) (A' : mAs), InvA A' ∧ k < 10 ∧ CnH X m_L_slot none none 1 6 [.ref 0, .int t, .int u, .ref 283] h (fun o h1 => o = .inl (some (.int (nI k))) ∧ JL h h1 A' ∧ (k = 0 → ∃ g, h1 283 = some (aL 1 g) ∧ g 0 = x.toInt64)) ∧ ∀ h1, JL h h1 A' → CnU X m_X7_slot [.ref 270, .int t, .int u] h1 (fun v h2 => ModP h1 h2 A' k x v) := by
  obtain ⟨hA, hI, ⟨k0, gz, gc, gs, gh, gk, gl, gb, gx, ⟨gr, gm, gp, gq, ge, gn, go, gu, gi, ga, gv, gw, hm⟩, hr, hh, hgl, hgb⟩, hO⟩ := J
  have a0 := hA.1
  obtain ⟨hT, iH, i6, i60, i200⟩ := id hI
  have hlk := hI.lk
  have hB := hlk.1
  have hl60 : gl ≤ 60 := by omega
  have hb2 : ∀ j, j < gl → gb j ≤ 200 := fun j hj => by rw [hgb j hj]; exact i200 j (by omega)
  have e1 : smN (addN gb) gl = smN (addN (aD A)) (aB A) := by rw [smA_congr hgb (Nat.le_refl gl), hgl]
  have e2 : tlN gb gl = tlN (aD A) (aB A) := by rw [tlN_congr hgb gl (Nat.le_refl gl), hgl]
  have e3 : whol gb gl = whol (aD A) (aB A) := by rw [whol_congr hgb, hgl]
  cases ht : inX t 0 60 with
  | false =>
    exact ⟨1, 0, A, hI, by decide, cn_mono (x0_slot a0 t u (x_slot t u ht)) (fun o h1 q => ⟨q.1, thr1 hA hO q.2, fun z => absurd z (by decide)⟩), fun h1 j => cn_mono (k_slot1 (hm.same j.2.2) t u ht) (md0 hr hh hgl hgb (by decide))⟩
  | true =>
    obtain ⟨n, rfl, -, htn⟩ := inX_k ht
    cases hu : inX u 0 5 with
    | false =>
      exact ⟨2, 0, A, hI, by decide, cn_mono (x1_slot a0 _ u (x_slot2 n u htn hu)) (fun o h1 q => ⟨q.1, thr1 hA hO q.2, fun z => absurd z (by decide)⟩), fun h1 j => cn_mono (k_slot2 (hm.same j.2.2) n u htn hu) (md0 hr hh hgl hgb (by decide))⟩
    | true =>
      obtain ⟨m, rfl, -, hun⟩ := inX_k hu
      exact ⟨0, (if isF (tS (aT A)) n = true then -1 else sltV (aT A) n m), A, hI, by decide, cn_mono (n_slot a0 _ _ (cnP_J hA (c_slot hA hB n m htn hun (hlk.2.2.2.1 n htn))) (nP hO)) (fun o h1 q => ⟨q.1, (nrm q.2).1, fun _ => (nrm q.2).2⟩), fun h1 j => cn_mono (k_slot (hm.same j.2.2) hr hT n m htn hun) (md1 hr hh hgl hgb)⟩
set_option maxHeartbeats 4000000 in
set_option maxRecDepth 100000 in
theorem ag_common {X : mX} (hR : RO X) {h : mH} {A : mAs} (J : JA h A) (t : Int32) (u : Int32) (w : Int32) : ∃ (k : Nat) (x : Int32) (A' : mAs), InvA A' ∧ k < 10 ∧ CnH X m_L_common none none 1 6 [.ref 0, .int t, .int u, .int w, .ref 283] h (fun o h1 => o = .inl (some (.int (nI k))) ∧ JL h h1 A' ∧ (k = 0 → ∃ g, h1 283 = some (aL 1 g) ∧ g 0 = x.toInt64)) ∧ ∀ h1, JL h h1 A' → CnU X m_X7_common [.ref 270, .int t, .int u, .int w] h1 (fun v h2 => ModP h1 h2 A' k x v) := by
  obtain ⟨hA, hI, ⟨k0, gz, gc, gs, gh, gk, gl, gb, gx, ⟨gr, gm, gp, gq, ge, gn, go, gu, gi, ga, gv, gw, hm⟩, hr, hh, hgl, hgb⟩, hO⟩ := J
  have a0 := hA.1
  obtain ⟨hT, iH, i6, i60, i200⟩ := id hI
  have hlk := hI.lk
  have hB := hlk.1
  have hl60 : gl ≤ 60 := by omega
  have hb2 : ∀ j, j < gl → gb j ≤ 200 := fun j hj => by rw [hgb j hj]; exact i200 j (by omega)
  have e1 : smN (addN gb) gl = smN (addN (aD A)) (aB A) := by rw [smA_congr hgb (Nat.le_refl gl), hgl]
  have e2 : tlN gb gl = tlN (aD A) (aB A) := by rw [tlN_congr hgb gl (Nat.le_refl gl), hgl]
  have e3 : whol gb gl = whol (aD A) (aB A) := by rw [whol_congr hgb, hgl]
  cases ht : inX t 0 4 with
  | false =>
    exact ⟨1, 0, A, hI, by decide, cn_mono (x0_common a0 t u w (x_common t u w ht)) (fun o h1 q => ⟨q.1, thr1 hA hO q.2, fun z => absurd z (by decide)⟩), fun h1 j => cn_mono (k_common1 (hm.same j.2.2) t u w ht) (md0 hr hh hgl hgb (by decide))⟩
  | true =>
    obtain ⟨n, rfl, -, htn⟩ := inX_k ht
    cases hu : inX u 0 4 with
    | false =>
      exact ⟨1, 0, A, hI, by decide, cn_mono (x0_common a0 _ u w (x_common2 n u w htn hu)) (fun o h1 q => ⟨q.1, thr1 hA hO q.2, fun z => absurd z (by decide)⟩), fun h1 j => cn_mono (k_common2 (hm.same j.2.2) n u w htn hu) (md0 hr hh hgl hgb (by decide))⟩
    | true =>
      obtain ⟨m, rfl, -, hun⟩ := inX_k hu
      cases hw : inX w 0 3 with
      | false =>
        exact ⟨2, 0, A, hI, by decide, cn_mono (x1_common a0 _ _ w (x_common3 n m w htn hun hw)) (fun o h1 q => ⟨q.1, thr1 hA hO q.2, fun z => absurd z (by decide)⟩), fun h1 j => cn_mono (k_common3 (hm.same j.2.2) n m w htn hun hw) (md0 hr hh hgl hgb (by decide))⟩
      | true =>
        obtain ⟨i, rfl, -, hwn⟩ := inX_k hw
        exact ⟨0, nI (comV (tC (aT A) n) (tC (aT A) m) i), A, hI, by decide, cn_mono (n_common a0 _ _ _ (cnP_J hA (c_common hA n m i htn hun hwn)) (nP hO)) (fun o h1 q => ⟨q.1, (nrm q.2).1, fun _ => (nrm q.2).2⟩), fun h1 j => cn_mono (k_common (hm.same j.2.2) hr hT n m i htn hun hwn) (md1 hr hh hgl hgb)⟩
theorem pos_nI {u : Int32} (h : ¬ u < 0) : ∃ m, u = nI m ∧ m < 2 ^ 31 := by
  have h2 := Int32.toInt_lt u
  rw [i_lt, i_0] at h
  refine ⟨u.toInt.toNat, Int32.toInt_inj.mp ?_, by omega⟩
  rw [nI_toInt (by omega)]
  omega
set_option maxHeartbeats 4000000 in
set_option maxRecDepth 100000 in
theorem ag_piece {X : mX} (hR : RO X) {h : mH} {A : mAs} (J : JA h A) (t : Int32) (u : Int32) (w : Int32) : ∃ (k : Nat) (x : Int32) (A' : mAs), InvA A' ∧ k < 10 ∧ CnH X m_L_piece none none 1 6 [.ref 0, .int t, .int u, .int w, .ref 283] h (fun o h1 => o = .inl (some (.int (nI k))) ∧ JL h h1 A' ∧ (k = 0 → ∃ g, h1 283 = some (aL 1 g) ∧ g 0 = x.toInt64)) ∧ ∀ h1, JL h h1 A' → CnU X m_X7_piece [.ref 270, .int t, .int u, .int w] h1 (fun v h2 => ModP h1 h2 A' k x v) := by
  obtain ⟨hA, hI, ⟨k0, gz, gc, gs, gh, gk, gl, gb, gx, ⟨gr, gm, gp, gq, ge, gn, go, gu, gi, ga, gv, gw, hm⟩, hr, hh, hgl, hgb⟩, hO⟩ := J
  have a0 := hA.1
  obtain ⟨hT, iH, i6, i60, i200⟩ := id hI
  have hlk := hI.lk
  have hB := hlk.1
  have hl60 : gl ≤ 60 := by omega
  have hb2 : ∀ j, j < gl → gb j ≤ 200 := fun j hj => by rw [hgb j hj]; exact i200 j (by omega)
  have e1 : smN (addN gb) gl = smN (addN (aD A)) (aB A) := by rw [smA_congr hgb (Nat.le_refl gl), hgl]
  have e2 : tlN gb gl = tlN (aD A) (aB A) := by rw [tlN_congr hgb gl (Nat.le_refl gl), hgl]
  have e3 : whol gb gl = whol (aD A) (aB A) := by rw [whol_congr hgb, hgl]
  cases ht : inX t 0 4 with
  | false =>
    exact ⟨1, 0, A, hI, by decide, cn_mono (x0_piece a0 t u w (x_piece t u w ht)) (fun o h1 q => ⟨q.1, thr1 hA hO q.2, fun z => absurd z (by decide)⟩), fun h1 j => cn_mono (k_piece1 (hm.same j.2.2) t u w ht) (md0 hr hh hgl hgb (by decide))⟩
  | true =>
    obtain ⟨n, rfl, -, htn⟩ := inX_k ht
    by_cases hu : u < 0
    · exact ⟨2, 0, A, hI, by decide, cn_mono (x1_piece a0 _ u w (x_piece2 n u w htn hu)) (fun o h1 q => ⟨q.1, thr1 hA hO q.2, fun z => absurd z (by decide)⟩), fun h1 j => cn_mono (k_piece2 (hm.same j.2.2) n u w htn hu) (md0 hr hh hgl hgb (by decide))⟩
    · obtain ⟨m, rfl, hun⟩ : ∃ m, u = nI m ∧ m < 2 ^ 31 := pos_nI hu
      cases hw : inX w 0 5 with
      | false =>
        exact ⟨2, 0, A, hI, by decide, cn_mono (x1_piece a0 _ _ w (x_piece3 n m w htn hun hw)) (fun o h1 q => ⟨q.1, thr1 hA hO q.2, fun z => absurd z (by decide)⟩), fun h1 j => cn_mono (k_piece3 (hm.same j.2.2) n m w htn hun hw) (md0 hr hh hgl hgb (by decide))⟩
      | true =>
        obtain ⟨i, rfl, -, hwn⟩ := inX_k hw
        exact ⟨0, (if m < kN (tC (aT A) n) then pceV (aT A) n m i else -1), A, hI, by decide, cn_mono (n_piece a0 _ _ _ (cnP_J hA (c_piece hA n m i htn hun hwn)) (nP hO)) (fun o h1 q => ⟨q.1, (nrm q.2).1, fun _ => (nrm q.2).2⟩), fun h1 j => cn_mono (k_piece (hm.same j.2.2) hr hT n m i htn hun hwn) (md1 hr hh hgl hgb)⟩
set_option maxHeartbeats 4000000 in
set_option maxRecDepth 100000 in
theorem ag_sign {X : mX} (hR : RO X) {h : mH} {A : mAs} (J : JA h A) (t : Int32) (u : Int32) (w : Int32) : ∃ (k : Nat) (x : Int32) (A' : mAs), InvA A' ∧ k < 10 ∧ CnH X m_L_sign none none 1 6 [.ref 0, .int t, .int u, .int w, .ref 283] h (fun o h1 => o = .inl (some (.int (nI k))) ∧ JL h h1 A' ∧ (k = 0 → ∃ g, h1 283 = some (aL 1 g) ∧ g 0 = x.toInt64)) ∧ ∀ h1, JL h h1 A' → CnU X m_X7_sign [.ref 270, .int t, .int u, .int w] h1 (fun v h2 => ModP h1 h2 A' k x v) := by
  obtain ⟨hA, hI, ⟨k0, gz, gc, gs, gh, gk, gl, gb, gx, ⟨gr, gm, gp, gq, ge, gn, go, gu, gi, ga, gv, gw, hm⟩, hr, hh, hgl, hgb⟩, hO⟩ := J
  have a0 := hA.1
  obtain ⟨hT, iH, i6, i60, i200⟩ := id hI
  have hlk := hI.lk
  have hB := hlk.1
  have hl60 : gl ≤ 60 := by omega
  have hb2 : ∀ j, j < gl → gb j ≤ 200 := fun j hj => by rw [hgb j hj]; exact i200 j (by omega)
  have e1 : smN (addN gb) gl = smN (addN (aD A)) (aB A) := by rw [smA_congr hgb (Nat.le_refl gl), hgl]
  have e2 : tlN gb gl = tlN (aD A) (aB A) := by rw [tlN_congr hgb gl (Nat.le_refl gl), hgl]
  have e3 : whol gb gl = whol (aD A) (aB A) := by rw [whol_congr hgb, hgl]
  cases ht : inX t 0 4 with
  | false =>
    exact ⟨1, 0, A, hI, by decide, cn_mono (x0_sign a0 t u w (x_sign t u w ht)) (fun o h1 q => ⟨q.1, thr1 hA hO q.2, fun z => absurd z (by decide)⟩), fun h1 j => cn_mono (k_sign1 (hm.same j.2.2) hr hT t u w (pl_no ht)) (md0 hr hh hgl hgb (by decide))⟩
  | true =>
    obtain ⟨n, rfl, -, htn⟩ := inX_k ht
    have h7 := (hr.2.2 n htn).1
    cases hu : inX u 0 (kL (tC (aT A) n)) with
    | false =>
      exact ⟨1, 0, A, hI, by decide, cn_mono (x0_sign a0 _ u w (x_sign2 hA n u w htn hu)) (fun o h1 q => ⟨q.1, thr1 hA hO q.2, fun z => absurd z (by decide)⟩), fun h1 j => cn_mono (k_sign1 (hm.same j.2.2) hr hT _ u w (pl_k htn (by rw [h7]; exact hu))) (md0 hr hh hgl hgb (by decide))⟩
    | true =>
      obtain ⟨m, rfl, -, hun⟩ := inX_k hu
      cases hw : inX w 0 4 with
      | false =>
        exact ⟨2, 0, A, hI, by decide, cn_mono (x1_sign a0 _ _ w (x_sign3 hA n m w htn hun hw)) (fun o h1 q => ⟨q.1, thr1 hA hO q.2, fun z => absurd z (by decide)⟩), fun h1 j => cn_mono (k_sign2 (hm.same j.2.2) hr hT n m w htn (by rw [h7]; exact hun) hw) (md0 hr hh hgl hgb (by decide))⟩
      | true =>
        obtain ⟨i, rfl, -, hwn⟩ := inX_k hw
        exact ⟨0, nI (sgnV (aT A) n m i), A, hI, by decide, cn_mono (n_sign a0 _ _ _ (cnP_J hA (c_sign hA n m i htn hun hwn (hlk.2.2.1 n htn))) (nP hO)) (fun o h1 q => ⟨q.1, (nrm q.2).1, fun _ => (nrm q.2).2⟩), fun h1 j => cn_mono (k_sign (hm.same j.2.2) hr hT n m i htn (by rw [h7]; exact hun) hwn) (md1 hr hh hgl hgb)⟩
set_option maxHeartbeats 4000000 in
set_option maxRecDepth 100000 in
theorem ag_ifSet {X : mX} (hR : RO X) {h : mH} {A : mAs} (J : JA h A) (t : Int32) (u : Int32) (w : Int32) : ∃ (k : Nat) (x : Int32) (A' : mAs), InvA A' ∧ k < 10 ∧ CnH X m_L_ifSet none none 1 6 [.ref 0, .int t, .int u, .int w, .ref 283] h (fun o h1 => o = .inl (some (.int (nI k))) ∧ JL h h1 A' ∧ (k = 0 → ∃ g, h1 283 = some (aL 1 g) ∧ g 0 = x.toInt64)) ∧ ∀ h1, JL h h1 A' → CnU X m_X7_ifSet [.ref 270, .int t, .int u, .int w] h1 (fun v h2 => ModP h1 h2 A' k x v) := by
  obtain ⟨hA, hI, ⟨k0, gz, gc, gs, gh, gk, gl, gb, gx, ⟨gr, gm, gp, gq, ge, gn, go, gu, gi, ga, gv, gw, hm⟩, hr, hh, hgl, hgb⟩, hO⟩ := J
  have a0 := hA.1
  obtain ⟨hT, iH, i6, i60, i200⟩ := id hI
  have hlk := hI.lk
  have hB := hlk.1
  have hl60 : gl ≤ 60 := by omega
  have hb2 : ∀ j, j < gl → gb j ≤ 200 := fun j hj => by rw [hgb j hj]; exact i200 j (by omega)
  have e1 : smN (addN gb) gl = smN (addN (aD A)) (aB A) := by rw [smA_congr hgb (Nat.le_refl gl), hgl]
  have e2 : tlN gb gl = tlN (aD A) (aB A) := by rw [tlN_congr hgb gl (Nat.le_refl gl), hgl]
  have e3 : whol gb gl = whol (aD A) (aB A) := by rw [whol_congr hgb, hgl]
  cases ht : inX t 0 4 with
  | false =>
    exact ⟨1, 0, A, hI, by decide, cn_mono (x0_ifSet a0 t u w (x_ifSet t u w ht)) (fun o h1 q => ⟨q.1, thr1 hA hO q.2, fun z => absurd z (by decide)⟩), fun h1 j => cn_mono (k_ifSet1 (hm.same j.2.2) t u w ht) (md0 hr hh hgl hgb (by decide))⟩
  | true =>
    obtain ⟨n, rfl, -, htn⟩ := inX_k ht
    cases hu : inX u 0 5 with
    | false =>
      exact ⟨1, 0, A, hI, by decide, cn_mono (x0_ifSet a0 _ u w (x_ifSet2 n u w htn hu)) (fun o h1 q => ⟨q.1, thr1 hA hO q.2, fun z => absurd z (by decide)⟩), fun h1 j => cn_mono (k_ifSet2 (hm.same j.2.2) n u w htn hu) (md0 hr hh hgl hgb (by decide))⟩
    | true =>
      obtain ⟨m, rfl, -, hun⟩ := inX_k hu
      cases hw : inX w (lowF m) (higF m + 1) with
      | false =>
        exact ⟨2, 0, A, hI, by decide, cn_mono (x1_ifSet a0 _ _ w (x_ifSet3 hR n m w htn hun hw)) (fun o h1 q => ⟨q.1, thr1 hA hO q.2, fun z => absurd z (by decide)⟩), fun h1 j => cn_mono (k_ifSet3 (hm.same j.2.2) n m w htn hun hw) (md0 hr hh hgl hgb (by decide))⟩
      | true =>
        obtain ⟨i, rfl, hw1, hw2⟩ := inX_k hw
        exact ⟨0, nI (kN (cutK (upN (tV (aT A)) m i) (kL (tC (aT A) n)) (kS (tC (aT A) n)))), A, hI, by decide, cn_mono (n_ifSet a0 _ _ _ (c_ifSet hA hR n m i htn hun hw1 (by omega) (hlk.2.1 n htn)) (nP hO)) (fun o h1 q => ⟨q.1, (nrm q.2).1, fun _ => (nrm q.2).2⟩), fun h1 j => cn_mono (k_ifSet (hm.same j.2.2) hr hT n m i htn hun hw1 (by omega)) (md1 hr hh hgl hgb)⟩
set_option maxHeartbeats 4000000 in
set_option maxRecDepth 100000 in
theorem ag_ifPut {X : mX} (hR : RO X) {h : mH} {A : mAs} (J : JA h A) (t : Int32) (w : Int32) : ∃ (k : Nat) (x : Int32) (A' : mAs), InvA A' ∧ k < 10 ∧ CnH X m_L_ifPut none none 1 6 [.ref 0, .int t, .int w, .ref 283] h (fun o h1 => o = .inl (some (.int (nI k))) ∧ JL h h1 A' ∧ (k = 0 → ∃ g, h1 283 = some (aL 1 g) ∧ g 0 = x.toInt64)) ∧ ∀ h1, JL h h1 A' → CnU X m_X7_ifPut [.ref 270, .int t, .int w] h1 (fun v h2 => ModP h1 h2 A' k x v) := by
  obtain ⟨hA, hI, ⟨k0, gz, gc, gs, gh, gk, gl, gb, gx, ⟨gr, gm, gp, gq, ge, gn, go, gu, gi, ga, gv, gw, hm⟩, hr, hh, hgl, hgb⟩, hO⟩ := J
  have a0 := hA.1
  obtain ⟨hT, iH, i6, i60, i200⟩ := id hI
  have hlk := hI.lk
  have hB := hlk.1
  have hl60 : gl ≤ 60 := by omega
  have hb2 : ∀ j, j < gl → gb j ≤ 200 := fun j hj => by rw [hgb j hj]; exact i200 j (by omega)
  have e1 : smN (addN gb) gl = smN (addN (aD A)) (aB A) := by rw [smA_congr hgb (Nat.le_refl gl), hgl]
  have e2 : tlN gb gl = tlN (aD A) (aB A) := by rw [tlN_congr hgb gl (Nat.le_refl gl), hgl]
  have e3 : whol gb gl = whol (aD A) (aB A) := by rw [whol_congr hgb, hgl]
  cases ht : inX t 0 4 with
  | false =>
    exact ⟨1, 0, A, hI, by decide, cn_mono (x0_ifPut a0 t w (x_ifPut t w ht)) (fun o h1 q => ⟨q.1, thr1 hA hO q.2, fun z => absurd z (by decide)⟩), fun h1 j => cn_mono (k_ifPut1 (hm.same j.2.2) t w ht) (md0 hr hh hgl hgb (by decide))⟩
  | true =>
    obtain ⟨n, rfl, -, htn⟩ := inX_k ht
    cases hw : inX w 0 4 with
    | false =>
      exact ⟨2, 0, A, hI, by decide, cn_mono (x1_ifPut a0 _ w (x_ifPut2 n w htn hw)) (fun o h1 q => ⟨q.1, thr1 hA hO q.2, fun z => absurd z (by decide)⟩), fun h1 j => cn_mono (k_ifPut2 (hm.same j.2.2) n w htn hw) (md0 hr hh hgl hgb (by decide))⟩
    | true =>
      obtain ⟨i, rfl, -, hwn⟩ := inX_k hw
      cases hq : whol (aD A) (aB A) with
      | false =>
        exact ⟨0, (-1), A, hI, by decide, cn_mono (n_ifPut a0 _ _ (cnP_J hA (c_ifPut0 hA n i htn hwn hq)) (nP hO)) (fun o h1 q => ⟨q.1, (nrm q.2).1, fun _ => (nrm q.2).2⟩), fun h1 j => cn_mono (by have z := k_ifPut (X := X) (hm.same j.2.2) hr hT hl60 hb2 n i htn hwn; rw [if_neg (by rw [e3, hq]; decide)] at z; exact z) (md1 hr hh hgl hgb)⟩
      | true =>
        obtain ⟨p1, p2, p3⟩ := hlk.2.2.2.2.2 hq
        exact ⟨0, nI (ifpV (aT A) n (putK A) i), A, hI, by decide, cn_mono (n_ifPut a0 _ _ (c_ifPut hA n i htn hwn hq p1 p2 (p3 n htn)) (nP hO)) (fun o h1 q => ⟨q.1, (nrm q.2).1, fun _ => (nrm q.2).2⟩), fun h1 j => cn_mono (by have z := k_ifPut (X := X) (hm.same j.2.2) hr hT hl60 hb2 n i htn hwn; rw [if_pos (by rw [e3]; exact hq), e1, e2] at z; exact z) (md1 hr hh hgl hgb)⟩
