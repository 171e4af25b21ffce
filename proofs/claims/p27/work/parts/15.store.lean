theorem ev_copyL0 {X : mX} {M : mMD} {B : mB} {pc : Nat} {L st : List Value} {h : mH} {Q : mO → mH → Prop} {idx a a0 n : Nat} {f g : Nat → Int64} (hd : decode (mBy M) pc = .ok (.invokestatic idx, 3)) (hl : Cond.methodLink (RN (mOwn M)) idx arraycopyName ∈ WL) (hnat : Cond.native arraycopyName ∈ WL) (hstat : Cond.static arraycopyName ∈ WL) (hini : Cond.initialized "java/lang/System" ∈ WL) (hne : a0 ≠ a) (ha0 : h a0 = some (aL n f)) (ha : h a = some (aL n g)) (hB : B.1 = none) (hn : n < 2 ^ 31) (hfr : 1 ≤ mFr M) (hlo : (st.map fun v => v.category).sum + 30 ≤ mLo M) (k : Ev X M B (pc + 3) L st (mset h a (aL n (va_cpy f g 0 0 n))) Q) : Ev X M B pc L (.int (nI n) :: .int (nI 0) :: .ref a :: .int (nI 0) :: .ref a0 :: st) h Q := by
  have e0 : (nI 0).toNatClampNeg = 0 := rfl
  refine ev_copyL hd hl hnat hstat hini hne ha0 ha (by decide) (by decide) (nI_pos hn) (by rw [cl_nI hn, e0]; omega) (by rw [cl_nI hn, e0]; omega) hB hfr hlo ?_
  rw [cl_nI hn, e0]
  exact k
theorem ev_copyI0 {X : mX} {M : mMD} {B : mB} {pc : Nat} {L st : List Value} {h : mH} {Q : mO → mH → Prop} {idx a a0 n : Nat} {f g : Nat → Nat} (hd : decode (mBy M) pc = .ok (.invokestatic idx, 3)) (hl : Cond.methodLink (RN (mOwn M)) idx arraycopyName ∈ WL) (hnat : Cond.native arraycopyName ∈ WL) (hstat : Cond.static arraycopyName ∈ WL) (hini : Cond.initialized "java/lang/System" ∈ WL) (hne : a0 ≠ a) (ha0 : h a0 = some (aI n (nf f))) (ha : h a = some (aI n (nf g))) (hB : B.1 = none) (hn : n < 2 ^ 31) (hfr : 1 ≤ mFr M) (hlo : (st.map fun v => v.category).sum + 30 ≤ mLo M) (k : Ev X M B (pc + 3) L st (mset h a (aI n (nf (cpN f g 0 0 n)))) Q) : Ev X M B pc L (.int (nI n) :: .int (nI 0) :: .ref a :: .int (nI 0) :: .ref a0 :: st) h Q := by
  have e0 : (nI 0).toNatClampNeg = 0 := rfl
  refine ev_copyI hd hl hnat hstat hini hne ha0 ha (by decide) (by decide) (nI_pos hn) (by rw [cl_nI hn, e0]; omega) (by rw [cl_nI hn, e0]; omega) hB hfr hlo ?_
  rw [cl_nI hn, e0, cpy_nf]
  exact k
/-- how many signs a row of signs has -/
def rl (w : Int64) : Nat := Nat.log2 w.toNatClampNeg / 3
abbrev mSo : Type := (Nat → Int64) × (Nat → Nat) × Nat × Nat
abbrev sR (S : mSo) : Nat → Int64 := S.1
abbrev sO (S : mSo) : Nat → Nat := S.2.1
abbrev sC (S : mSo) : Nat := S.2.2.1
abbrev sW (S : mSo) : Nat := S.2.2.2
def StoV (S : mSo) (rr : Nat → Int64) (ln ow : Nat → Nat) : Prop := ∀ k, k < 60 → rr k = sR S k ∧ (sR S k ≠ 0 → ln k = rl (sR S k) ∧ ow k = sO S k)
def IsSto (h : mH) (c came swept : Nat) (rr : Nat → Int64) (ln ow : Nat → Nat) : Prop := h c = some (aO 5 [.ref (c + 1), .ref (c + 2), .ref (c + 3), .int (nI came), .int (nI swept)]) ∧ h (c + 1) = some (aL 60 rr) ∧ h (c + 2) = some (aI 60 (nf ln)) ∧ h (c + 3) = some (aI 60 (nf ow))
def StoreN (h : mH) (c : Nat) (S : mSo) : Prop := ∃ (rr : Nat → Int64) (ln ow : Nat → Nat), IsSto h c (sC S) (sW S) rr ln ow ∧ StoV S rr ln ow
theorem StoreN.go {h h1 : mH} {c a n : Nat} {S : mSo} (x : StoreN h c S) (o : Out h h1 a n) (hd : c + 4 ≤ a ∨ a + n ≤ c) : StoreN h1 c S := by
  obtain ⟨rr, ln, ow, ⟨x0, x1, x2, x3⟩, x4⟩ := x
  exact ⟨rr, ln, ow, ⟨by rw [o _ (by omega)]; exact x0, by rw [o _ (by omega)]; exact x1, by rw [o _ (by omega)]; exact x2, by rw [o _ (by omega)]; exact x3⟩, x4⟩
/-- what slots hold is small -/
def SoB (S : mSo) : Prop := ∀ k, k < 60 → sR S k ≠ 0 → rl (sR S k) ≤ 20 ∧ sO S k ≤ 200
def isF (S : mSo) (k : Nat) : Bool := sR S k == 0
def isU (S : mSo) (k : Nat) : Bool := !(sR S k == 0) && sO S k == 0
/-- the number itself, for which nothing is unfolded -/
def shut (x : Nat) : Nat := if x = 0 then 0 else shut (x - 1) + 1
termination_by x
decreasing_by omega
theorem shut_eq (x : Nat) : shut x = x := by
  induction x with
  | zero => rw [shut]; rfl
  | succ n ih => rw [shut, if_neg (by omega), Nat.add_sub_cancel, ih]
def slU (S : mSo) (w : Int64) : Nat := shut (upTo (fun k => !(sR S k == w)) 60)
def slI (u : Nat) : Int32 := if u < 60 then nI u else -1
theorem slI_y {u : Nat} (h : u < 60) : slI u = nI u := if_pos h
theorem slI_n {u : Nat} (h : ¬ u < 60) : slI u = -1 := if_neg h
theorem slI_ne {u : Nat} (h : ¬ slI u = -1) : u < 60 := Classical.byContradiction (fun z => h (slI_n z))
theorem slI_eq {u : Nat} (h : slI u = -1) : ¬ u < 60 := fun z => by
  rw [slI_y z] at h
  have h2 := congrArg Int32.toInt h
  rw [nI_toInt (by omega)] at h2
  have : (-1 : Int32).toInt = -1 := rfl
  omega
theorem upTo_congr {p q : Nat → Bool} : ∀ {n : Nat}, (∀ k, k < n → p k = q k) → upTo p n = upTo q n
  | 0, _ => rfl
  | n + 1, h => by
    have e := upTo_congr (n := n) (fun k hk => h k (by omega))
    rw [upTo, upTo, e, h n (by omega)]
theorem upTo_pre {p : Nat → Bool} : ∀ {n : Nat}, upTo p n = n → ∀ {j : Nat}, j < n → p j = true
  | 0, _, _, hj => absurd hj (by omega)
  | n + 1, h, j, hj => by
    rw [upTo] at h
    have := upTo_le p n
    split at h
    · omega
    · split at h
      · next q1 q2 =>
        rcases Nat.lt_succ_iff_lt_or_eq.mp hj with z | z
        · exact upTo_pre (Nat.le_antisymm this (Nat.not_lt.mp q1)) z
        · rw [z]; exact q2
      · omega
theorem upTo_lt {p : Nat → Bool} : ∀ {n : Nat}, upTo p n < n → p (upTo p n) = false ∧ ∀ j, j < upTo p n → p j = true
  | 0, h => by simp [upTo] at h
  | n + 1, h => by
    rw [upTo] at h ⊢
    split at h
    · next q => rw [if_pos q]; exact upTo_lt q
    · next q =>
      rw [if_neg q]
      have hn : upTo p n = n := Nat.le_antisymm (upTo_le p n) (Nat.not_lt.mp q)
      split at h
      · omega
      · next q2 =>
        rw [if_neg q2]
        exact ⟨by simpa using q2, fun j hj => upTo_pre hn hj⟩
theorem upTo_allp {p : Nat → Bool} {n : Nat} (h : ¬ upTo p n < n) {j : Nat} (hj : j < n) : p j = true := upTo_pre (Nat.le_antisymm (upTo_le p n) (Nat.not_lt.mp h)) hj
theorem slU_def (S : mSo) (w : Int64) : slU S w = upTo (fun k => !(sR S k == w)) 60 := by rw [slU, shut_eq]
theorem slU_le (S : mSo) (w : Int64) : slU S w ≤ 60 := by rw [slU_def]; exact upTo_le _ _
theorem slU_at {S : mSo} {w : Int64} (h : slU S w < 60) : sR S (slU S w) = w := by
  rw [slU_def] at h ⊢
  have := (upTo_lt h).1
  simpa using this
theorem slU_no {S : mSo} {w : Int64} (h : ¬ slU S w < 60) {k : Nat} (hk : k < 60) : sR S k ≠ w := by
  rw [slU_def] at h
  have := upTo_allp h hk
  simpa using this
theorem slU_congr {S S1 : mSo} {w : Int64} (e : ∀ k, k < 60 → sR S1 k = sR S k) : slU S1 w = slU S w := by
  rw [slU_def, slU_def]
  exact upTo_congr (fun k hk => by rw [e k hk])
/-- a full slot is found by its row alone -/
def SoD (S : mSo) : Prop := ∀ j k, j < 60 → k < 60 → sR S j = sR S k → sR S j ≠ 0 → j = k
theorem slU_is {S : mSo} {w : Int64} {k : Nat} (hk : k < 60) (e : sR S k = w) : slU S w < 60 := Classical.byContradiction (fun z => slU_no z hk e)
theorem slU_eq {S : mSo} (hD : SoD S) {w : Int64} (hw : w ≠ 0) {k : Nat} (hk : k < 60) (e : sR S k = w) : slU S w = k := by
  have h := slU_is hk e
  exact hD _ _ h hk (by rw [slU_at h, e]) (by rw [slU_at h]; exact hw)
set_option maxHeartbeats 4000000 in
set_option maxRecDepth 100000 in
theorem c_isFree {X : mX} {h : mH} {c : Nat} {S : mSo} (hs : StoreN h c S) (k : Nat) (hk : k < 60) : CnP X m_X5_isFree [.ref c, .int (nI k)] h (some (.int (bI (isF S k)))) := by
  obtain ⟨rr, ln, ow, ⟨y0, y1, y2, y3⟩, hV⟩ := id hs
  refine cn_of_ev (L0 := [_, _]) (by decide +kernel) rfl rfl (Nat.le_of_ble_eq_true rfl) rfl ?_
  refine ev_aload_n dX5_isFree_0 rfl rfl ?_
  first | refine ev_getfield dX5_isFree_1 lf_5_9 (y0) rfl ?_ | refine ev_getfield dX5_isFree_1 lf_5_9 (y1) rfl ?_ | refine ev_getfield dX5_isFree_1 lf_5_9 (y2) rfl ?_ | refine ev_getfield dX5_isFree_1 lf_5_9 (y3) rfl ?_
  refine ev_iload_n dX5_isFree_4 rfl rfl ?_
  first | refine ev_laloadN dX5_isFree_5 (y0) (by omega) (by decide) ?_ | refine ev_laloadN dX5_isFree_5 (y1) (by omega) (by decide) ?_ | refine ev_laloadN dX5_isFree_5 (y2) (by omega) (by decide) ?_ | refine ev_laloadN dX5_isFree_5 (y3) (by omega) (by decide) ?_
  rw [(hV k hk).1]
  refine ev_lconst (lN 0) dX5_isFree_6 rfl ?_
  refine ev_lcmp_ne 15 dX5_isFree_7 dX5_isFree_8 rfl (fun hc8 => ?_) (fun hc8 => ?_)
  · refine ev_iconst (nI 0) dX5_isFree_15 rfl ?_
    refine ev_zreturn dX5_isFree_16 rfl (by first | rfl | exact bI_nar _) (Or.inl rfl) (Nat.zero_le _) (Nat.zero_le _) ?_
    first | (have z : sR S k = 0 := hc8; rw [isF, show (sR S k == 0) = true from by simpa using z]; exact ⟨rfl, rfl⟩) | (have z : ¬ sR S k = 0 := hc8; rw [isF, show (sR S k == 0) = false from by simpa using z]; exact ⟨rfl, rfl⟩)
  · refine ev_iconst (nI 1) dX5_isFree_11 rfl ?_
    refine ev_goto 16 dX5_isFree_12 rfl ?_
    refine ev_zreturn dX5_isFree_16 rfl (by first | rfl | exact bI_nar _) (Or.inl rfl) (Nat.zero_le _) (Nat.zero_le _) ?_
    first | (have z : sR S k = 0 := hc8; rw [isF, show (sR S k == 0) = true from by simpa using z]; exact ⟨rfl, rfl⟩) | (have z : ¬ sR S k = 0 := hc8; rw [isF, show (sR S k == 0) = false from by simpa using z]; exact ⟨rfl, rfl⟩)
set_option maxHeartbeats 4000000 in
set_option maxRecDepth 100000 in
theorem c_isUnowned {X : mX} {h : mH} {c : Nat} {S : mSo} (hs : StoreN h c S) (hB : SoB S) (k : Nat) (hk : k < 60) : CnP X m_X5_isUnowned [.ref c, .int (nI k)] h (some (.int (bI (isU S k)))) := by
  obtain ⟨rr, ln, ow, ⟨y0, y1, y2, y3⟩, hV⟩ := id hs
  refine cn_of_ev (L0 := [_, _]) (by decide +kernel) rfl rfl (Nat.le_of_ble_eq_true rfl) rfl ?_
  refine ev_aload_n dX5_isUnowned_0 rfl rfl ?_
  first | refine ev_getfield dX5_isUnowned_1 lf_5_9 (y0) rfl ?_ | refine ev_getfield dX5_isUnowned_1 lf_5_9 (y1) rfl ?_ | refine ev_getfield dX5_isUnowned_1 lf_5_9 (y2) rfl ?_ | refine ev_getfield dX5_isUnowned_1 lf_5_9 (y3) rfl ?_
  refine ev_iload_n dX5_isUnowned_4 rfl rfl ?_
  first | refine ev_laloadN dX5_isUnowned_5 (y0) (by omega) (by decide) ?_ | refine ev_laloadN dX5_isUnowned_5 (y1) (by omega) (by decide) ?_ | refine ev_laloadN dX5_isUnowned_5 (y2) (by omega) (by decide) ?_ | refine ev_laloadN dX5_isUnowned_5 (y3) (by omega) (by decide) ?_
  rw [(hV k hk).1]
  refine ev_lconst (lN 0) dX5_isUnowned_6 rfl ?_
  refine ev_lcmp_eq 24 dX5_isUnowned_7 dX5_isUnowned_8 rfl (fun hc8 => ?_) (fun hc8 => ?_)
  · refine ev_iconst (nI 0) dX5_isUnowned_24 rfl ?_
    refine ev_zreturn dX5_isUnowned_25 rfl (by first | rfl | exact bI_nar _) (Or.inl rfl) (Nat.zero_le _) (Nat.zero_le _) ?_
    rw [isU, show (!(sR S k == 0) && sO S k == 0) = false from by simp [show sR S k = 0 from hc8]]; exact ⟨rfl, rfl⟩
  · refine ev_pc (pc' := 11) rfl ?_
    have hq : sR S k ≠ 0 := hc8
    have hb := (hB k hk hq).2
    refine ev_aload_n dX5_isUnowned_11 rfl rfl ?_
    first | refine ev_getfield dX5_isUnowned_12 lf_5_19 (y0) rfl ?_ | refine ev_getfield dX5_isUnowned_12 lf_5_19 (y1) rfl ?_ | refine ev_getfield dX5_isUnowned_12 lf_5_19 (y2) rfl ?_ | refine ev_getfield dX5_isUnowned_12 lf_5_19 (y3) rfl ?_
    refine ev_iload_n dX5_isUnowned_15 rfl rfl ?_
    first | refine ev_ialoadF dX5_isUnowned_16 (y0) (by omega) (by decide) ?_ | refine ev_ialoadF dX5_isUnowned_16 (y1) (by omega) (by decide) ?_ | refine ev_ialoadF dX5_isUnowned_16 (y2) (by omega) (by decide) ?_ | refine ev_ialoadF dX5_isUnowned_16 (y3) (by omega) (by decide) ?_
    rw [((hV k hk).2 hq).2]
    refine ev_if_neN 24 dX5_isUnowned_17 rfl (by omega) (fun hc17 => ?_) (fun hc17 => ?_)
    · refine ev_iconst (nI 0) dX5_isUnowned_24 rfl ?_
      refine ev_zreturn dX5_isUnowned_25 rfl (by first | rfl | exact bI_nar _) (Or.inl rfl) (Nat.zero_le _) (Nat.zero_le _) ?_
      first | (rw [isU, show (!(sR S k == 0) && sO S k == 0) = true from by simp [hq, hc17]]; exact ⟨rfl, rfl⟩) | (rw [isU, show (!(sR S k == 0) && sO S k == 0) = false from by simp [hc17]]; exact ⟨rfl, rfl⟩)
    · refine ev_iconst (nI 1) dX5_isUnowned_20 rfl ?_
      refine ev_goto 25 dX5_isUnowned_21 rfl ?_
      refine ev_zreturn dX5_isUnowned_25 rfl (by first | rfl | exact bI_nar _) (Or.inl rfl) (Nat.zero_le _) (Nat.zero_le _) ?_
      first | (rw [isU, show (!(sR S k == 0) && sO S k == 0) = true from by simp [hq, hc17]]; exact ⟨rfl, rfl⟩) | (rw [isU, show (!(sR S k == 0) && sO S k == 0) = false from by simp [hc17]]; exact ⟨rfl, rfl⟩)
set_option maxHeartbeats 4000000 in
set_option maxRecDepth 100000 in
theorem c_slotOf {X : mX} {h : mH} {c : Nat} {S : mSo} (hs : StoreN h c S) (w : Int64) : CnP X m_X5_slotOf [.ref c, .long w] h (some (.int (slI (slU S w)))) := by
  obtain ⟨rr, ln, ow, ⟨y0, y1, y2, y3⟩, hV⟩ := id hs
  refine cn_of_ev (L0 := [_, _, _, _]) (by decide +kernel) rfl rfl (Nat.le_of_ble_eq_true rfl) rfl ?_
  refine ev_iconst (nI 0) dX5_slotOf_0 rfl ?_
  refine ev_istore_n (L' := [_, _, _, _]) dX5_slotOf_1 rfl (Nat.le_of_ble_eq_true rfl) rfl ?_
  refine ev_pc (pc' := 2) rfl ?_
  have LP2 : ∀ (n : Nat) (k : Nat), 60 - k = n → (k ≤ 60) → (∀ q, q < k → ¬ sR S q = w) → Ev X m_X5_slotOf B0 2 [.ref c, .long w, jk, .int (nI k)] [] h (fun o h1 => o = .inl (some (.int (slI (slU S w)))) ∧ h1 = h) := by
    intro n
    induction n using Nat.strongRecOn with
    | _ n ih =>
      intro k hn hk hno
      refine ev_iload_n dX5_slotOf_2 rfl rfl ?_
      refine ev_bipush (nI 60) dX5_slotOf_3 rfl ?_
      refine ev_icmp_geN 27 dX5_slotOf_5 rfl (by omega) (by omega) (fun hc5 => ?_) (fun hc5 => ?_)
      · refine ev_iconst (-1) dX5_slotOf_27 rfl ?_
        refine ev_ireturn dX5_slotOf_28 rfl (Or.inl rfl) (Nat.zero_le _) (Nat.zero_le _) ?_
        rw [slU_def, upTo_all (fun q hq => by simpa using hno q (by omega)), slI_n (by omega)]; exact ⟨rfl, rfl⟩
      · refine ev_aload_n dX5_slotOf_8 rfl rfl ?_
        first | refine ev_getfield dX5_slotOf_9 lf_5_9 (y0) rfl ?_ | refine ev_getfield dX5_slotOf_9 lf_5_9 (y1) rfl ?_ | refine ev_getfield dX5_slotOf_9 lf_5_9 (y2) rfl ?_ | refine ev_getfield dX5_slotOf_9 lf_5_9 (y3) rfl ?_
        refine ev_iload_n dX5_slotOf_12 rfl rfl ?_
        first | refine ev_laloadN dX5_slotOf_13 (y0) (by omega) (by decide) ?_ | refine ev_laloadN dX5_slotOf_13 (y1) (by omega) (by decide) ?_ | refine ev_laloadN dX5_slotOf_13 (y2) (by omega) (by decide) ?_ | refine ev_laloadN dX5_slotOf_13 (y3) (by omega) (by decide) ?_
        rw [(hV k (by omega)).1]
        refine ev_lload_n dX5_slotOf_14 rfl rfl ?_
        refine ev_lcmp_ne 21 dX5_slotOf_15 dX5_slotOf_16 rfl (fun hc16 => ?_) (fun hc16 => ?_)
        · refine ev_iincN (L' := [_, _, _, _]) 1 dX5_slotOf_21 rfl rfl ?_
          refine ev_goto 2 dX5_slotOf_24 rfl ?_
          refine ev_pc (pc' := 2) rfl ?_
          exact ih _ (by omega) (k + 1) rfl (by omega) (fun q hq => by rcases Nat.lt_succ_iff_lt_or_eq.mp hq with z | z; exact hno q z; rw [z]; exact hc16)
        · refine ev_iload_n dX5_slotOf_19 rfl rfl ?_
          refine ev_ireturn dX5_slotOf_20 rfl (Or.inl rfl) (Nat.zero_le _) (Nat.zero_le _) ?_
          rw [slU_def, upTo_stop (k := k) (by omega) (fun q hq => by simpa using hno q hq) (by simpa using hc16), slI_y (by omega)]; exact ⟨rfl, rfl⟩
  exact LP2 _ 0 rfl (Nat.zero_le _) (fun q hq => by omega)
set_option maxHeartbeats 4000000 in
set_option maxRecDepth 100000 in
theorem c_pieces {X : mX} {h : mH} {c : Nat} {S : mSo} (hs : StoreN h c S) (hB : SoB S) : CnP X m_X5_pieces [.ref c] h (some (.int (nI (ctN (fun k => !(isF S k)) 60)))) := by
  obtain ⟨rr, ln, ow, ⟨y0, y1, y2, y3⟩, hV⟩ := id hs
  refine cn_of_ev (L0 := [_, _, _]) (by decide +kernel) rfl rfl (Nat.le_of_ble_eq_true rfl) rfl ?_
  refine ev_iconst (nI 0) dX5_pieces_0 rfl ?_
  refine ev_istore_n (L' := [_, _, _]) dX5_pieces_1 rfl (Nat.le_of_ble_eq_true rfl) rfl ?_
  refine ev_iconst (nI 0) dX5_pieces_2 rfl ?_
  refine ev_istore_n (L' := [_, _, _]) dX5_pieces_3 rfl (Nat.le_of_ble_eq_true rfl) rfl ?_
  refine ev_pc (pc' := 4) rfl ?_
  have LP4 : ∀ (n : Nat) (k : Nat), 60 - k = n → (k ≤ 60) → Ev X m_X5_pieces B0 4 [.ref c, .int (nI (ctN (fun k => !(isF S k)) k)), .int (nI k)] [] h (fun o h1 => o = .inl (some (.int (nI (ctN (fun k => !(isF S k)) 60)))) ∧ h1 = h) := by
    intro n
    induction n using Nat.strongRecOn with
    | _ n ih =>
      intro k hn hk
      refine ev_iload_n dX5_pieces_4 rfl rfl ?_
      refine ev_bipush (nI 60) dX5_pieces_5 rfl ?_
      refine ev_icmp_geN 27 dX5_pieces_7 rfl (by omega) (by omega) (fun hc7 => ?_) (fun hc7 => ?_)
      · refine ev_iload_n dX5_pieces_27 rfl rfl ?_
        refine ev_ireturn dX5_pieces_28 rfl (Or.inl rfl) (Nat.zero_le _) (Nat.zero_le _) ?_
        rw [show k = 60 by omega]; exact ⟨rfl, rfl⟩
      · refine ev_aload_n dX5_pieces_10 rfl rfl ?_
        refine ev_iload_n dX5_pieces_11 rfl rfl ?_
        first | refine ev_callVP1 dX5_pieces_12 cal_X5_isFree lk_5_77 ⟨(Nat.le_of_ble_eq_true rfl), (Nat.le_of_ble_eq_true rfl)⟩ rfl (y0) (Nat.le_of_ble_eq_true rfl) (c_isFree hs k (by omega)) ?_ | refine ev_callVP1 dX5_pieces_12 cal_X5_isFree lk_5_77 ⟨(Nat.le_of_ble_eq_true rfl), (Nat.le_of_ble_eq_true rfl)⟩ rfl (y1) (Nat.le_of_ble_eq_true rfl) (c_isFree hs k (by omega)) ?_ | refine ev_callVP1 dX5_pieces_12 cal_X5_isFree lk_5_77 ⟨(Nat.le_of_ble_eq_true rfl), (Nat.le_of_ble_eq_true rfl)⟩ rfl (y2) (Nat.le_of_ble_eq_true rfl) (c_isFree hs k (by omega)) ?_ | refine ev_callVP1 dX5_pieces_12 cal_X5_isFree lk_5_77 ⟨(Nat.le_of_ble_eq_true rfl), (Nat.le_of_ble_eq_true rfl)⟩ rfl (y3) (Nat.le_of_ble_eq_true rfl) (c_isFree hs k (by omega)) ?_
        refine ev_if_neB 21 dX5_pieces_15 rfl (fun hc15 => ?_) (fun hc15 => ?_)
        · refine ev_pc (pc' := 21) rfl ?_
          first | rw [show ctN (fun k => !(isF S k)) k + 1 = ctN (fun k => !(isF S k)) (k + 1) from by simp [ctN, hc15]] | rw [show ctN (fun k => !(isF S k)) k + rl (sR S k) = ctN (fun k => !(isF S k)) (k + 1) from by simp [ctN, hc15]] | rw [show max (ctN (fun k => !(isF S k)) k) (sO S k) = ctN (fun k => !(isF S k)) (k + 1) from by simp [ctN, hc15]] | rw [show ctN (fun k => !(isF S k)) k = ctN (fun k => !(isF S k)) (k + 1) from by simp [ctN, hc15]]
          refine ev_iincN (L' := [_, _, _]) 1 dX5_pieces_21 rfl rfl ?_
          refine ev_goto 4 dX5_pieces_24 rfl ?_
          refine ev_pc (pc' := 4) rfl ?_
          exact ih _ (by omega) (k + 1) rfl (by omega)
        · refine ev_iincN (L' := [_, _, _]) 1 dX5_pieces_18 rfl rfl ?_
          refine ev_pc (pc' := 21) rfl ?_
          first | rw [show ctN (fun k => !(isF S k)) k + 1 = ctN (fun k => !(isF S k)) (k + 1) from by simp [ctN, hc15]] | rw [show ctN (fun k => !(isF S k)) k + rl (sR S k) = ctN (fun k => !(isF S k)) (k + 1) from by simp [ctN, hc15]] | rw [show max (ctN (fun k => !(isF S k)) k) (sO S k) = ctN (fun k => !(isF S k)) (k + 1) from by simp [ctN, hc15]] | rw [show ctN (fun k => !(isF S k)) k = ctN (fun k => !(isF S k)) (k + 1) from by simp [ctN, hc15]]
          refine ev_iincN (L' := [_, _, _]) 1 dX5_pieces_21 rfl rfl ?_
          refine ev_goto 4 dX5_pieces_24 rfl ?_
          refine ev_pc (pc' := 4) rfl ?_
          exact ih _ (by omega) (k + 1) rfl (by omega)
  exact LP4 _ 0 rfl (Nat.zero_le _)
set_option maxHeartbeats 4000000 in
set_option maxRecDepth 100000 in
theorem c_size {X : mX} {h : mH} {c : Nat} {S : mSo} (hs : StoreN h c S) (hB : SoB S) : CnP X m_X5_size [.ref c] h (some (.int (nI (smN (fun k => if isF S k = true then 0 else rl (sR S k)) 60)))) := by
  obtain ⟨rr, ln, ow, ⟨y0, y1, y2, y3⟩, hV⟩ := id hs
  refine cn_of_ev (L0 := [_, _, _]) (by decide +kernel) rfl rfl (Nat.le_of_ble_eq_true rfl) rfl ?_
  refine ev_iconst (nI 0) dX5_size_0 rfl ?_
  refine ev_istore_n (L' := [_, _, _]) dX5_size_1 rfl (Nat.le_of_ble_eq_true rfl) rfl ?_
  refine ev_iconst (nI 0) dX5_size_2 rfl ?_
  refine ev_istore_n (L' := [_, _, _]) dX5_size_3 rfl (Nat.le_of_ble_eq_true rfl) rfl ?_
  refine ev_pc (pc' := 4) rfl ?_
  have LP4 : ∀ (n : Nat) (k : Nat), 60 - k = n → (k ≤ 60) → Ev X m_X5_size B0 4 [.ref c, .int (nI (smN (fun k => if isF S k = true then 0 else rl (sR S k)) k)), .int (nI k)] [] h (fun o h1 => o = .inl (some (.int (nI (smN (fun k => if isF S k = true then 0 else rl (sR S k)) 60)))) ∧ h1 = h) := by
    intro n
    induction n using Nat.strongRecOn with
    | _ n ih =>
      intro k hn hk
      refine ev_iload_n dX5_size_4 rfl rfl ?_
      refine ev_bipush (nI 60) dX5_size_5 rfl ?_
      refine ev_icmp_geN 33 dX5_size_7 rfl (by omega) (by omega) (fun hc7 => ?_) (fun hc7 => ?_)
      · refine ev_iload_n dX5_size_33 rfl rfl ?_
        refine ev_ireturn dX5_size_34 rfl (Or.inl rfl) (Nat.zero_le _) (Nat.zero_le _) ?_
        rw [show k = 60 by omega]; exact ⟨rfl, rfl⟩
      · refine ev_aload_n dX5_size_10 rfl rfl ?_
        refine ev_iload_n dX5_size_11 rfl rfl ?_
        first | refine ev_callVP1 dX5_size_12 cal_X5_isFree lk_5_77 ⟨(Nat.le_of_ble_eq_true rfl), (Nat.le_of_ble_eq_true rfl)⟩ rfl (y0) (Nat.le_of_ble_eq_true rfl) (c_isFree hs k (by omega)) ?_ | refine ev_callVP1 dX5_size_12 cal_X5_isFree lk_5_77 ⟨(Nat.le_of_ble_eq_true rfl), (Nat.le_of_ble_eq_true rfl)⟩ rfl (y1) (Nat.le_of_ble_eq_true rfl) (c_isFree hs k (by omega)) ?_ | refine ev_callVP1 dX5_size_12 cal_X5_isFree lk_5_77 ⟨(Nat.le_of_ble_eq_true rfl), (Nat.le_of_ble_eq_true rfl)⟩ rfl (y2) (Nat.le_of_ble_eq_true rfl) (c_isFree hs k (by omega)) ?_ | refine ev_callVP1 dX5_size_12 cal_X5_isFree lk_5_77 ⟨(Nat.le_of_ble_eq_true rfl), (Nat.le_of_ble_eq_true rfl)⟩ rfl (y3) (Nat.le_of_ble_eq_true rfl) (c_isFree hs k (by omega)) ?_
        refine ev_if_neB 27 dX5_size_15 rfl (fun hc15 => ?_) (fun hc15 => ?_)
        · refine ev_pc (pc' := 27) rfl ?_
          first | rw [show smN (fun k => if isF S k = true then 0 else rl (sR S k)) k + 1 = smN (fun k => if isF S k = true then 0 else rl (sR S k)) (k + 1) from by simp [smN, hc15]] | rw [show smN (fun k => if isF S k = true then 0 else rl (sR S k)) k + rl (sR S k) = smN (fun k => if isF S k = true then 0 else rl (sR S k)) (k + 1) from by simp [smN, hc15]] | rw [show max (smN (fun k => if isF S k = true then 0 else rl (sR S k)) k) (sO S k) = smN (fun k => if isF S k = true then 0 else rl (sR S k)) (k + 1) from by simp [smN, hc15]] | rw [show smN (fun k => if isF S k = true then 0 else rl (sR S k)) k = smN (fun k => if isF S k = true then 0 else rl (sR S k)) (k + 1) from by simp [smN, hc15]]
          refine ev_iincN (L' := [_, _, _]) 1 dX5_size_27 rfl rfl ?_
          refine ev_goto 4 dX5_size_30 rfl ?_
          refine ev_pc (pc' := 4) rfl ?_
          exact ih _ (by omega) (k + 1) rfl (by omega)
        · refine ev_iload_n dX5_size_18 rfl rfl ?_
          refine ev_aload_n dX5_size_19 rfl rfl ?_
          first | refine ev_getfield dX5_size_20 lf_5_15 (y0) rfl ?_ | refine ev_getfield dX5_size_20 lf_5_15 (y1) rfl ?_ | refine ev_getfield dX5_size_20 lf_5_15 (y2) rfl ?_ | refine ev_getfield dX5_size_20 lf_5_15 (y3) rfl ?_
          refine ev_iload_n dX5_size_23 rfl rfl ?_
          first | refine ev_ialoadF dX5_size_24 (y0) (by omega) (by decide) ?_ | refine ev_ialoadF dX5_size_24 (y1) (by omega) (by decide) ?_ | refine ev_ialoadF dX5_size_24 (y2) (by omega) (by decide) ?_ | refine ev_ialoadF dX5_size_24 (y3) (by omega) (by decide) ?_
          have hq : sR S k ≠ 0 := by simpa [isF] using hc15
          rw [((hV k (by omega)).2 hq).1]
          refine ev_iaddN dX5_size_25 ?_
          refine ev_istore_n (L' := [_, _, _]) dX5_size_26 rfl (Nat.le_of_ble_eq_true rfl) rfl ?_
          refine ev_pc (pc' := 27) rfl ?_
          first | rw [show smN (fun k => if isF S k = true then 0 else rl (sR S k)) k + 1 = smN (fun k => if isF S k = true then 0 else rl (sR S k)) (k + 1) from by simp [smN, hc15]] | rw [show smN (fun k => if isF S k = true then 0 else rl (sR S k)) k + rl (sR S k) = smN (fun k => if isF S k = true then 0 else rl (sR S k)) (k + 1) from by simp [smN, hc15]] | rw [show max (smN (fun k => if isF S k = true then 0 else rl (sR S k)) k) (sO S k) = smN (fun k => if isF S k = true then 0 else rl (sR S k)) (k + 1) from by simp [smN, hc15]] | rw [show smN (fun k => if isF S k = true then 0 else rl (sR S k)) k = smN (fun k => if isF S k = true then 0 else rl (sR S k)) (k + 1) from by simp [smN, hc15]]
          refine ev_iincN (L' := [_, _, _]) 1 dX5_size_27 rfl rfl ?_
          refine ev_goto 4 dX5_size_30 rfl ?_
          refine ev_pc (pc' := 4) rfl ?_
          exact ih _ (by omega) (k + 1) rfl (by omega)
  exact LP4 _ 0 rfl (Nat.zero_le _)
set_option maxHeartbeats 4000000 in
set_option maxRecDepth 100000 in
theorem c_unownedPieces {X : mX} {h : mH} {c : Nat} {S : mSo} (hs : StoreN h c S) (hB : SoB S) : CnP X m_X5_unownedPieces [.ref c] h (some (.int (nI (ctN (isU S) 60)))) := by
  obtain ⟨rr, ln, ow, ⟨y0, y1, y2, y3⟩, hV⟩ := id hs
  refine cn_of_ev (L0 := [_, _, _]) (by decide +kernel) rfl rfl (Nat.le_of_ble_eq_true rfl) rfl ?_
  refine ev_iconst (nI 0) dX5_unownedPieces_0 rfl ?_
  refine ev_istore_n (L' := [_, _, _]) dX5_unownedPieces_1 rfl (Nat.le_of_ble_eq_true rfl) rfl ?_
  refine ev_iconst (nI 0) dX5_unownedPieces_2 rfl ?_
  refine ev_istore_n (L' := [_, _, _]) dX5_unownedPieces_3 rfl (Nat.le_of_ble_eq_true rfl) rfl ?_
  refine ev_pc (pc' := 4) rfl ?_
  have LP4 : ∀ (n : Nat) (k : Nat), 60 - k = n → (k ≤ 60) → Ev X m_X5_unownedPieces B0 4 [.ref c, .int (nI (ctN (isU S) k)), .int (nI k)] [] h (fun o h1 => o = .inl (some (.int (nI (ctN (isU S) 60)))) ∧ h1 = h) := by
    intro n
    induction n using Nat.strongRecOn with
    | _ n ih =>
      intro k hn hk
      refine ev_iload_n dX5_unownedPieces_4 rfl rfl ?_
      refine ev_bipush (nI 60) dX5_unownedPieces_5 rfl ?_
      refine ev_icmp_geN 27 dX5_unownedPieces_7 rfl (by omega) (by omega) (fun hc7 => ?_) (fun hc7 => ?_)
      · refine ev_iload_n dX5_unownedPieces_27 rfl rfl ?_
        refine ev_ireturn dX5_unownedPieces_28 rfl (Or.inl rfl) (Nat.zero_le _) (Nat.zero_le _) ?_
        rw [show k = 60 by omega]; exact ⟨rfl, rfl⟩
      · refine ev_aload_n dX5_unownedPieces_10 rfl rfl ?_
        refine ev_iload_n dX5_unownedPieces_11 rfl rfl ?_
        first | refine ev_callVP1 dX5_unownedPieces_12 cal_X5_isUnowned lk_5_52 ⟨(Nat.le_of_ble_eq_true rfl), (Nat.le_of_ble_eq_true rfl)⟩ rfl (y0) (Nat.le_of_ble_eq_true rfl) (c_isUnowned hs hB k (by omega)) ?_ | refine ev_callVP1 dX5_unownedPieces_12 cal_X5_isUnowned lk_5_52 ⟨(Nat.le_of_ble_eq_true rfl), (Nat.le_of_ble_eq_true rfl)⟩ rfl (y1) (Nat.le_of_ble_eq_true rfl) (c_isUnowned hs hB k (by omega)) ?_ | refine ev_callVP1 dX5_unownedPieces_12 cal_X5_isUnowned lk_5_52 ⟨(Nat.le_of_ble_eq_true rfl), (Nat.le_of_ble_eq_true rfl)⟩ rfl (y2) (Nat.le_of_ble_eq_true rfl) (c_isUnowned hs hB k (by omega)) ?_ | refine ev_callVP1 dX5_unownedPieces_12 cal_X5_isUnowned lk_5_52 ⟨(Nat.le_of_ble_eq_true rfl), (Nat.le_of_ble_eq_true rfl)⟩ rfl (y3) (Nat.le_of_ble_eq_true rfl) (c_isUnowned hs hB k (by omega)) ?_
        refine ev_if_eqB 21 dX5_unownedPieces_15 rfl (fun hc15 => ?_) (fun hc15 => ?_)
        · refine ev_pc (pc' := 21) rfl ?_
          first | rw [show ctN (isU S) k + 1 = ctN (isU S) (k + 1) from by simp [ctN, hc15]] | rw [show ctN (isU S) k + rl (sR S k) = ctN (isU S) (k + 1) from by simp [ctN, hc15]] | rw [show max (ctN (isU S) k) (sO S k) = ctN (isU S) (k + 1) from by simp [ctN, hc15]] | rw [show ctN (isU S) k = ctN (isU S) (k + 1) from by simp [ctN, hc15]]
          refine ev_iincN (L' := [_, _, _]) 1 dX5_unownedPieces_21 rfl rfl ?_
          refine ev_goto 4 dX5_unownedPieces_24 rfl ?_
          refine ev_pc (pc' := 4) rfl ?_
          exact ih _ (by omega) (k + 1) rfl (by omega)
        · refine ev_iincN (L' := [_, _, _]) 1 dX5_unownedPieces_18 rfl rfl ?_
          refine ev_pc (pc' := 21) rfl ?_
          first | rw [show ctN (isU S) k + 1 = ctN (isU S) (k + 1) from by simp [ctN, hc15]] | rw [show ctN (isU S) k + rl (sR S k) = ctN (isU S) (k + 1) from by simp [ctN, hc15]] | rw [show max (ctN (isU S) k) (sO S k) = ctN (isU S) (k + 1) from by simp [ctN, hc15]] | rw [show ctN (isU S) k = ctN (isU S) (k + 1) from by simp [ctN, hc15]]
          refine ev_iincN (L' := [_, _, _]) 1 dX5_unownedPieces_21 rfl rfl ?_
          refine ev_goto 4 dX5_unownedPieces_24 rfl ?_
          refine ev_pc (pc' := 4) rfl ?_
          exact ih _ (by omega) (k + 1) rfl (by omega)
  exact LP4 _ 0 rfl (Nat.zero_le _)
set_option maxHeartbeats 4000000 in
set_option maxRecDepth 100000 in
theorem c_unownedSize {X : mX} {h : mH} {c : Nat} {S : mSo} (hs : StoreN h c S) (hB : SoB S) : CnP X m_X5_unownedSize [.ref c] h (some (.int (nI (smN (fun k => if isU S k = true then rl (sR S k) else 0) 60)))) := by
  obtain ⟨rr, ln, ow, ⟨y0, y1, y2, y3⟩, hV⟩ := id hs
  refine cn_of_ev (L0 := [_, _, _]) (by decide +kernel) rfl rfl (Nat.le_of_ble_eq_true rfl) rfl ?_
  refine ev_iconst (nI 0) dX5_unownedSize_0 rfl ?_
  refine ev_istore_n (L' := [_, _, _]) dX5_unownedSize_1 rfl (Nat.le_of_ble_eq_true rfl) rfl ?_
  refine ev_iconst (nI 0) dX5_unownedSize_2 rfl ?_
  refine ev_istore_n (L' := [_, _, _]) dX5_unownedSize_3 rfl (Nat.le_of_ble_eq_true rfl) rfl ?_
  refine ev_pc (pc' := 4) rfl ?_
  have LP4 : ∀ (n : Nat) (k : Nat), 60 - k = n → (k ≤ 60) → Ev X m_X5_unownedSize B0 4 [.ref c, .int (nI (smN (fun k => if isU S k = true then rl (sR S k) else 0) k)), .int (nI k)] [] h (fun o h1 => o = .inl (some (.int (nI (smN (fun k => if isU S k = true then rl (sR S k) else 0) 60)))) ∧ h1 = h) := by
    intro n
    induction n using Nat.strongRecOn with
    | _ n ih =>
      intro k hn hk
      refine ev_iload_n dX5_unownedSize_4 rfl rfl ?_
      refine ev_bipush (nI 60) dX5_unownedSize_5 rfl ?_
      refine ev_icmp_geN 33 dX5_unownedSize_7 rfl (by omega) (by omega) (fun hc7 => ?_) (fun hc7 => ?_)
      · refine ev_iload_n dX5_unownedSize_33 rfl rfl ?_
        refine ev_ireturn dX5_unownedSize_34 rfl (Or.inl rfl) (Nat.zero_le _) (Nat.zero_le _) ?_
        rw [show k = 60 by omega]; exact ⟨rfl, rfl⟩
      · refine ev_aload_n dX5_unownedSize_10 rfl rfl ?_
        refine ev_iload_n dX5_unownedSize_11 rfl rfl ?_
        first | refine ev_callVP1 dX5_unownedSize_12 cal_X5_isUnowned lk_5_52 ⟨(Nat.le_of_ble_eq_true rfl), (Nat.le_of_ble_eq_true rfl)⟩ rfl (y0) (Nat.le_of_ble_eq_true rfl) (c_isUnowned hs hB k (by omega)) ?_ | refine ev_callVP1 dX5_unownedSize_12 cal_X5_isUnowned lk_5_52 ⟨(Nat.le_of_ble_eq_true rfl), (Nat.le_of_ble_eq_true rfl)⟩ rfl (y1) (Nat.le_of_ble_eq_true rfl) (c_isUnowned hs hB k (by omega)) ?_ | refine ev_callVP1 dX5_unownedSize_12 cal_X5_isUnowned lk_5_52 ⟨(Nat.le_of_ble_eq_true rfl), (Nat.le_of_ble_eq_true rfl)⟩ rfl (y2) (Nat.le_of_ble_eq_true rfl) (c_isUnowned hs hB k (by omega)) ?_ | refine ev_callVP1 dX5_unownedSize_12 cal_X5_isUnowned lk_5_52 ⟨(Nat.le_of_ble_eq_true rfl), (Nat.le_of_ble_eq_true rfl)⟩ rfl (y3) (Nat.le_of_ble_eq_true rfl) (c_isUnowned hs hB k (by omega)) ?_
        refine ev_if_eqB 27 dX5_unownedSize_15 rfl (fun hc15 => ?_) (fun hc15 => ?_)
        · refine ev_pc (pc' := 27) rfl ?_
          first | rw [show smN (fun k => if isU S k = true then rl (sR S k) else 0) k + 1 = smN (fun k => if isU S k = true then rl (sR S k) else 0) (k + 1) from by simp [smN, hc15]] | rw [show smN (fun k => if isU S k = true then rl (sR S k) else 0) k + rl (sR S k) = smN (fun k => if isU S k = true then rl (sR S k) else 0) (k + 1) from by simp [smN, hc15]] | rw [show max (smN (fun k => if isU S k = true then rl (sR S k) else 0) k) (sO S k) = smN (fun k => if isU S k = true then rl (sR S k) else 0) (k + 1) from by simp [smN, hc15]] | rw [show smN (fun k => if isU S k = true then rl (sR S k) else 0) k = smN (fun k => if isU S k = true then rl (sR S k) else 0) (k + 1) from by simp [smN, hc15]]
          refine ev_iincN (L' := [_, _, _]) 1 dX5_unownedSize_27 rfl rfl ?_
          refine ev_goto 4 dX5_unownedSize_30 rfl ?_
          refine ev_pc (pc' := 4) rfl ?_
          exact ih _ (by omega) (k + 1) rfl (by omega)
        · refine ev_iload_n dX5_unownedSize_18 rfl rfl ?_
          refine ev_aload_n dX5_unownedSize_19 rfl rfl ?_
          first | refine ev_getfield dX5_unownedSize_20 lf_5_15 (y0) rfl ?_ | refine ev_getfield dX5_unownedSize_20 lf_5_15 (y1) rfl ?_ | refine ev_getfield dX5_unownedSize_20 lf_5_15 (y2) rfl ?_ | refine ev_getfield dX5_unownedSize_20 lf_5_15 (y3) rfl ?_
          refine ev_iload_n dX5_unownedSize_23 rfl rfl ?_
          first | refine ev_ialoadF dX5_unownedSize_24 (y0) (by omega) (by decide) ?_ | refine ev_ialoadF dX5_unownedSize_24 (y1) (by omega) (by decide) ?_ | refine ev_ialoadF dX5_unownedSize_24 (y2) (by omega) (by decide) ?_ | refine ev_ialoadF dX5_unownedSize_24 (y3) (by omega) (by decide) ?_
          have hq : sR S k ≠ 0 := by have := hc15; simp [isU] at this; exact this.1
          rw [((hV k (by omega)).2 hq).1]
          refine ev_iaddN dX5_unownedSize_25 ?_
          refine ev_istore_n (L' := [_, _, _]) dX5_unownedSize_26 rfl (Nat.le_of_ble_eq_true rfl) rfl ?_
          refine ev_pc (pc' := 27) rfl ?_
          first | rw [show smN (fun k => if isU S k = true then rl (sR S k) else 0) k + 1 = smN (fun k => if isU S k = true then rl (sR S k) else 0) (k + 1) from by simp [smN, hc15]] | rw [show smN (fun k => if isU S k = true then rl (sR S k) else 0) k + rl (sR S k) = smN (fun k => if isU S k = true then rl (sR S k) else 0) (k + 1) from by simp [smN, hc15]] | rw [show max (smN (fun k => if isU S k = true then rl (sR S k) else 0) k) (sO S k) = smN (fun k => if isU S k = true then rl (sR S k) else 0) (k + 1) from by simp [smN, hc15]] | rw [show smN (fun k => if isU S k = true then rl (sR S k) else 0) k = smN (fun k => if isU S k = true then rl (sR S k) else 0) (k + 1) from by simp [smN, hc15]]
          refine ev_iincN (L' := [_, _, _]) 1 dX5_unownedSize_27 rfl rfl ?_
          refine ev_goto 4 dX5_unownedSize_30 rfl ?_
          refine ev_pc (pc' := 4) rfl ?_
          exact ih _ (by omega) (k + 1) rfl (by omega)
  exact LP4 _ 0 rfl (Nat.zero_le _)
set_option maxHeartbeats 4000000 in
set_option maxRecDepth 100000 in
theorem c_mostOwners {X : mX} {h : mH} {c : Nat} {S : mSo} (hs : StoreN h c S) (hB : SoB S) : CnP X m_X5_mostOwners [.ref c] h (some (.int (nI (mxN (fun k => if isF S k = true then 0 else sO S k) 60)))) := by
  obtain ⟨rr, ln, ow, ⟨y0, y1, y2, y3⟩, hV⟩ := id hs
  refine cn_of_ev (L0 := [_, _, _]) (by decide +kernel) rfl rfl (Nat.le_of_ble_eq_true rfl) rfl ?_
  refine ev_iconst (nI 0) dX5_mostOwners_0 rfl ?_
  refine ev_istore_n (L' := [_, _, _]) dX5_mostOwners_1 rfl (Nat.le_of_ble_eq_true rfl) rfl ?_
  refine ev_iconst (nI 0) dX5_mostOwners_2 rfl ?_
  refine ev_istore_n (L' := [_, _, _]) dX5_mostOwners_3 rfl (Nat.le_of_ble_eq_true rfl) rfl ?_
  refine ev_pc (pc' := 4) rfl ?_
  have LP4 : ∀ (n : Nat) (k : Nat), 60 - k = n → (k ≤ 60) → Ev X m_X5_mostOwners B0 4 [.ref c, .int (nI (mxN (fun k => if isF S k = true then 0 else sO S k) k)), .int (nI k)] [] h (fun o h1 => o = .inl (some (.int (nI (mxN (fun k => if isF S k = true then 0 else sO S k) 60)))) ∧ h1 = h) := by
    intro n
    induction n using Nat.strongRecOn with
    | _ n ih =>
      intro k hn hk
      have hmx : mxN (fun k => if isF S k = true then 0 else sO S k) k ≤ 200 := mxN_le (fun q hq => by by_cases z : sR S q = 0; (simp [isF, z]); (simp [isF, z]; exact (hB q (by omega) z).2))
      refine ev_iload_n dX5_mostOwners_4 rfl rfl ?_
      refine ev_bipush (nI 60) dX5_mostOwners_5 rfl ?_
      refine ev_icmp_geN 35 dX5_mostOwners_7 rfl (by omega) (by omega) (fun hc7 => ?_) (fun hc7 => ?_)
      · refine ev_iload_n dX5_mostOwners_35 rfl rfl ?_
        refine ev_ireturn dX5_mostOwners_36 rfl (Or.inl rfl) (Nat.zero_le _) (Nat.zero_le _) ?_
        rw [show k = 60 by omega]; exact ⟨rfl, rfl⟩
      · refine ev_aload_n dX5_mostOwners_10 rfl rfl ?_
        refine ev_iload_n dX5_mostOwners_11 rfl rfl ?_
        first | refine ev_callVP1 dX5_mostOwners_12 cal_X5_isFree lk_5_77 ⟨(Nat.le_of_ble_eq_true rfl), (Nat.le_of_ble_eq_true rfl)⟩ rfl (y0) (Nat.le_of_ble_eq_true rfl) (c_isFree hs k (by omega)) ?_ | refine ev_callVP1 dX5_mostOwners_12 cal_X5_isFree lk_5_77 ⟨(Nat.le_of_ble_eq_true rfl), (Nat.le_of_ble_eq_true rfl)⟩ rfl (y1) (Nat.le_of_ble_eq_true rfl) (c_isFree hs k (by omega)) ?_ | refine ev_callVP1 dX5_mostOwners_12 cal_X5_isFree lk_5_77 ⟨(Nat.le_of_ble_eq_true rfl), (Nat.le_of_ble_eq_true rfl)⟩ rfl (y2) (Nat.le_of_ble_eq_true rfl) (c_isFree hs k (by omega)) ?_ | refine ev_callVP1 dX5_mostOwners_12 cal_X5_isFree lk_5_77 ⟨(Nat.le_of_ble_eq_true rfl), (Nat.le_of_ble_eq_true rfl)⟩ rfl (y3) (Nat.le_of_ble_eq_true rfl) (c_isFree hs k (by omega)) ?_
        refine ev_if_neB 29 dX5_mostOwners_15 rfl (fun hc15 => ?_) (fun hc15 => ?_)
        · refine ev_pc (pc' := 29) rfl ?_
          first | rw [show mxN (fun k => if isF S k = true then 0 else sO S k) k + 1 = mxN (fun k => if isF S k = true then 0 else sO S k) (k + 1) from by simp [mxN, hc15]] | rw [show mxN (fun k => if isF S k = true then 0 else sO S k) k + rl (sR S k) = mxN (fun k => if isF S k = true then 0 else sO S k) (k + 1) from by simp [mxN, hc15]] | rw [show max (mxN (fun k => if isF S k = true then 0 else sO S k) k) (sO S k) = mxN (fun k => if isF S k = true then 0 else sO S k) (k + 1) from by simp [mxN, hc15]] | rw [show mxN (fun k => if isF S k = true then 0 else sO S k) k = mxN (fun k => if isF S k = true then 0 else sO S k) (k + 1) from by simp [mxN, hc15]]
          refine ev_iincN (L' := [_, _, _]) 1 dX5_mostOwners_29 rfl rfl ?_
          refine ev_goto 4 dX5_mostOwners_32 rfl ?_
          refine ev_pc (pc' := 4) rfl ?_
          exact ih _ (by omega) (k + 1) rfl (by omega)
        · refine ev_iload_n dX5_mostOwners_18 rfl rfl ?_
          refine ev_aload_n dX5_mostOwners_19 rfl rfl ?_
          first | refine ev_getfield dX5_mostOwners_20 lf_5_19 (y0) rfl ?_ | refine ev_getfield dX5_mostOwners_20 lf_5_19 (y1) rfl ?_ | refine ev_getfield dX5_mostOwners_20 lf_5_19 (y2) rfl ?_ | refine ev_getfield dX5_mostOwners_20 lf_5_19 (y3) rfl ?_
          refine ev_iload_n dX5_mostOwners_23 rfl rfl ?_
          first | refine ev_ialoadF dX5_mostOwners_24 (y0) (by omega) (by decide) ?_ | refine ev_ialoadF dX5_mostOwners_24 (y1) (by omega) (by decide) ?_ | refine ev_ialoadF dX5_mostOwners_24 (y2) (by omega) (by decide) ?_ | refine ev_ialoadF dX5_mostOwners_24 (y3) (by omega) (by decide) ?_
          have hq : sR S k ≠ 0 := by simpa [isF] using hc15
          have hb2 := (hB k (by omega) hq).2
          rw [((hV k (by omega)).2 hq).2]
          refine ev_maxN dX5_mostOwners_25 lk_5_80 w_ms w_mi w_mc (Nat.le_of_ble_eq_true rfl) (Nat.le_of_ble_eq_true rfl) (Nat.zero_le _) (Nat.zero_le _) (by omega) (by omega) ?_
          refine ev_istore_n (L' := [_, _, _]) dX5_mostOwners_28 rfl (Nat.le_of_ble_eq_true rfl) rfl ?_
          refine ev_pc (pc' := 29) rfl ?_
          first | rw [show mxN (fun k => if isF S k = true then 0 else sO S k) k + 1 = mxN (fun k => if isF S k = true then 0 else sO S k) (k + 1) from by simp [mxN, hc15]] | rw [show mxN (fun k => if isF S k = true then 0 else sO S k) k + rl (sR S k) = mxN (fun k => if isF S k = true then 0 else sO S k) (k + 1) from by simp [mxN, hc15]] | rw [show max (mxN (fun k => if isF S k = true then 0 else sO S k) k) (sO S k) = mxN (fun k => if isF S k = true then 0 else sO S k) (k + 1) from by simp [mxN, hc15]] | rw [show mxN (fun k => if isF S k = true then 0 else sO S k) k = mxN (fun k => if isF S k = true then 0 else sO S k) (k + 1) from by simp [mxN, hc15]]
          refine ev_iincN (L' := [_, _, _]) 1 dX5_mostOwners_29 rfl rfl ?_
          refine ev_goto 4 dX5_mostOwners_32 rfl ?_
          refine ev_pc (pc' := 4) rfl ?_
          exact ih _ (by omega) (k + 1) rfl (by omega)
  exact LP4 _ 0 rfl (Nat.zero_le _)
