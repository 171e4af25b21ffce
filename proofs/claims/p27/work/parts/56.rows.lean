theorem wb_tb (n : Nat) : (lN n).toBitVec = BitVec.ofNat 64 n := rfl
theorem wb_inj {a b : Int64} (h : a.toBitVec = b.toBitVec) : a = b := Int64.toBitVec_inj.mp h
theorem wb_tn {n : Nat} (h : n < 2 ^ 64) : (lN n).toBitVec.toNat = n := by rw [wb_tb, BitVec.toNat_ofNat, Nat.mod_eq_of_lt h]
theorem wb_c : ∀ k, k < 64 → ((nI k).toInt64 &&& 63) = lN k := by decide +kernel
theorem wb_sm : ∀ k, k < 64 → (BitVec.ofNat 64 k).smod 64 = BitVec.ofNat 64 k := by decide +kernel
theorem wb_lt2 {a b : Nat} (h : a < b) : 2 ^ a < 2 ^ b := Nat.pow_lt_pow_right (by decide) h
theorem wb_shl (n : Nat) {k : Nat} (hk : k < 64) : lN n <<< ((nI k).toInt64 &&& 63) = lN (n * 2 ^ k) := by
  rw [wb_c k hk]
  apply wb_inj
  rw [Int64.toBitVec_shiftLeft, wb_tb, wb_tb, wb_tb, wb_sm k hk]
  apply BitVec.eq_of_toNat_eq
  rw [BitVec.shiftLeft_eq', BitVec.toNat_shiftLeft, BitVec.toNat_ofNat, BitVec.toNat_ofNat, BitVec.toNat_ofNat, Nat.mod_eq_of_lt (show k < 2 ^ 64 by omega), Nat.shiftLeft_eq, Nat.mul_mod, Nat.mod_mod, ← Nat.mul_mod]
theorem u_tn {n : Nat} (h : n < 2 ^ 64) : (UInt64.ofNat n).toNat = n := Nat.mod_eq_of_lt h
theorem g_and {a b c : Nat} (ha : a < 2 ^ 64) (hb : b < 2 ^ 64) (hc : a &&& b = c) : lN a &&& lN b = lN c := by
  subst hc
  have h : UInt64.ofNat a &&& UInt64.ofNat b = UInt64.ofNat (a &&& b) := UInt64.toNat_inj.mp (by rw [UInt64.toNat_and, u_tn ha, u_tn hb, u_tn (Nat.and_lt_two_pow a hb)])
  have h2 := congrArg UInt64.toInt64 h
  exact h2
theorem g_mask {a s p : Nat} (hp : 2 ^ s = p) (hs : s < 64) (ha : a < 2 ^ 64) : lN a &&& lN (p - 1) = lN (a % p) := by
  subst hp
  have := Nat.pow_lt_pow_right (show 1 < 2 by decide) hs
  exact g_and ha (by omega) (Nat.and_two_pow_sub_one_eq_mod a s)
theorem g_or {k p a b : Nat} (hp : 2 ^ k = p) (ha : a < p) (h : b * p + a < 2 ^ 64) : lN (b * p) ||| lN a = lN (b * p + a) := by
  subst hp
  have h1 : b * 2 ^ k ||| a = b * 2 ^ k + a := by rw [← Nat.shiftLeft_eq, Nat.shiftLeft_add_eq_or_of_lt ha]
  have h3 : UInt64.ofNat (b * 2 ^ k) ||| UInt64.ofNat a = UInt64.ofNat (b * 2 ^ k + a) := UInt64.toNat_inj.mp (by rw [UInt64.toNat_or, u_tn (by omega), u_tn (by omega), u_tn h, h1])
  have h2 := congrArg UInt64.toInt64 h3
  exact h2
theorem g_or' {k p a b : Nat} (hp : 2 ^ k = p) (ha : a < p) (h : a + b * p < 2 ^ 64) : lN a ||| lN (b * p) = lN (a + b * p) := by
  rw [Int64.or_comm, g_or hp ha (by omega), Nat.add_comm]
/-! rows of signs and codes of signs, as numbers -/
def rowN (s : Nat → Nat) (a : Nat) : Nat → Nat
  | 0 => 1
  | m + 1 => rowN s a m * 8 + (s (a + m) - 1)
def codN (s : Nat → Nat) (a : Nat) : Nat → Nat
  | 0 => 0
  | m + 1 => codN s a m + (s (a + m) - 1) * 8 ^ m
def codC (s : Nat → Nat) (a : Nat) : Nat → Int64
  | 0 => lN 0
  | m + 1 => codC s a m ||| (lN (s (a + m) - 1) <<< ((nI (3 * m)).toInt64 &&& 63))
def Sg (s : Nat → Nat) (a m : Nat) : Prop := ∀ i, i < m → 1 ≤ s (a + i) ∧ s (a + i) ≤ 8
theorem Sg.dn {s : Nat → Nat} {a m : Nat} (h : Sg s a (m + 1)) : Sg s a m := fun i hi => h i (by omega)
theorem rowN_b {s : Nat → Nat} {a : Nat} : ∀ m, Sg s a m → 8 ^ m ≤ rowN s a m ∧ rowN s a m < 2 * 8 ^ m
  | 0, _ => ⟨Nat.le_refl _, by show 1 < 2 * 1; omega⟩
  | m + 1, h => by
    have h1 := rowN_b m h.dn
    have h2 := h m (by omega)
    rw [rowN, Nat.pow_succ]
    omega
theorem codN_b {s : Nat → Nat} {a : Nat} : ∀ m, Sg s a m → codN s a m < 8 ^ m
  | 0, _ => by show 0 < 1; omega
  | m + 1, h => by
    have h1 := codN_b m h.dn
    have h2 := h m (by omega)
    rw [codN, Nat.pow_succ]
    have : (s (a + m) - 1) * 8 ^ m ≤ 7 * 8 ^ m := Nat.mul_le_mul_right _ (by omega)
    omega
theorem p8 {m k : Nat} (h : m ≤ k) : 8 ^ m ≤ 8 ^ k := Nat.pow_le_pow_right (by decide) h
theorem p8_19 : (8 : Nat) ^ 19 = 144115188075855872 := by decide
theorem p8_20 : (8 : Nat) ^ 20 = 1152921504606846976 := by decide
theorem rowC_N {s : Nat → Nat} {a : Nat} : ∀ m, m ≤ 20 → Sg s a m → rowC s a m = lN (rowN s a m)
  | 0, _, _ => rfl
  | m + 1, hm, h => by
    have h1 := rowN_b m h.dn
    have h2 := h m (by omega)
    have h3 := p8 (show m ≤ 19 by omega)
    rw [p8_19] at h3
    rw [rowC, rowC_N m (by omega) h.dn, wb_shl _ (by decide : 3 < 64), rowN, show (2 : Nat) ^ 3 = 8 from rfl]
    exact g_or (k := 3) rfl (by omega) (by omega)
theorem codC_N {s : Nat → Nat} {a : Nat} : ∀ m, m ≤ 20 → Sg s a m → codC s a m = lN (codN s a m)
  | 0, _, _ => rfl
  | m + 1, hm, h => by
    have h1 := codN_b m h.dn
    have h4 := codN_b (m + 1) h
    have h2 := h m (by omega)
    have h3 := p8 (show m + 1 ≤ 20 by omega)
    rw [p8_20] at h3
    have e : (2 : Nat) ^ (3 * m) = 8 ^ m := by rw [Nat.pow_mul]
    rw [codC, codC_N m (by omega) h.dn, wb_shl _ (by omega : 3 * m < 64), codN, e]
    rw [codN] at h4
    exact g_or' (k := 3 * m) e h1 (by omega)
theorem rowN_lt {s : Nat → Nat} {a m : Nat} (hm : m ≤ 20) (h : Sg s a m) : rowN s a m < 2 ^ 63 := by
  have h1 := rowN_b m h
  have h3 := p8 hm
  rw [p8_20] at h3
  omega
theorem codN_lt {s : Nat → Nat} {a m : Nat} (hm : m ≤ 20) (h : Sg s a m) : codN s a m < 2 ^ 63 := by
  have h1 := codN_b m h
  have h3 := p8 hm
  rw [p8_20] at h3
  omega
theorem rl_row {s : Nat → Nat} {a m : Nat} (hm : m ≤ 20) (h : Sg s a m) : rl (lN (rowN s a m)) = m := by
  have h1 := rowN_b m h
  have h2 := rowN_lt hm h
  have e : (lN (rowN s a m)).toNatClampNeg = rowN s a m := by
    show (lN (rowN s a m)).toInt.toNat = _
    rw [pk_lT h2]
    rfl
  have e2 : (2 : Nat) ^ (3 * m) = 8 ^ m := by rw [Nat.pow_mul]
  have h3 : Nat.log2 (rowN s a m) = 3 * m := (Nat.log2_eq_iff (by have := Nat.pow_pos (n := m) (show 0 < 8 by decide); omega)).mpr ⟨by rw [e2]; exact h1.1, by rw [Nat.pow_succ, e2]; omega⟩
  rw [rl, e, h3]
  omega
theorem row_n0 {s : Nat → Nat} {a m : Nat} (hm : m ≤ 20) (h : Sg s a m) : lN (rowN s a m) ≠ 0 := fun z => by
  have h1 := rowN_b m h
  have h0 := Nat.pow_pos (n := m) (show 0 < 8 by decide)
  have := (pk_lEQ (rowN_lt hm h) (show 0 < 2 ^ 63 by decide)).mp z
  omega
theorem rowN_inj {s t : Nat → Nat} {a b : Nat} : ∀ m, Sg s a m → Sg t b m → rowN s a m = rowN t b m → ∀ i, i < m → s (a + i) = t (b + i)
  | 0, _, _, _, i, hi => absurd hi (Nat.not_lt_zero i)
  | m + 1, h, g, e, i, hi => by
    have h2 := h m (by omega)
    have g2 := g m (by omega)
    rw [rowN, rowN] at e
    by_cases k : i = m
    · subst k; omega
    · exact rowN_inj m h.dn g.dn (by omega) i (by omega)
theorem codN_inj {s t : Nat → Nat} {a b : Nat} : ∀ m, Sg s a m → Sg t b m → codN s a m = codN t b m → ∀ i, i < m → s (a + i) = t (b + i)
  | 0, _, _, _, i, hi => absurd hi (Nat.not_lt_zero i)
  | m + 1, h, g, e, i, hi => by
    have h2 := h m (by omega)
    have g2 := g m (by omega)
    have hb := codN_b m h.dn
    have gb := codN_b m g.dn
    rw [codN, codN] at e
    have k1 : s (a + m) - 1 = t (b + m) - 1 := by
      rcases Nat.lt_trichotomy (s (a + m) - 1) (t (b + m) - 1) with z | z | z
      · have := Nat.mul_le_mul_right (8 ^ m) (show s (a + m) - 1 + 1 ≤ t (b + m) - 1 from z)
        rw [Nat.add_mul] at this
        omega
      · exact z
      · have := Nat.mul_le_mul_right (8 ^ m) (show t (b + m) - 1 + 1 ≤ s (a + m) - 1 from z)
        rw [Nat.add_mul] at this
        omega
    rw [k1] at e
    by_cases k : i = m
    · subst k; omega
    · exact codN_inj m h.dn g.dn (by omega) i (by omega)
theorem rowN_congr {s t : Nat → Nat} {a b : Nat} : ∀ m, (∀ i, i < m → s (a + i) = t (b + i)) → rowN s a m = rowN t b m
  | 0, _ => rfl
  | m + 1, h => by rw [rowN, rowN, rowN_congr m (fun i hi => h i (by omega)), h m (by omega)]
theorem codN_congr {s t : Nat → Nat} {a b : Nat} : ∀ m, (∀ i, i < m → s (a + i) = t (b + i)) → codN s a m = codN t b m
  | 0, _ => rfl
  | m + 1, h => by rw [codN, codN, codN_congr m (fun i hi => h i (by omega)), h m (by omega)]
/-- a row w, its code c, its length n -/
def Cd (w c : Int64) (n : Nat) : Prop := ∃ s : Nat → Nat, 1 ≤ n ∧ n ≤ 20 ∧ Sg s 0 n ∧ w = lN (rowN s 0 n) ∧ c = lN (codN s 0 n)
theorem Cd.of {s : Nat → Nat} {a m : Nat} (h1 : 1 ≤ m) (h2 : m ≤ 20) (h : Sg s a m) : Cd (rowC s a m) (codC s a m) m := by
  refine ⟨fun i => s (a + i), h1, h2, fun i hi => by show 1 ≤ s (a + (0 + i)) ∧ s (a + (0 + i)) ≤ 8; rw [Nat.zero_add]; exact h i hi, ?_, ?_⟩
  · rw [rowC_N m h2 h]
    exact congrArg lN (rowN_congr m (fun i _ => by show s (a + i) = s (a + (0 + i)); rw [Nat.zero_add]))
  · rw [codC_N m h2 h]
    exact congrArg lN (codN_congr m (fun i _ => by show s (a + i) = s (a + (0 + i)); rw [Nat.zero_add]))
theorem Cd.rl {w c : Int64} {n : Nat} (x : Cd w c n) : rl w = n := by
  obtain ⟨s, h1, h2, h3, rfl, rfl⟩ := x
  exact rl_row h2 h3
theorem Cd.n0 {w c : Int64} {n : Nat} (x : Cd w c n) : w ≠ 0 := by
  obtain ⟨s, h1, h2, h3, rfl, rfl⟩ := x
  exact row_n0 h2 h3
theorem Cd.le {w c : Int64} {n : Nat} (x : Cd w c n) : 1 ≤ n ∧ n ≤ 20 := by
  obtain ⟨s, h1, h2, h3, rfl, rfl⟩ := x
  exact ⟨h1, h2⟩
theorem Cd.iff {w c w1 c1 : Int64} {n n1 : Nat} (x : Cd w c n) (y : Cd w1 c1 n1) : w = w1 ↔ n = n1 ∧ c = c1 := by
  obtain ⟨s, h1, h2, h3, rfl, rfl⟩ := id x
  obtain ⟨t, g1, g2, g3, rfl, rfl⟩ := id y
  constructor
  · intro e
    have hn : n = n1 := by rw [← x.rl, ← y.rl, e]
    subst hn
    refine ⟨rfl, congrArg lN (codN_congr n (rowN_inj n h3 g3 ?_))⟩
    exact (pk_lEQ (rowN_lt h2 h3) (rowN_lt g2 g3)).mp e
  · rintro ⟨rfl, e⟩
    refine congrArg lN (rowN_congr n (codN_inj n h3 g3 ?_))
    exact (pk_lEQ (codN_lt h2 h3) (codN_lt g2 g3)).mp e
/-! signs out of rows and codes -/
def vIn (c : Int64) (p : Nat) : Int32 := ((c >>> ((nI (3 * p)).toInt64 &&& 63)) &&& 7).toInt32 + nI 1
theorem lN_shr {n k : Nat} (hn : n < 2 ^ 63) (hk : k < 64) : lN n >>> ((nI k).toInt64 &&& 63) = lN (n / 2 ^ k) := by
  rw [wb_c k hk]
  apply wb_inj
  rw [Int64.toBitVec_shiftRight, wb_tb, wb_tb, wb_tb, wb_sm k hk]
  apply BitVec.eq_of_toNat_eq
  have hm : (BitVec.ofNat 64 n).msb = false := by
    rw [BitVec.msb_eq_decide]
    refine decide_eq_false ?_
    rw [BitVec.toNat_ofNat, Nat.mod_eq_of_lt (by omega)]
    omega
  rw [BitVec.sshiftRight', BitVec.sshiftRight_eq_of_msb_false hm, BitVec.toNat_ushiftRight, BitVec.toNat_ofNat, BitVec.toNat_ofNat, BitVec.toNat_ofNat, Nat.mod_eq_of_lt (show k < 2 ^ 64 by omega), Nat.mod_eq_of_lt (show n < 2 ^ 64 by omega), Nat.shiftRight_eq_div_pow, Nat.mod_eq_of_lt (Nat.lt_of_le_of_lt (Nat.div_le_self _ _) (by omega))]
theorem dig_v {n d : Nat} (hn : n < 2 ^ 63) (e : n % 8 + 1 = d) : (lN n &&& 7).toInt32 + nI 1 = nI d := by
  rw [show (7 : Int64) = lN (8 - 1) from rfl, g_mask (s := 3) rfl (by decide) (by omega), lN_i, ← e]
  exact (Int32.ofNat_add _ 1).symm
theorem codN_dig {s : Nat → Nat} {a : Nat} : ∀ n i, Sg s a n → i < n → codN s a n / 8 ^ i % 8 = s (a + i) - 1
  | 0, i, _, hi => absurd hi (Nat.not_lt_zero i)
  | n + 1, i, h, hi => by
    have h2 := h n (by omega)
    have hb := codN_b n h.dn
    have hp := Nat.pow_pos (n := i) (show 0 < 8 by decide)
    rw [codN]
    by_cases k : i = n
    · subst k
      rw [Nat.add_mul_div_right _ _ hp, Nat.div_eq_of_lt hb, Nat.zero_add, Nat.mod_eq_of_lt (by omega)]
    · have e : (8 : Nat) ^ n = 8 ^ (n - 1 - i) * 8 * 8 ^ i := by
        rw [← Nat.pow_succ, ← Nat.pow_add]
        congr 1
        omega
      rw [e, ← Nat.mul_assoc, Nat.add_mul_div_right _ _ hp, ← Nat.mul_assoc, Nat.add_mul_mod_self_right]
      exact codN_dig n i h.dn (by omega)
theorem rowN_top {s : Nat → Nat} {a : Nat} : ∀ n, Sg s a (n + 1) → rowN s a (n + 1) / 8 ^ n = 8 + (s a - 1)
  | 0, h => by
    have h2 := h 0 (by omega)
    rw [rowN, rowN]
    show (1 * 8 + (s (a + 0) - 1)) / 1 = _
    rw [Nat.div_one, Nat.add_zero]
  | n + 1, h => by
    have h2 := h (n + 1) (by omega)
    rw [rowN, Nat.pow_succ, Nat.mul_comm (8 ^ n) 8, ← Nat.div_div_eq_div_mul, show (rowN s a (n + 1) * 8 + (s (a + (n + 1)) - 1)) / 8 = rowN s a (n + 1) by omega]
    exact rowN_top n h.dn
theorem Cd.fst {w c : Int64} {n : Nat} (x : Cd w c n) : fsW w = vIn c 0 := by
  obtain ⟨s, h1, h2, h3, rfl, rfl⟩ := id x
  have hd := h3 0 (by omega)
  rw [Nat.zero_add] at hd
  have e1 : fsW (lN (rowN s 0 n)) = nI (s 0) := by
    obtain ⟨m, rfl⟩ : ∃ m, n = m + 1 := ⟨n - 1, by omega⟩
    rw [fsW, x.rl, lN_shr (rowN_lt h2 h3) (by omega)]
    refine dig_v (Nat.lt_of_le_of_lt (Nat.div_le_self _ _) (rowN_lt h2 h3)) ?_
    rw [Nat.add_sub_cancel, Nat.pow_mul, show (2 : Nat) ^ 3 = 8 from rfl, rowN_top m h3]
    omega
  have e2 : vIn (lN (codN s 0 n)) 0 = nI (s 0) := by
    rw [vIn, lN_shr (codN_lt h2 h3) (by omega)]
    refine dig_v (Nat.lt_of_le_of_lt (Nat.div_le_self _ _) (codN_lt h2 h3)) ?_
    have := codN_dig n 0 h3 (by omega)
    rw [Nat.mul_zero]
    rw [Nat.zero_add] at this
    show codN s 0 n / 8 ^ 0 % 8 + 1 = _
    rw [this]
    omega
  rw [e1, e2]
theorem Cd.lst {w c : Int64} {n : Nat} (x : Cd w c n) : lsW w = vIn c (n - 1) := by
  obtain ⟨s, h1, h2, h3, rfl, rfl⟩ := id x
  obtain ⟨m, rfl⟩ : ∃ m, n = m + 1 := ⟨n - 1, by omega⟩
  have hd := h3 m (by omega)
  rw [Nat.zero_add] at hd
  have e1 : lsW (lN (rowN s 0 (m + 1))) = nI (s m) := by
    rw [lsW]
    refine dig_v (rowN_lt h2 h3) ?_
    rw [rowN, Nat.zero_add]
    omega
  have e2 : vIn (lN (codN s 0 (m + 1))) (m + 1 - 1) = nI (s m) := by
    rw [Nat.add_sub_cancel, vIn, lN_shr (codN_lt h2 h3) (by omega)]
    refine dig_v (Nat.lt_of_le_of_lt (Nat.div_le_self _ _) (codN_lt h2 h3)) ?_
    have := codN_dig (m + 1) m h3 (by omega)
    rw [Nat.pow_mul, show (2 : Nat) ^ 3 = 8 from rfl, this, Nat.zero_add]
    omega
  rw [e1, e2]
