/-- from a up to below b -/
def inX (t : Int32) (a b : Nat) : Bool := decide ((a : Int) ≤ t.toInt ∧ t.toInt < (b : Int))
theorem inX_iff {t : Int32} {a b : Nat} : inX t a b = true ↔ (a : Int) ≤ t.toInt ∧ t.toInt < (b : Int) := by simp [inX]
theorem inX_no {t : Int32} {a b : Nat} (h : inX t a b = false) : ¬ ((a : Int) ≤ t.toInt ∧ t.toInt < (b : Int)) := by simpa [inX] using h
theorem inX_k {t : Int32} {a b : Nat} (h : inX t a b = true) : ∃ k, t = nI k ∧ a ≤ k ∧ k < b := by
  obtain ⟨h1, h2⟩ := inX_iff.mp h
  refine ⟨t.toInt.toNat, ?_, by omega, by omega⟩
  apply Int32.toInt_inj.mp
  have := Int32.toInt_lt t
  rw [nI_toInt (by omega)]
  omega
theorem inX_nI {k a b : Nat} (hk : k < 2 ^ 31) : inX (nI k) a b = true ↔ a ≤ k ∧ k < b := by
  rw [inX_iff, nI_toInt hk]
  omega
theorem i_lt {x y : Int32} : x < y ↔ x.toInt < y.toInt := Int32.lt_iff_toInt_lt
theorem i_le {x y : Int32} : x ≤ y ↔ x.toInt ≤ y.toInt := Int32.le_iff_toInt_le
theorem i_0 : (0 : Int32).toInt = 0 := rfl
theorem inX_lt0 {t : Int32} {b : Nat} (h : ¬ t < 0) (h2 : t < nI b) (hb : b < 2 ^ 31) : inX t 0 b = true := by
  rw [inX_iff]
  rw [i_lt, i_0] at h
  rw [i_lt, nI_toInt hb] at h2
  omega
theorem inX_le0 {t : Int32} {b : Nat} (h : ¬ t < 0) (h2 : t ≤ nI b) (hb : b < 2 ^ 31) : inX t 0 (b + 1) = true := by
  rw [inX_iff]
  rw [i_lt, i_0] at h
  rw [i_le, nI_toInt hb] at h2
  omega
def lowF : Nat → Nat := fun k => match k with | 0 => 1 | 1 => 1 | 2 => 0 | 3 => 1 | _ => 6
def higF : Nat → Nat := fun k => match k with | 0 => 6 | 1 => 9 | 2 => 8 | 3 => 6 | _ => 20
def fstF : Nat → Nat := fun k => match k with | 0 => 3 | 1 => 4 | 2 => 0 | 3 => 2 | _ => 10
/-- the class's three rows of constants -/
def RO (X : mX) : Prop := xro X (1000000 + 0) = some (5, nf fstF) ∧ xro X (1000000 + 1) = some (5, nf lowF) ∧ xro X (1000000 + 2) = some (5, nf higF)
theorem lowF_le (k : Nat) : lowF k ≤ 6 := by
  unfold lowF
  split <;> omega
theorem higF_le (k : Nat) : higF k ≤ 20 := by
  unfold higF
  split <;> omega
theorem inX_val {t : Int32} {a b : Nat} (h : ¬ t < nI a) (h2 : t ≤ nI b) (ha : a < 2 ^ 31) (hb : b < 2 ^ 31) : inX t a (b + 1) = true := by
  rw [inX_iff]
  rw [i_lt, nI_toInt ha] at h
  rw [i_le, nI_toInt hb] at h2
  omega
abbrev CnT (X : mX) (M : mMD) (as : List Value) (h : mH) (Q : mO → mH → Prop) : Prop := Cn X M none none 1 6 as h Q
set_option maxHeartbeats 4000000 in
set_option maxRecDepth 100000 in
theorem c_requireText {X : mX} {h : mH} (k : Nat) (hk : k < 4) : CnP X m_X6_requireText [.int (nI k)] h none := by
  refine cn_of_ev (L0 := [_]) (by decide +kernel) rfl rfl (Nat.le_of_ble_eq_true rfl) rfl ?_
  refine ev_iload_n dX6_requireText_0 rfl rfl ?_
  refine ev_if_ltN 9 dX6_requireText_1 rfl (by omega) (fun hc1 => ?_) (fun hc1 => ?_)
  · refine ev_pc (pc' := 9) rfl ?_
    first | exact hc1.elim | omega
  · refine ev_iload_n dX6_requireText_4 rfl rfl ?_
    refine ev_iconst (nI 4) dX6_requireText_5 rfl ?_
    refine ev_icmp_ltN 20 dX6_requireText_6 rfl (by omega) (by omega) (fun hc6 => ?_) (fun hc6 => ?_)
    · refine ev_return dX6_requireText_20 rfl (Or.inl rfl) (Nat.zero_le _) (Nat.zero_le _) ?_
      exact ⟨rfl, rfl⟩
    · refine ev_pc (pc' := 9) rfl ?_
      first | exact hc1.elim | omega
set_option maxHeartbeats 4000000 in
set_option maxRecDepth 100000 in
theorem x_requireText {X : mX} {h : mH} (t : Int32) (ht : inX t 0 4 = false) : CnX X m_X6_requireText [.int t] h 0 (fun h1 => h1 = h) := by
  refine cn_of_ev (L0 := [_]) (by decide +kernel) rfl rfl (Nat.le_of_ble_eq_true rfl) rfl ?_
  refine ev_iload_n dX6_requireText_0 rfl rfl ?_
  refine ev_if_lt 9 dX6_requireText_1 rfl (fun hc1 => ?_) (fun hc1 => ?_)
  · refine ev_throwSW (M' := m_X6_requireText) (f1 := none) (mc1 := 0) (ms1 := 0) (Q1 := fun _ _ => True) 0 "no such text" (by decide) rfl (by decide) rfl (by decide) (Nat.le_of_ble_eq_true rfl) dX6_requireText_9 dX6_requireText_12 dX6_requireText_13 dX6_requireText_16 dX6_requireText_19 (Nat.le_refl _) (Nat.le_refl _) ?_
    exact ⟨rfl, rfl⟩
  · refine ev_iload_n dX6_requireText_4 rfl rfl ?_
    refine ev_iconst (nI 4) dX6_requireText_5 rfl ?_
    refine ev_icmp_lt 20 dX6_requireText_6 rfl (fun hc6 => ?_) (fun hc6 => ?_)
    · refine ev_pc (pc' := 20) rfl ?_
      exact absurd (inX_lt0 hc1 hc6 (by decide)) (by rw [ht]; decide)
    · refine ev_throwSW (M' := m_X6_requireText) (f1 := none) (mc1 := 0) (ms1 := 0) (Q1 := fun _ _ => True) 0 "no such text" (by decide) rfl (by decide) rfl (by decide) (Nat.le_of_ble_eq_true rfl) dX6_requireText_9 dX6_requireText_12 dX6_requireText_13 dX6_requireText_16 dX6_requireText_19 (Nat.le_refl _) (Nat.le_refl _) ?_
      exact ⟨rfl, rfl⟩
set_option maxHeartbeats 4000000 in
set_option maxRecDepth 100000 in
theorem c_requireSetting {X : mX} {h : mH} (k : Nat) (hk : k < 5) : CnP X m_X6_requireSetting [.int (nI k)] h none := by
  refine cn_of_ev (L0 := [_]) (by decide +kernel) rfl rfl (Nat.le_of_ble_eq_true rfl) rfl ?_
  refine ev_iload_n dX6_requireSetting_0 rfl rfl ?_
  refine ev_if_ltN 9 dX6_requireSetting_1 rfl (by omega) (fun hc1 => ?_) (fun hc1 => ?_)
  · refine ev_pc (pc' := 9) rfl ?_
    first | exact hc1.elim | omega
  · refine ev_iload_n dX6_requireSetting_4 rfl rfl ?_
    refine ev_iconst (nI 5) dX6_requireSetting_5 rfl ?_
    refine ev_icmp_ltN 20 dX6_requireSetting_6 rfl (by omega) (by omega) (fun hc6 => ?_) (fun hc6 => ?_)
    · refine ev_return dX6_requireSetting_20 rfl (Or.inl rfl) (Nat.zero_le _) (Nat.zero_le _) ?_
      exact ⟨rfl, rfl⟩
    · refine ev_pc (pc' := 9) rfl ?_
      first | exact hc1.elim | omega
set_option maxHeartbeats 4000000 in
set_option maxRecDepth 100000 in
theorem x_requireSetting {X : mX} {h : mH} (t : Int32) (ht : inX t 0 5 = false) : CnX X m_X6_requireSetting [.int t] h 0 (fun h1 => h1 = h) := by
  refine cn_of_ev (L0 := [_]) (by decide +kernel) rfl rfl (Nat.le_of_ble_eq_true rfl) rfl ?_
  refine ev_iload_n dX6_requireSetting_0 rfl rfl ?_
  refine ev_if_lt 9 dX6_requireSetting_1 rfl (fun hc1 => ?_) (fun hc1 => ?_)
  · refine ev_throwSW (M' := m_X6_requireSetting) (f1 := none) (mc1 := 0) (ms1 := 0) (Q1 := fun _ _ => True) 0 "no such setting" (by decide) rfl (by decide) rfl (by decide) (Nat.le_of_ble_eq_true rfl) dX6_requireSetting_9 dX6_requireSetting_12 dX6_requireSetting_13 dX6_requireSetting_16 dX6_requireSetting_19 (Nat.le_refl _) (Nat.le_refl _) ?_
    exact ⟨rfl, rfl⟩
  · refine ev_iload_n dX6_requireSetting_4 rfl rfl ?_
    refine ev_iconst (nI 5) dX6_requireSetting_5 rfl ?_
    refine ev_icmp_lt 20 dX6_requireSetting_6 rfl (fun hc6 => ?_) (fun hc6 => ?_)
    · refine ev_pc (pc' := 20) rfl ?_
      exact absurd (inX_lt0 hc1 hc6 (by decide)) (by rw [ht]; decide)
    · refine ev_throwSW (M' := m_X6_requireSetting) (f1 := none) (mc1 := 0) (ms1 := 0) (Q1 := fun _ _ => True) 0 "no such setting" (by decide) rfl (by decide) rfl (by decide) (Nat.le_of_ble_eq_true rfl) dX6_requireSetting_9 dX6_requireSetting_12 dX6_requireSetting_13 dX6_requireSetting_16 dX6_requireSetting_19 (Nat.le_refl _) (Nat.le_refl _) ?_
      exact ⟨rfl, rfl⟩
set_option maxHeartbeats 4000000 in
set_option maxRecDepth 100000 in
theorem c_requireWhat {X : mX} {h : mH} (k g : Nat) (hk : k ≤ g) (hg : g < 100) : CnP X m_X6_requireWhat [.int (nI k), .int (nI g)] h none := by
  refine cn_of_ev (L0 := [_, _]) (by decide +kernel) rfl rfl (Nat.le_of_ble_eq_true rfl) rfl ?_
  refine ev_iload_n dX6_requireWhat_0 rfl rfl ?_
  refine ev_if_ltN 9 dX6_requireWhat_1 rfl (by omega) (fun hc1 => ?_) (fun hc1 => ?_)
  · refine ev_pc (pc' := 9) rfl ?_
    first | exact hc1.elim | omega
  · refine ev_iload_n dX6_requireWhat_4 rfl rfl ?_
    refine ev_iload_n dX6_requireWhat_5 rfl rfl ?_
    refine ev_icmp_leN 20 dX6_requireWhat_6 rfl (by omega) (by omega) (fun hc6 => ?_) (fun hc6 => ?_)
    · refine ev_return dX6_requireWhat_20 rfl (Or.inl rfl) (Nat.zero_le _) (Nat.zero_le _) ?_
      exact ⟨rfl, rfl⟩
    · refine ev_pc (pc' := 9) rfl ?_
      first | exact hc1.elim | omega
set_option maxHeartbeats 4000000 in
set_option maxRecDepth 100000 in
theorem x_requireWhat {X : mX} {h : mH} (t : Int32) (g : Nat) (hg : g < 100) (ht : inX t 0 (g + 1) = false) : CnX X m_X6_requireWhat [.int t, .int (nI g)] h 1 (fun h1 => h1 = h) := by
  refine cn_of_ev (L0 := [_, _]) (by decide +kernel) rfl rfl (Nat.le_of_ble_eq_true rfl) rfl ?_
  refine ev_iload_n dX6_requireWhat_0 rfl rfl ?_
  refine ev_if_lt 9 dX6_requireWhat_1 rfl (fun hc1 => ?_) (fun hc1 => ?_)
  · refine ev_throwSW (M' := m_X6_requireWhat) (f1 := none) (mc1 := 0) (ms1 := 0) (Q1 := fun _ _ => True) 1 "what is out of range" (by decide) rfl (by decide) rfl (by decide) (Nat.le_of_ble_eq_true rfl) dX6_requireWhat_9 dX6_requireWhat_12 dX6_requireWhat_13 dX6_requireWhat_16 dX6_requireWhat_19 (Nat.le_refl _) (Nat.le_refl _) ?_
    exact ⟨rfl, rfl⟩
  · refine ev_iload_n dX6_requireWhat_4 rfl rfl ?_
    refine ev_iload_n dX6_requireWhat_5 rfl rfl ?_
    refine ev_icmp_le 20 dX6_requireWhat_6 rfl (fun hc6 => ?_) (fun hc6 => ?_)
    · refine ev_pc (pc' := 20) rfl ?_
      exact absurd (inX_le0 hc1 hc6 (by omega)) (by rw [ht]; decide)
    · refine ev_throwSW (M' := m_X6_requireWhat) (f1 := none) (mc1 := 0) (ms1 := 0) (Q1 := fun _ _ => True) 1 "what is out of range" (by decide) rfl (by decide) rfl (by decide) (Nat.le_of_ble_eq_true rfl) dX6_requireWhat_9 dX6_requireWhat_12 dX6_requireWhat_13 dX6_requireWhat_16 dX6_requireWhat_19 (Nat.le_refl _) (Nat.le_refl _) ?_
      exact ⟨rfl, rfl⟩
set_option maxHeartbeats 4000000 in
set_option maxRecDepth 100000 in
theorem c_requirePlace {X : mX} {h : mH} {c : Nat} {K : mCt} (hc : CutN h c K) (k : Nat) (hk : k < kL K) : CnP X m_X6_requirePlace [.ref c, .int (nI k)] h none := by
  obtain ⟨sg, st, le, fo, rk, ⟨x0, x1, x2, x3, x4, x5⟩, hL, hN, hS, hP⟩ := id hc
  refine cn_of_ev (L0 := [_, _]) (by decide +kernel) rfl rfl (Nat.le_of_ble_eq_true rfl) rfl ?_
  refine ev_iload_n dX6_requirePlace_0 rfl rfl ?_
  refine ev_if_ltN 12 dX6_requirePlace_1 rfl (by omega) (fun hc1 => ?_) (fun hc1 => ?_)
  · refine ev_pc (pc' := 12) rfl ?_
    first | exact hc1.elim | omega
  · refine ev_iload_n dX6_requirePlace_4 rfl rfl ?_
    refine ev_aload_n dX6_requirePlace_5 rfl rfl ?_
    refine ev_getfield dX6_requirePlace_6 lf_6_74 (x0) rfl ?_
    refine ev_icmp_ltN 22 dX6_requirePlace_9 rfl (by omega) (by omega) (fun hc9 => ?_) (fun hc9 => ?_)
    · refine ev_return dX6_requirePlace_22 rfl (Or.inl rfl) (Nat.zero_le _) (Nat.zero_le _) ?_
      exact ⟨rfl, rfl⟩
    · refine ev_pc (pc' := 12) rfl ?_
      first | exact hc1.elim | omega
set_option maxHeartbeats 4000000 in
set_option maxRecDepth 100000 in
theorem x_requirePlace {X : mX} {h : mH} {c : Nat} {K : mCt} (hc : CutN h c K) (t : Int32) (ht : inX t 0 (kL K) = false) : CnX X m_X6_requirePlace [.ref c, .int t] h 0 (fun h1 => h1 = h) := by
  obtain ⟨sg, st, le, fo, rk, ⟨x0, x1, x2, x3, x4, x5⟩, hL, hN, hS, hP⟩ := id hc
  refine cn_of_ev (L0 := [_, _]) (by decide +kernel) rfl rfl (Nat.le_of_ble_eq_true rfl) rfl ?_
  refine ev_iload_n dX6_requirePlace_0 rfl rfl ?_
  refine ev_if_lt 12 dX6_requirePlace_1 rfl (fun hc1 => ?_) (fun hc1 => ?_)
  · refine ev_throwS (M' := m_X6_requirePlace) (f1 := none) (mc1 := 0) (ms1 := 0) (Q1 := fun _ _ => True) 0 "no such place" (by decide) rfl (by decide) rfl (by decide) (Nat.le_of_ble_eq_true rfl) dX6_requirePlace_12 dX6_requirePlace_15 dX6_requirePlace_16 dX6_requirePlace_18 dX6_requirePlace_21 (Nat.le_refl _) (Nat.le_refl _) ?_
    exact ⟨rfl, rfl⟩
  · refine ev_iload_n dX6_requirePlace_4 rfl rfl ?_
    refine ev_aload_n dX6_requirePlace_5 rfl rfl ?_
    refine ev_getfield dX6_requirePlace_6 lf_6_74 (x0) rfl ?_
    refine ev_icmp_lt 22 dX6_requirePlace_9 rfl (fun hc9 => ?_) (fun hc9 => ?_)
    · refine ev_pc (pc' := 22) rfl ?_
      exact absurd (inX_lt0 hc1 hc9 (by omega)) (by rw [ht]; decide)
    · refine ev_throwS (M' := m_X6_requirePlace) (f1 := none) (mc1 := 0) (ms1 := 0) (Q1 := fun _ _ => True) 0 "no such place" (by decide) rfl (by decide) rfl (by decide) (Nat.le_of_ble_eq_true rfl) dX6_requirePlace_12 dX6_requirePlace_15 dX6_requirePlace_16 dX6_requirePlace_18 dX6_requirePlace_21 (Nat.le_refl _) (Nat.le_refl _) ?_
      exact ⟨rfl, rfl⟩
set_option maxHeartbeats 4000000 in
set_option maxRecDepth 100000 in
theorem c_requireValue {X : mX} {h : mH} (hro : RO X) (k v : Nat) (hk : k < 5) (h1 : lowF k ≤ v) (h2 : v ≤ higF k) : CnP X m_X6_requireValue [.int (nI k), .int (nI v)] h none := by
  obtain ⟨r0, r1, r2⟩ := hro
  have hl := lowF_le k
  have hh := higF_le k
  refine cn_of_ev (L0 := [_, _]) (by decide +kernel) rfl rfl (Nat.le_of_ble_eq_true rfl) rfl ?_
  refine ev_iload_n dX6_requireValue_0 rfl rfl ?_
  refine ev_getstatic (k := 1) dX6_requireValue_1 (by decide) ls_6_325 ?_
  refine ev_iload_n dX6_requireValue_4 rfl rfl ?_
  first | refine ev_ialoadRN dX6_requireValue_5 r1 (by omega) (by omega) ?_ | refine ev_ialoadRN dX6_requireValue_5 r2 (by omega) (by omega) ?_
  refine ev_icmp_ltN 18 dX6_requireValue_6 rfl (by omega) (by omega) (fun hc6 => ?_) (fun hc6 => ?_)
  · refine ev_pc (pc' := 18) rfl ?_
    omega
  · refine ev_iload_n dX6_requireValue_9 rfl rfl ?_
    refine ev_getstatic (k := 2) dX6_requireValue_10 (by decide) ls_6_328 ?_
    refine ev_iload_n dX6_requireValue_13 rfl rfl ?_
    first | refine ev_ialoadRN dX6_requireValue_14 r1 (by omega) (by omega) ?_ | refine ev_ialoadRN dX6_requireValue_14 r2 (by omega) (by omega) ?_
    refine ev_icmp_leN 29 dX6_requireValue_15 rfl (by omega) (by omega) (fun hc15 => ?_) (fun hc15 => ?_)
    · refine ev_return dX6_requireValue_29 rfl (Or.inl rfl) (Nat.zero_le _) (Nat.zero_le _) ?_
      exact ⟨rfl, rfl⟩
    · refine ev_pc (pc' := 18) rfl ?_
      omega
set_option maxHeartbeats 4000000 in
set_option maxRecDepth 100000 in
theorem x_requireValue {X : mX} {h : mH} (hro : RO X) (k : Nat) (t : Int32) (hk : k < 5) (ht : inX t (lowF k) (higF k + 1) = false) : CnX X m_X6_requireValue [.int (nI k), .int t] h 1 (fun h1 => h1 = h) := by
  obtain ⟨r0, r1, r2⟩ := hro
  have hl := lowF_le k
  have hh := higF_le k
  refine cn_of_ev (L0 := [_, _]) (by decide +kernel) rfl rfl (Nat.le_of_ble_eq_true rfl) rfl ?_
  refine ev_iload_n dX6_requireValue_0 rfl rfl ?_
  refine ev_getstatic (k := 1) dX6_requireValue_1 (by decide) ls_6_325 ?_
  refine ev_iload_n dX6_requireValue_4 rfl rfl ?_
  first | refine ev_ialoadRN dX6_requireValue_5 r1 (by omega) (by omega) ?_ | refine ev_ialoadRN dX6_requireValue_5 r2 (by omega) (by omega) ?_
  refine ev_icmp_lt 18 dX6_requireValue_6 rfl (fun hc6 => ?_) (fun hc6 => ?_)
  · refine ev_throwSW (M' := m_X6_requireValue) (f1 := none) (mc1 := 0) (ms1 := 0) (Q1 := fun _ _ => True) 1 "value is out of range" (by decide) rfl (by decide) rfl (by decide) (Nat.le_of_ble_eq_true rfl) dX6_requireValue_18 dX6_requireValue_21 dX6_requireValue_22 dX6_requireValue_25 dX6_requireValue_28 (Nat.le_refl _) (Nat.le_refl _) ?_
    exact ⟨rfl, rfl⟩
  · refine ev_iload_n dX6_requireValue_9 rfl rfl ?_
    refine ev_getstatic (k := 2) dX6_requireValue_10 (by decide) ls_6_328 ?_
    refine ev_iload_n dX6_requireValue_13 rfl rfl ?_
    first | refine ev_ialoadRN dX6_requireValue_14 r1 (by omega) (by omega) ?_ | refine ev_ialoadRN dX6_requireValue_14 r2 (by omega) (by omega) ?_
    refine ev_icmp_le 29 dX6_requireValue_15 rfl (fun hc15 => ?_) (fun hc15 => ?_)
    · refine ev_pc (pc' := 29) rfl ?_
      exact absurd (inX_val hc6 hc15 (by omega) (by omega)) (by rw [ht]; decide)
    · refine ev_throwSW (M' := m_X6_requireValue) (f1 := none) (mc1 := 0) (ms1 := 0) (Q1 := fun _ _ => True) 1 "value is out of range" (by decide) rfl (by decide) rfl (by decide) (Nat.le_of_ble_eq_true rfl) dX6_requireValue_18 dX6_requireValue_21 dX6_requireValue_22 dX6_requireValue_25 dX6_requireValue_28 (Nat.le_refl _) (Nat.le_refl _) ?_
      exact ⟨rfl, rfl⟩
