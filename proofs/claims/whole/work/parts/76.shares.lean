/-! shares: owned lengths are no more than the signs; a finite check of the quotients -/
theorem smN_add2 (f g : Nat → Nat) : ∀ n, smN (fun j => f j + g j) n = smN f n + smN g n
  | 0 => rfl
  | n + 1 => by
    rw [smN, smN, smN, smN_add2 f g n]
    omega
theorem smN_swap (f : Nat → Nat → Nat) (n : Nat) : ∀ m, smN (fun i => smN (fun j => f i j) n) m = smN (fun j => smN (fun i => f i j) m) n
  | 0 => (smN_zero (fun _ _ => rfl)).symm
  | m + 1 => by
    rw [smN, smN_swap f n m, ← smN_add2]
    rfl
theorem smN_one {P : Nat → Bool} {c : Nat} : ∀ {n : Nat}, (∀ i j, i < n → j < n → P i = true → P j = true → i = j) → smN (fun k => if P k = true then c else 0) n ≤ c
  | 0, _ => Nat.zero_le _
  | n + 1, h => by
    rw [smN]
    by_cases e : P n = true
    · rw [if_pos e, smN_zero (fun k hk => if_neg (fun z => by have := h k n (by omega) (by omega) z e; omega))]
      omega
    · rw [if_neg e]
      exact smN_one (fun i j hi hj => h i j (by omega) (by omega))
theorem owd_le {T : mSt} (h : InvT T) : owdN T ≤ sgsN T := by
  have hp : smN (fun k => if isF (tS T) k = true then 0 else if isU (tS T) k = true then 0 else rl (sR (tS T) k)) 60 + smN (fun k => if isU (tS T) k = true then rl (sR (tS T) k) else 0) 60 = szS (tS T) := smN_plus (fun k hk => by
    by_cases f : isF (tS T) k = true
    · rw [if_pos f, if_pos f, if_neg (fun z => by rw [isU, isF_iff.mp f] at z; cases z)]
    · rw [if_neg f, if_neg f]
      by_cases u : isU (tS T) k = true
      · rw [if_pos u, if_pos u, Nat.zero_add]
      · rw [if_neg u, if_neg u, Nat.add_zero])
  have h1 : owdN T = smN (fun k => if isF (tS T) k = true then 0 else if isU (tS T) k = true then 0 else rl (sR (tS T) k)) 60 := by
    unfold owdN
    omega
  have h2 : smN (fun k => if isF (tS T) k = true then 0 else if isU (tS T) k = true then 0 else rl (sR (tS T) k)) 60 ≤ smN (fun k => smN (fun t => smN (fun p => if (kR (tC T t) p == sR (tS T) k) = true then kQ (tC T t) p else 0) (kN (tC T t))) 4) 60 := smN_le2 (fun k hk => by
    by_cases f : isF (tS T) k = true
    · rw [if_pos f]; exact Nat.zero_le _
    · rw [if_neg f]
      by_cases u : isU (tS T) k = true
      · rw [if_pos u]; exact Nat.zero_le _
      · rw [if_neg u]
        have z0 : sR (tS T) k ≠ 0 := fun z => f (isF_iff.mpr z)
        have hs : sO (tS T) k ≠ 0 := fun z => u (by
          rw [isU, z, show (sR (tS T) k == 0) = false from by rw [ieq]; exact decide_eq_false z0]
          rfl)
        rw [h.2.2.2.2.1 k hk z0] at hs
        have hex : ∃ t, t < 4 ∧ ctT T t (sR (tS T) k) ≠ 0 := Classical.byContradiction (fun z => hs (smN_zero (fun t ht => Classical.byContradiction (fun q => z ⟨t, ht, q⟩))))
        obtain ⟨t, ht, hc⟩ := hex
        have hex2 : ∃ p, p < kN (tC T t) ∧ (kR (tC T t) p == sR (tS T) k) = true := Classical.byContradiction (fun z => hc (by
          rw [ctT, ctN_sm]
          exact smN_zero (fun p hp => if_neg (fun q => z ⟨p, hp, q⟩))))
        obtain ⟨p, hpp, he⟩ := hex2
        have e1 := smN_at (f := fun p => if (kR (tC T t) p == sR (tS T) k) = true then kQ (tC T t) p else 0) hpp
        have e2 := smN_at (f := fun t => smN (fun p => if (kR (tC T t) p == sR (tS T) k) = true then kQ (tC T t) p else 0) (kN (tC T t))) ht
        rw [if_pos he] at e1
        have he' := he
        rw [ieq] at he'
        have e3 : rl (sR (tS T) k) = kQ (tC T t) p := by rw [← of_decide_eq_true he']; exact ((h.2.1 t ht).cd hpp).rl
        rw [e3]
        omega)
  rw [h1]
  refine Nat.le_trans h2 ?_
  rw [smN_swap]
  refine smN_le2 (fun t ht => ?_)
  rw [smN_swap]
  rw [← (h.2.1 t ht).2.2.2]
  refine smN_le2 (fun p hp => smN_one (fun i j hi hj a b => ?_))
  rw [ieq] at a b
  have a' := of_decide_eq_true a
  have b' := of_decide_eq_true b
  exact h.2.2.1 i j hi hj (a'.symm.trans b') (by rw [← a']; exact ((h.2.1 t ht).cd hp).n0)
def selT (x : UInt64) : Bool := decide (FP.dcmp x x = some .eq)
def shrU (a b : Nat) : Bool := shrT a b && selT (shrD a b)
def rowT (b : Nat) : Nat → Bool
  | 0 => true
  | a + 1 => rowT b a && shrU a b
def tabT (lo : Nat) : Nat → Bool
  | 0 => true
  | n + 1 => tabT lo n && rowT (lo + n) (lo + n + 1)
theorem rowT_at {b : Nat} : ∀ {n a : Nat}, rowT b n = true → a < n → shrU a b = true
  | 0, a, _, h => absurd h (Nat.not_lt_zero a)
  | n + 1, a, t, h => by
    rw [rowT, Bool.and_eq_true] at t
    by_cases e : a = n
    · rw [e]; exact t.2
    · exact rowT_at t.1 (by omega)
theorem tabT_at {lo : Nat} : ∀ {n a b : Nat}, tabT lo n = true → lo ≤ b → b < lo + n → a ≤ b → shrU a b = true
  | 0, a, b, _, h1, h2, _ => by omega
  | n + 1, a, b, t, h1, h2, h3 => by
    rw [tabT, Bool.and_eq_true] at t
    by_cases e : b = lo + n
    · rw [e]; exact rowT_at t.2 (by omega)
    · exact tabT_at t.1 h1 (by omega) h3
