/-! the law's store: codes, lengths (0 = free), owners, against the class's -/
def RelS9 (gc : Nat → Int64) (gq go : Nat → Nat) (S : mSo) : Prop := ∀ k, k < 60 → (sR S k = 0 → gq k = 0) ∧ (sR S k ≠ 0 → Ce (sR S k) (gc k) (gq k) ∧ go k = sO S k)
theorem RelS9.le {gc : Nat → Int64} {gq go : Nat → Nat} {S : mSo} (h : RelS9 gc gq go S) {k : Nat} (hk : k < 60) : gq k ≤ 16 := by
  by_cases e : sR S k = 0
  · rw [(h k hk).1 e]; omega
  · exact ((h k hk).2 e).1.le.2
theorem RelS9.pos {gc : Nat → Int64} {gq go : Nat → Nat} {S : mSo} (h : RelS9 gc gq go S) {k : Nat} (hk : k < 60) : gq k ≠ 0 ↔ sR S k ≠ 0 := by
  by_cases e : sR S k = 0
  · rw [(h k hk).1 e]; simp [e]
  · have := ((h k hk).2 e).1.le
    exact ⟨fun _ => e, fun _ => by omega⟩
theorem isF_iff {S : mSo} {k : Nat} : isF S k = true ↔ sR S k = 0 := by rw [isF, ieq]; exact decide_eq_true_iff
theorem RelS9.len {gc : Nat → Int64} {gq go : Nat → Nat} {S : mSo} (h : RelS9 gc gq go S) {k : Nat} (hk : k < 60) : gq k = if isF S k = true then 0 else rl (sR S k) := by
  by_cases e : sR S k = 0
  · rw [if_pos (isF_iff.mpr e)]
    exact (h k hk).1 e
  · rw [if_neg (fun z => e (isF_iff.mp z))]
    exact (((h k hk).2 e).1.rl).symm
theorem RelS9.hit {gc : Nat → Int64} {gq go : Nat → Nat} {S : mSo} (h : RelS9 gc gq go S) {w c : Int64} {n : Nat} (x : Ce w c n) {k : Nat} (hk : k < 60) : (gq k = n ∧ gc k = c) ↔ sR S k = w := by
  by_cases e : sR S k = 0
  · have h0 := (h k hk).1 e
    have hl := x.le.1
    rw [e]
    exact ⟨fun z => by omega, fun z => absurd z.symm x.n0⟩
  · exact (((h k hk).2 e).1.iff x).symm
def endL (gn gv : Nat → Nat) (many p len : Nat) : Nat := if gn 7 ≤ len ∧ sumN gv (gn 4) p % gn 5 = gn 6 then 1 else if len = gn 8 then 2 else if p + 1 = many then 3 else 0
theorem endL_1 {gn gv : Nat → Nat} {many p len : Nat} (h1 : gn 7 ≤ len) (h2 : sumN gv (gn 4) p % gn 5 = gn 6) : endL gn gv many p len = 1 := if_pos ⟨h1, h2⟩
theorem endL_n {gn gv : Nat → Nat} {many p len : Nat} (h : len < gn 7 ∨ ¬ sumN gv (gn 4) p % gn 5 = gn 6) : endL gn gv many p len = if len = gn 8 then 2 else if p + 1 = many then 3 else 0 := if_neg (fun z => h.elim (fun q => by have := z.1; omega) (fun q => q z.2))
theorem endL_2 {gn gv : Nat → Nat} {many p len : Nat} (h : len < gn 7 ∨ ¬ sumN gv (gn 4) p % gn 5 = gn 6) (h2 : len = gn 8) : endL gn gv many p len = 2 := by rw [endL_n h, if_pos h2]
theorem endL_3 {gn gv : Nat → Nat} {many p len : Nat} (h : len < gn 7 ∨ ¬ sumN gv (gn 4) p % gn 5 = gn 6) (h2 : ¬ len = gn 8) (hp : p < many) (h3 : p = many - 1) : endL gn gv many p len = 3 := by rw [endL_n h, if_neg h2, if_pos (by omega)]
theorem endL_0 {gn gv : Nat → Nat} {many p len : Nat} (h : len < gn 7 ∨ ¬ sumN gv (gn 4) p % gn 5 = gn 6) (h2 : ¬ len = gn 8) (hp : p < many) (h3 : ¬ p = many - 1) : endL gn gv many p len = 0 := by rw [endL_n h, if_neg h2, if_neg (by omega)]
/-- the law's settings lie in the class's bounds -/
def SetL (gn : Nat → Nat) : Prop := (1 ≤ gn 4 ∧ gn 4 ≤ 6) ∧ (1 ≤ gn 5 ∧ gn 5 ≤ 9) ∧ gn 6 ≤ 8 ∧ (1 ≤ gn 7 ∧ gn 7 ≤ 6) ∧ (6 ≤ gn 8 ∧ gn 8 ≤ 20)
set_option maxHeartbeats 4000000 in
set_option maxRecDepth 100000 in
theorem c_at {X : mX} {h : mH} (x : Int32) (n : Nat) (h0 : 0 < n) (hn : n < 2 ^ 31) : CnP X m_L_at [.int x, .int (nI n)] h (some (.int (nI (atN x n)))) := by
  have hx := hlf_lt x
  refine cn_of_ev (L0 := [_, _]) (by decide +kernel) rfl rfl (Nat.le_of_ble_eq_true rfl) rfl ?_
  refine ev_iload_n dL_at_0 rfl rfl ?_
  refine ev_iconst (nI 1) dL_at_1 rfl ?_
  refine ev_iushr dL_at_2 ?_
  rw [hlf_is]
  refine ev_iload_n dL_at_3 rfl rfl ?_
  refine ev_iremN dL_at_4 (by omega) (by omega) (by omega) ?_
  refine ev_ireturn dL_at_5 rfl (Or.inl rfl) (Nat.zero_le _) (Nat.zero_le _) ?_
  exact ⟨rfl, rfl⟩
set_option maxHeartbeats 4000000 in
set_option maxRecDepth 100000 in
theorem c_cell {X : mX} {h : mH} {L : Nat} {xs : Nat → Int32} (hsc : xro X (1000000 + 3) = some (L, xs)) (hL : L ≤ 260) (k : Nat) (hk : k < 1000) : ∃ x : Int32, CnP X m_L_cell [.ref (1000000 + 3), .int (nI k)] h (some (.int x)) := by
  by_cases hkL : k < L
  · refine ⟨xs k, ?_⟩
    refine cn_of_ev (L0 := [_, _]) (by decide +kernel) rfl rfl (Nat.le_of_ble_eq_true rfl) rfl ?_
    refine ev_iload_n dL_cell_0 rfl rfl ?_
    refine ev_aload_n dL_cell_1 rfl rfl ?_
    refine ev_arraylengthR dL_cell_2 hsc ?_
    refine ev_icmp_geN 12 dL_cell_3 rfl (by omega) (by omega) (fun hc3 => ?_) (fun hc3 => ?_)
    · first | omega | exact absurd hc3 (by decide) | exact absurd rfl hc3 | exact hc3 rfl | exact absurd hc3 (by assumption) | exact absurd (by assumption) hc3
    · refine ev_aload_n dL_cell_6 rfl rfl ?_
      refine ev_iload_n dL_cell_7 rfl rfl ?_
      refine ev_ialoadRN dL_cell_8 hsc (by omega) (by omega) ?_
      refine ev_goto 20 dL_cell_9 rfl ?_
      refine ev_ireturn dL_cell_20 rfl (Or.inl rfl) (Nat.zero_le _) (Nat.zero_le _) ?_
      exact ⟨rfl, rfl⟩
  · refine ⟨987654321 * nI (k + 617), ?_⟩
    refine cn_of_ev (L0 := [_, _]) (by decide +kernel) rfl rfl (Nat.le_of_ble_eq_true rfl) rfl ?_
    refine ev_iload_n dL_cell_0 rfl rfl ?_
    refine ev_aload_n dL_cell_1 rfl rfl ?_
    refine ev_arraylengthR dL_cell_2 hsc ?_
    refine ev_icmp_geN 12 dL_cell_3 rfl (by omega) (by omega) (fun hc3 => ?_) (fun hc3 => ?_)
    · refine ev_ldc _ dL_cell_12 lc_8_7 ?_
      refine ev_iload_n dL_cell_14 rfl rfl ?_
      refine ev_sipush (nI 617) dL_cell_15 rfl ?_
      refine ev_iaddN dL_cell_18 ?_
      refine ev_imul dL_cell_19 ?_
      refine ev_ireturn dL_cell_20 rfl (Or.inl rfl) (Nat.zero_le _) (Nat.zero_le _) ?_
      exact ⟨rfl, rfl⟩
    · first | omega | exact absurd hc3 (by decide) | exact absurd rfl hc3 | exact hc3 rfl | exact absurd hc3 (by assumption) | exact absurd (by assumption) hc3
set_option maxHeartbeats 4000000 in
set_option maxRecDepth 100000 in
theorem c_ends {X : mX} {h : mH} {V : Nat} {gn gv : Nat → Nat} (hn : h 270 = some (aI 12 (nf gn))) (hv : h V = some (aI 16 (nf gv))) (hS : SetL gn) (many p len : Nat) (hp : p < many) (hm : many ≤ 16) (hv8 : ∀ j, j < many → gv j ≤ 8) (hlen : len ≤ 16) : CnP X m_L_ends [.ref 270, .ref V, .int (nI many), .int (nI p), .int (nI len)] h (some (.int (nI (endL gn gv many p len)))) := by
  obtain ⟨⟨s1, s2⟩, ⟨s3, s4⟩, s5, ⟨s6, s7⟩, s8, s9⟩ := hS
  have hf : ∀ b, b < 6 → b ≤ p → (fun b => gv (p - b) * (b + 1)) b ≤ 48 := fun b h1 h2 => by
    have := Nat.mul_le_mul (hv8 (p - b) (by omega)) (show b + 1 ≤ 6 by omega)
    exact this
  refine cn_of_ev (L0 := [_, _, _, _, _, _, _]) (by decide +kernel) rfl rfl (Nat.le_of_ble_eq_true rfl) rfl ?_
  refine ev_iconst (nI 0) dL_ends_0 rfl ?_
  refine ev_istore (L' := [_, _, _, _, _, _, _]) dL_ends_1 (Nat.le_of_ble_eq_true rfl) rfl ?_
  refine ev_iconst (nI 0) dL_ends_3 rfl ?_
  refine ev_istore (L' := [_, _, _, _, _, _, _]) dL_ends_4 (Nat.le_of_ble_eq_true rfl) rfl ?_
  refine ev_pc (pc' := 6) rfl ?_
  have LP6 : ∀ (mz : Nat) (k : Nat), 7 - k = mz → (k ≤ gn 4) → (k ≤ p + 1) → Ev X m_L_ends B0 6 [.ref 270, .ref V, .int (nI many), .int (nI p), .int (nI len), .int (nI (smN (fun b => gv (p - b) * (b + 1)) k)), .int (nI k)] [] h (fun o h1 => o = .inl (some (.int (nI (endL gn gv many p len)))) ∧ h1 = h) := by
    intro mz
    induction mz using Nat.strongRecOn with
    | _ mz ih =>
      intro k hmz hk hk2
      have hsm : smN (fun b => gv (p - b) * (b + 1)) k ≤ k * 48 := smN_le (fun b hb => hf b (by omega) (by omega))
      refine ev_iload dL_ends_6 rfl ?_
      refine ev_aload_n dL_ends_8 rfl rfl ?_
      refine ev_iconst (nI 4) dL_ends_9 rfl ?_
      first | refine ev_ialoadF dL_ends_10 (hn) (by omega) (by decide) ?_ | refine ev_ialoadF dL_ends_10 (hv) (by omega) (by decide) ?_
      refine ev_icmp_geN 42 dL_ends_11 rfl (by omega) (by omega) (fun hc11 => ?_) (fun hc11 => ?_)
      · refine ev_pc (pc' := 42) rfl ?_
        rw [show smN (fun b => gv (p - b) * (b + 1)) k = sumN gv (gn 4) p from by
          unfold sumN
          rw [show min (gn 4) (p + 1) = k by omega]]
        have hsm : sumN gv (gn 4) p ≤ 288 := by
          unfold sumN
          rw [show min (gn 4) (p + 1) = k by omega]
          omega
        have hsm2 := Nat.mod_lt (sumN gv (gn 4) p) (show 0 < gn 5 by omega)
        refine ev_iload dL_ends_42 rfl ?_
        refine ev_aload_n dL_ends_44 rfl rfl ?_
        refine ev_bipush (nI 7) dL_ends_45 rfl ?_
        first | refine ev_ialoadF dL_ends_47 (hn) (by omega) (by decide) ?_ | refine ev_ialoadF dL_ends_47 (hv) (by omega) (by decide) ?_
        refine ev_icmp_ltN 66 dL_ends_48 rfl (by omega) (by omega) (fun hc48 => ?_) (fun hc48 => ?_)
        · refine ev_iload dL_ends_66 rfl ?_
          refine ev_aload_n dL_ends_68 rfl rfl ?_
          refine ev_bipush (nI 8) dL_ends_69 rfl ?_
          first | refine ev_ialoadF dL_ends_71 (hn) (by omega) (by decide) ?_ | refine ev_ialoadF dL_ends_71 (hv) (by omega) (by decide) ?_
          refine ev_icmp_neN 79 dL_ends_72 rfl (by omega) (by omega) (fun hc72 => ?_) (fun hc72 => ?_)
          · refine ev_iload_n dL_ends_79 rfl rfl ?_
            refine ev_iload_n dL_ends_80 rfl rfl ?_
            refine ev_iconst (nI 1) dL_ends_81 rfl ?_
            refine ev_isubN dL_ends_82 (by omega) ?_
            refine ev_icmp_neN 90 dL_ends_83 rfl (by omega) (by omega) (fun hc83 => ?_) (fun hc83 => ?_)
            · refine ev_iconst (nI 0) dL_ends_90 rfl ?_
              refine ev_ireturn dL_ends_91 rfl (Or.inl rfl) (Nat.zero_le _) (Nat.zero_le _) ?_
              first
                | (rw [endL_2 (Or.inl hc48) hc72]; exact ⟨rfl, rfl⟩)
                | (rw [endL_2 (Or.inr hc61) hc72]; exact ⟨rfl, rfl⟩)
                | (rw [endL_3 (Or.inl hc48) hc72 hp hc83]; exact ⟨rfl, rfl⟩)
                | (rw [endL_3 (Or.inr hc61) hc72 hp hc83]; exact ⟨rfl, rfl⟩)
                | (rw [endL_0 (Or.inl hc48) hc72 hp hc83]; exact ⟨rfl, rfl⟩)
                | (rw [endL_0 (Or.inr hc61) hc72 hp hc83]; exact ⟨rfl, rfl⟩)
            · refine ev_iconst (nI 3) dL_ends_86 rfl ?_
              refine ev_goto 91 dL_ends_87 rfl ?_
              refine ev_ireturn dL_ends_91 rfl (Or.inl rfl) (Nat.zero_le _) (Nat.zero_le _) ?_
              first
                | (rw [endL_2 (Or.inl hc48) hc72]; exact ⟨rfl, rfl⟩)
                | (rw [endL_2 (Or.inr hc61) hc72]; exact ⟨rfl, rfl⟩)
                | (rw [endL_3 (Or.inl hc48) hc72 hp hc83]; exact ⟨rfl, rfl⟩)
                | (rw [endL_3 (Or.inr hc61) hc72 hp hc83]; exact ⟨rfl, rfl⟩)
                | (rw [endL_0 (Or.inl hc48) hc72 hp hc83]; exact ⟨rfl, rfl⟩)
                | (rw [endL_0 (Or.inr hc61) hc72 hp hc83]; exact ⟨rfl, rfl⟩)
          · refine ev_iconst (nI 2) dL_ends_75 rfl ?_
            refine ev_goto 91 dL_ends_76 rfl ?_
            refine ev_ireturn dL_ends_91 rfl (Or.inl rfl) (Nat.zero_le _) (Nat.zero_le _) ?_
            first
              | (rw [endL_2 (Or.inl hc48) hc72]; exact ⟨rfl, rfl⟩)
              | (rw [endL_2 (Or.inr hc61) hc72]; exact ⟨rfl, rfl⟩)
              | (rw [endL_3 (Or.inl hc48) hc72 hp hc83]; exact ⟨rfl, rfl⟩)
              | (rw [endL_3 (Or.inr hc61) hc72 hp hc83]; exact ⟨rfl, rfl⟩)
              | (rw [endL_0 (Or.inl hc48) hc72 hp hc83]; exact ⟨rfl, rfl⟩)
              | (rw [endL_0 (Or.inr hc61) hc72 hp hc83]; exact ⟨rfl, rfl⟩)
        · refine ev_iload dL_ends_51 rfl ?_
          refine ev_aload_n dL_ends_53 rfl rfl ?_
          refine ev_iconst (nI 5) dL_ends_54 rfl ?_
          first | refine ev_ialoadF dL_ends_55 (hn) (by omega) (by decide) ?_ | refine ev_ialoadF dL_ends_55 (hv) (by omega) (by decide) ?_
          refine ev_iremN dL_ends_56 (by omega) (by omega) (by omega) ?_
          refine ev_aload_n dL_ends_57 rfl rfl ?_
          refine ev_bipush (nI 6) dL_ends_58 rfl ?_
          first | refine ev_ialoadF dL_ends_60 (hn) (by omega) (by decide) ?_ | refine ev_ialoadF dL_ends_60 (hv) (by omega) (by decide) ?_
          refine ev_icmp_neN 66 dL_ends_61 rfl (by omega) (by omega) (fun hc61 => ?_) (fun hc61 => ?_)
          · refine ev_iload dL_ends_66 rfl ?_
            refine ev_aload_n dL_ends_68 rfl rfl ?_
            refine ev_bipush (nI 8) dL_ends_69 rfl ?_
            first | refine ev_ialoadF dL_ends_71 (hn) (by omega) (by decide) ?_ | refine ev_ialoadF dL_ends_71 (hv) (by omega) (by decide) ?_
            refine ev_icmp_neN 79 dL_ends_72 rfl (by omega) (by omega) (fun hc72 => ?_) (fun hc72 => ?_)
            · refine ev_iload_n dL_ends_79 rfl rfl ?_
              refine ev_iload_n dL_ends_80 rfl rfl ?_
              refine ev_iconst (nI 1) dL_ends_81 rfl ?_
              refine ev_isubN dL_ends_82 (by omega) ?_
              refine ev_icmp_neN 90 dL_ends_83 rfl (by omega) (by omega) (fun hc83 => ?_) (fun hc83 => ?_)
              · refine ev_iconst (nI 0) dL_ends_90 rfl ?_
                refine ev_ireturn dL_ends_91 rfl (Or.inl rfl) (Nat.zero_le _) (Nat.zero_le _) ?_
                first
                  | (rw [endL_2 (Or.inl hc48) hc72]; exact ⟨rfl, rfl⟩)
                  | (rw [endL_2 (Or.inr hc61) hc72]; exact ⟨rfl, rfl⟩)
                  | (rw [endL_3 (Or.inl hc48) hc72 hp hc83]; exact ⟨rfl, rfl⟩)
                  | (rw [endL_3 (Or.inr hc61) hc72 hp hc83]; exact ⟨rfl, rfl⟩)
                  | (rw [endL_0 (Or.inl hc48) hc72 hp hc83]; exact ⟨rfl, rfl⟩)
                  | (rw [endL_0 (Or.inr hc61) hc72 hp hc83]; exact ⟨rfl, rfl⟩)
              · refine ev_iconst (nI 3) dL_ends_86 rfl ?_
                refine ev_goto 91 dL_ends_87 rfl ?_
                refine ev_ireturn dL_ends_91 rfl (Or.inl rfl) (Nat.zero_le _) (Nat.zero_le _) ?_
                first
                  | (rw [endL_2 (Or.inl hc48) hc72]; exact ⟨rfl, rfl⟩)
                  | (rw [endL_2 (Or.inr hc61) hc72]; exact ⟨rfl, rfl⟩)
                  | (rw [endL_3 (Or.inl hc48) hc72 hp hc83]; exact ⟨rfl, rfl⟩)
                  | (rw [endL_3 (Or.inr hc61) hc72 hp hc83]; exact ⟨rfl, rfl⟩)
                  | (rw [endL_0 (Or.inl hc48) hc72 hp hc83]; exact ⟨rfl, rfl⟩)
                  | (rw [endL_0 (Or.inr hc61) hc72 hp hc83]; exact ⟨rfl, rfl⟩)
            · refine ev_iconst (nI 2) dL_ends_75 rfl ?_
              refine ev_goto 91 dL_ends_76 rfl ?_
              refine ev_ireturn dL_ends_91 rfl (Or.inl rfl) (Nat.zero_le _) (Nat.zero_le _) ?_
              first
                | (rw [endL_2 (Or.inl hc48) hc72]; exact ⟨rfl, rfl⟩)
                | (rw [endL_2 (Or.inr hc61) hc72]; exact ⟨rfl, rfl⟩)
                | (rw [endL_3 (Or.inl hc48) hc72 hp hc83]; exact ⟨rfl, rfl⟩)
                | (rw [endL_3 (Or.inr hc61) hc72 hp hc83]; exact ⟨rfl, rfl⟩)
                | (rw [endL_0 (Or.inl hc48) hc72 hp hc83]; exact ⟨rfl, rfl⟩)
                | (rw [endL_0 (Or.inr hc61) hc72 hp hc83]; exact ⟨rfl, rfl⟩)
          · refine ev_iconst (nI 1) dL_ends_64 rfl ?_
            refine ev_ireturn dL_ends_65 rfl (Or.inl rfl) (Nat.zero_le _) (Nat.zero_le _) ?_
            rw [endL_1 hc48 hc61]
            exact ⟨rfl, rfl⟩
      · refine ev_iload dL_ends_14 rfl ?_
        refine ev_iload_n dL_ends_16 rfl rfl ?_
        refine ev_icmp_gtN 42 dL_ends_17 rfl (by omega) (by omega) (fun hc17 => ?_) (fun hc17 => ?_)
        · refine ev_pc (pc' := 42) rfl ?_
          rw [show smN (fun b => gv (p - b) * (b + 1)) k = sumN gv (gn 4) p from by
            unfold sumN
            rw [show min (gn 4) (p + 1) = k by omega]]
          have hsm : sumN gv (gn 4) p ≤ 288 := by
            unfold sumN
            rw [show min (gn 4) (p + 1) = k by omega]
            omega
          have hsm2 := Nat.mod_lt (sumN gv (gn 4) p) (show 0 < gn 5 by omega)
          refine ev_iload dL_ends_42 rfl ?_
          refine ev_aload_n dL_ends_44 rfl rfl ?_
          refine ev_bipush (nI 7) dL_ends_45 rfl ?_
          first | refine ev_ialoadF dL_ends_47 (hn) (by omega) (by decide) ?_ | refine ev_ialoadF dL_ends_47 (hv) (by omega) (by decide) ?_
          refine ev_icmp_ltN 66 dL_ends_48 rfl (by omega) (by omega) (fun hc48 => ?_) (fun hc48 => ?_)
          · refine ev_iload dL_ends_66 rfl ?_
            refine ev_aload_n dL_ends_68 rfl rfl ?_
            refine ev_bipush (nI 8) dL_ends_69 rfl ?_
            first | refine ev_ialoadF dL_ends_71 (hn) (by omega) (by decide) ?_ | refine ev_ialoadF dL_ends_71 (hv) (by omega) (by decide) ?_
            refine ev_icmp_neN 79 dL_ends_72 rfl (by omega) (by omega) (fun hc72 => ?_) (fun hc72 => ?_)
            · refine ev_iload_n dL_ends_79 rfl rfl ?_
              refine ev_iload_n dL_ends_80 rfl rfl ?_
              refine ev_iconst (nI 1) dL_ends_81 rfl ?_
              refine ev_isubN dL_ends_82 (by omega) ?_
              refine ev_icmp_neN 90 dL_ends_83 rfl (by omega) (by omega) (fun hc83 => ?_) (fun hc83 => ?_)
              · refine ev_iconst (nI 0) dL_ends_90 rfl ?_
                refine ev_ireturn dL_ends_91 rfl (Or.inl rfl) (Nat.zero_le _) (Nat.zero_le _) ?_
                first
                  | (rw [endL_2 (Or.inl hc48) hc72]; exact ⟨rfl, rfl⟩)
                  | (rw [endL_2 (Or.inr hc61) hc72]; exact ⟨rfl, rfl⟩)
                  | (rw [endL_3 (Or.inl hc48) hc72 hp hc83]; exact ⟨rfl, rfl⟩)
                  | (rw [endL_3 (Or.inr hc61) hc72 hp hc83]; exact ⟨rfl, rfl⟩)
                  | (rw [endL_0 (Or.inl hc48) hc72 hp hc83]; exact ⟨rfl, rfl⟩)
                  | (rw [endL_0 (Or.inr hc61) hc72 hp hc83]; exact ⟨rfl, rfl⟩)
              · refine ev_iconst (nI 3) dL_ends_86 rfl ?_
                refine ev_goto 91 dL_ends_87 rfl ?_
                refine ev_ireturn dL_ends_91 rfl (Or.inl rfl) (Nat.zero_le _) (Nat.zero_le _) ?_
                first
                  | (rw [endL_2 (Or.inl hc48) hc72]; exact ⟨rfl, rfl⟩)
                  | (rw [endL_2 (Or.inr hc61) hc72]; exact ⟨rfl, rfl⟩)
                  | (rw [endL_3 (Or.inl hc48) hc72 hp hc83]; exact ⟨rfl, rfl⟩)
                  | (rw [endL_3 (Or.inr hc61) hc72 hp hc83]; exact ⟨rfl, rfl⟩)
                  | (rw [endL_0 (Or.inl hc48) hc72 hp hc83]; exact ⟨rfl, rfl⟩)
                  | (rw [endL_0 (Or.inr hc61) hc72 hp hc83]; exact ⟨rfl, rfl⟩)
            · refine ev_iconst (nI 2) dL_ends_75 rfl ?_
              refine ev_goto 91 dL_ends_76 rfl ?_
              refine ev_ireturn dL_ends_91 rfl (Or.inl rfl) (Nat.zero_le _) (Nat.zero_le _) ?_
              first
                | (rw [endL_2 (Or.inl hc48) hc72]; exact ⟨rfl, rfl⟩)
                | (rw [endL_2 (Or.inr hc61) hc72]; exact ⟨rfl, rfl⟩)
                | (rw [endL_3 (Or.inl hc48) hc72 hp hc83]; exact ⟨rfl, rfl⟩)
                | (rw [endL_3 (Or.inr hc61) hc72 hp hc83]; exact ⟨rfl, rfl⟩)
                | (rw [endL_0 (Or.inl hc48) hc72 hp hc83]; exact ⟨rfl, rfl⟩)
                | (rw [endL_0 (Or.inr hc61) hc72 hp hc83]; exact ⟨rfl, rfl⟩)
          · refine ev_iload dL_ends_51 rfl ?_
            refine ev_aload_n dL_ends_53 rfl rfl ?_
            refine ev_iconst (nI 5) dL_ends_54 rfl ?_
            first | refine ev_ialoadF dL_ends_55 (hn) (by omega) (by decide) ?_ | refine ev_ialoadF dL_ends_55 (hv) (by omega) (by decide) ?_
            refine ev_iremN dL_ends_56 (by omega) (by omega) (by omega) ?_
            refine ev_aload_n dL_ends_57 rfl rfl ?_
            refine ev_bipush (nI 6) dL_ends_58 rfl ?_
            first | refine ev_ialoadF dL_ends_60 (hn) (by omega) (by decide) ?_ | refine ev_ialoadF dL_ends_60 (hv) (by omega) (by decide) ?_
            refine ev_icmp_neN 66 dL_ends_61 rfl (by omega) (by omega) (fun hc61 => ?_) (fun hc61 => ?_)
            · refine ev_iload dL_ends_66 rfl ?_
              refine ev_aload_n dL_ends_68 rfl rfl ?_
              refine ev_bipush (nI 8) dL_ends_69 rfl ?_
              first | refine ev_ialoadF dL_ends_71 (hn) (by omega) (by decide) ?_ | refine ev_ialoadF dL_ends_71 (hv) (by omega) (by decide) ?_
              refine ev_icmp_neN 79 dL_ends_72 rfl (by omega) (by omega) (fun hc72 => ?_) (fun hc72 => ?_)
              · refine ev_iload_n dL_ends_79 rfl rfl ?_
                refine ev_iload_n dL_ends_80 rfl rfl ?_
                refine ev_iconst (nI 1) dL_ends_81 rfl ?_
                refine ev_isubN dL_ends_82 (by omega) ?_
                refine ev_icmp_neN 90 dL_ends_83 rfl (by omega) (by omega) (fun hc83 => ?_) (fun hc83 => ?_)
                · refine ev_iconst (nI 0) dL_ends_90 rfl ?_
                  refine ev_ireturn dL_ends_91 rfl (Or.inl rfl) (Nat.zero_le _) (Nat.zero_le _) ?_
                  first
                    | (rw [endL_2 (Or.inl hc48) hc72]; exact ⟨rfl, rfl⟩)
                    | (rw [endL_2 (Or.inr hc61) hc72]; exact ⟨rfl, rfl⟩)
                    | (rw [endL_3 (Or.inl hc48) hc72 hp hc83]; exact ⟨rfl, rfl⟩)
                    | (rw [endL_3 (Or.inr hc61) hc72 hp hc83]; exact ⟨rfl, rfl⟩)
                    | (rw [endL_0 (Or.inl hc48) hc72 hp hc83]; exact ⟨rfl, rfl⟩)
                    | (rw [endL_0 (Or.inr hc61) hc72 hp hc83]; exact ⟨rfl, rfl⟩)
                · refine ev_iconst (nI 3) dL_ends_86 rfl ?_
                  refine ev_goto 91 dL_ends_87 rfl ?_
                  refine ev_ireturn dL_ends_91 rfl (Or.inl rfl) (Nat.zero_le _) (Nat.zero_le _) ?_
                  first
                    | (rw [endL_2 (Or.inl hc48) hc72]; exact ⟨rfl, rfl⟩)
                    | (rw [endL_2 (Or.inr hc61) hc72]; exact ⟨rfl, rfl⟩)
                    | (rw [endL_3 (Or.inl hc48) hc72 hp hc83]; exact ⟨rfl, rfl⟩)
                    | (rw [endL_3 (Or.inr hc61) hc72 hp hc83]; exact ⟨rfl, rfl⟩)
                    | (rw [endL_0 (Or.inl hc48) hc72 hp hc83]; exact ⟨rfl, rfl⟩)
                    | (rw [endL_0 (Or.inr hc61) hc72 hp hc83]; exact ⟨rfl, rfl⟩)
              · refine ev_iconst (nI 2) dL_ends_75 rfl ?_
                refine ev_goto 91 dL_ends_76 rfl ?_
                refine ev_ireturn dL_ends_91 rfl (Or.inl rfl) (Nat.zero_le _) (Nat.zero_le _) ?_
                first
                  | (rw [endL_2 (Or.inl hc48) hc72]; exact ⟨rfl, rfl⟩)
                  | (rw [endL_2 (Or.inr hc61) hc72]; exact ⟨rfl, rfl⟩)
                  | (rw [endL_3 (Or.inl hc48) hc72 hp hc83]; exact ⟨rfl, rfl⟩)
                  | (rw [endL_3 (Or.inr hc61) hc72 hp hc83]; exact ⟨rfl, rfl⟩)
                  | (rw [endL_0 (Or.inl hc48) hc72 hp hc83]; exact ⟨rfl, rfl⟩)
                  | (rw [endL_0 (Or.inr hc61) hc72 hp hc83]; exact ⟨rfl, rfl⟩)
            · refine ev_iconst (nI 1) dL_ends_64 rfl ?_
              refine ev_ireturn dL_ends_65 rfl (Or.inl rfl) (Nat.zero_le _) (Nat.zero_le _) ?_
              rw [endL_1 hc48 hc61]
              exact ⟨rfl, rfl⟩
        · refine ev_iload dL_ends_20 rfl ?_
          refine ev_iload dL_ends_22 rfl ?_
          refine ev_iconst (nI 1) dL_ends_24 rfl ?_
          refine ev_iaddN dL_ends_25 ?_
          refine ev_aload_n dL_ends_26 rfl rfl ?_
          refine ev_iload_n dL_ends_27 rfl rfl ?_
          refine ev_iload dL_ends_28 rfl ?_
          refine ev_isubN dL_ends_30 (by omega) ?_
          first | refine ev_ialoadF dL_ends_31 (hn) (by omega) (by decide) ?_ | refine ev_ialoadF dL_ends_31 (hv) (by omega) (by decide) ?_
          refine ev_imulN dL_ends_32 ?_
          rw [show (k + 1) * gv (p - k) = (fun b => gv (p - b) * (b + 1)) k from Nat.mul_comm _ _]
          refine ev_iaddN dL_ends_33 ?_
          rw [show smN (fun b => gv (p - b) * (b + 1)) k + (fun b => gv (p - b) * (b + 1)) k = smN (fun b => gv (p - b) * (b + 1)) (k + 1) from rfl]
          refine ev_istore (L' := [_, _, _, _, _, _, _]) dL_ends_34 (Nat.le_of_ble_eq_true rfl) rfl ?_
          refine ev_iincN (L' := [_, _, _, _, _, _, _]) 1 dL_ends_36 rfl rfl ?_
          refine ev_goto 6 dL_ends_39 rfl ?_
          refine ev_pc (pc' := 6) rfl ?_
          exact ih _ (by omega) (k + 1) rfl (by omega) (by omega)
  exact LP6 _ 0 rfl (Nat.zero_le _) (Nat.zero_le _)
set_option maxHeartbeats 4000000 in
set_option maxRecDepth 100000 in
theorem c_slotL {X : mX} {h : mH} {gc : Nat → Int64} {gq go : Nat → Nat} {S : mSo} (hc : h 274 = some (aL 60 gc)) (hq : h 275 = some (aI 60 (nf gq))) (hS : RelS9 gc gq go S) (hD : SoD S) {w c : Int64} {n : Nat} (x : Ce w c n) : CnP X m_L_slot [.ref 274, .ref 275, .long c, .int (nI n)] h (some (.int (slI (slU S w)))) := by
  have hx := x.le
  refine cn_of_ev (L0 := [_, _, _, _, _, _]) (by decide +kernel) rfl rfl (Nat.le_of_ble_eq_true rfl) rfl ?_
  refine ev_iconst (nI 0) dL_slot_0 rfl ?_
  refine ev_istore (L' := [_, _, _, _, _, _]) dL_slot_1 (Nat.le_of_ble_eq_true rfl) rfl ?_
  refine ev_pc (pc' := 3) rfl ?_
  have LP3 : ∀ (mz : Nat) (k : Nat), 60 - k = mz → (k ≤ 60) → (∀ j, j < k → sR S j ≠ w) → Ev X m_L_slot B0 3 [.ref 274, .ref 275, .long c, jk, .int (nI n), .int (nI k)] [] h (fun o h1 => o = .inl (some (.int (slI (slU S w)))) ∧ h1 = h) := by
    intro mz
    induction mz using Nat.strongRecOn with
    | _ mz ih =>
      intro k hmz hk hno
      have hle : k < 60 → gq k ≤ 16 := fun z => hS.le z
      have hhit : k < 60 → ((gq k = n ∧ gc k = c) ↔ sR S k = w) := fun z => hS.hit x z
      refine ev_iload dL_slot_3 rfl ?_
      refine ev_bipush (nI 60) dL_slot_5 rfl ?_
      refine ev_icmp_geN 37 dL_slot_7 rfl (by first | omega | (have := hle (by omega); omega)) (by first | omega | (have := hle (by omega); omega)) (fun hc7 => ?_) (fun hc7 => ?_)
      · refine ev_iconst (-1) dL_slot_37 rfl ?_
        refine ev_ireturn dL_slot_38 rfl (Or.inl rfl) (Nat.zero_le _) (Nat.zero_le _) ?_
        have e : ¬ slU S w < 60 := fun z => hno _ (by omega) (slU_at z)
        rw [slI_n e]
        exact ⟨rfl, rfl⟩
      · refine ev_aload_n dL_slot_10 rfl rfl ?_
        refine ev_iload dL_slot_11 rfl ?_
        first | refine ev_ialoadF dL_slot_13 (hc) (by omega) (by decide) ?_ | refine ev_ialoadF dL_slot_13 (hq) (by omega) (by decide) ?_
        refine ev_iload dL_slot_14 rfl ?_
        refine ev_icmp_neN 31 dL_slot_16 rfl (by first | omega | (have := hle (by omega); omega)) (by first | omega | (have := hle (by omega); omega)) (fun hc16 => ?_) (fun hc16 => ?_)
        · refine ev_iincN (L' := [_, _, _, _, _, _]) 1 dL_slot_31 rfl rfl ?_
          refine ev_goto 3 dL_slot_34 rfl ?_
          refine ev_pc (pc' := 3) rfl ?_
          refine ih _ (by omega) (k + 1) rfl (by omega) (fun j hj => ?_)
          by_cases ej : j = k
          · rw [ej]
            intro z
            have := (hhit (by omega)).mpr z
            first | exact hc16 this.1 | exact hc25 this.2
          · exact hno j (by omega)
        · refine ev_aload_n dL_slot_19 rfl rfl ?_
          refine ev_iload dL_slot_20 rfl ?_
          first | refine ev_laloadN dL_slot_22 (hc) (by omega) (by decide) ?_ | refine ev_laloadN dL_slot_22 (hq) (by omega) (by decide) ?_
          refine ev_lload_n dL_slot_23 rfl rfl ?_
          refine ev_lcmp_ne 31 dL_slot_24 dL_slot_25 rfl (fun hc25 => ?_) (fun hc25 => ?_)
          · refine ev_iincN (L' := [_, _, _, _, _, _]) 1 dL_slot_31 rfl rfl ?_
            refine ev_goto 3 dL_slot_34 rfl ?_
            refine ev_pc (pc' := 3) rfl ?_
            refine ih _ (by omega) (k + 1) rfl (by omega) (fun j hj => ?_)
            by_cases ej : j = k
            · rw [ej]
              intro z
              have := (hhit (by omega)).mpr z
              first | exact hc16 this.1 | exact hc25 this.2
            · exact hno j (by omega)
          · refine ev_iload dL_slot_28 rfl ?_
            refine ev_ireturn dL_slot_30 rfl (Or.inl rfl) (Nat.zero_le _) (Nat.zero_le _) ?_
            have hk60 : k < 60 := by omega
            have e : slU S w = k := slU_eq hD x.n0 hk60 ((hhit hk60).mp ⟨by assumption, by assumption⟩)
            rw [e, slI_y hk60]
            exact ⟨rfl, rfl⟩
  exact LP3 _ 0 rfl (Nat.zero_le _) (fun j hj => absurd hj (Nat.not_lt_zero j))
