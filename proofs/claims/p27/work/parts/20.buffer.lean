/-- the buffer: two cells; n codes -/
def BufN (h : mH) (c n : Nat) (cd : Nat → Nat) : Prop := (h c = some (aO 0 [.ref (c + 1), .int (nI n)]) ∧ ∃ f : Nat → Nat, h (c + 1) = some (aI 60 (nf f)) ∧ ∀ j, j < n → f j = cd j) ∧ n ≤ 60 ∧ ∀ j, j < n → cd j ≤ 200
theorem BufN.go {h h1 : mH} {c a m n : Nat} {cd : Nat → Nat} (x : BufN h c n cd) (o : Out h h1 a m) (hd : c + 2 ≤ a ∨ a + m ≤ c) : BufN h1 c n cd := by
  obtain ⟨⟨x0, f, x1, x2⟩, x3⟩ := x
  exact ⟨⟨by rw [o _ (by omega)]; exact x0, f, by rw [o _ (by omega)]; exact x1, x2⟩, x3⟩
def lett (x : Nat) : Bool := decide (97 ≤ x ∧ x ≤ 104)
def addN (cd : Nat → Nat) (i : Nat) : Nat := if lett (cd i) = true then 1 else if 50 ≤ cd i ∧ cd i ≤ 57 ∧ 0 < i ∧ lett (cd (i - 1)) = true then cd i - 49 else 0
theorem addN_le (cd : Nat → Nat) (i : Nat) : addN cd i ≤ 8 := by
  unfold addN
  split
  · omega
  · split <;> omega
def errI (cd : Nat → Nat) (n : Nat) : Nat := upTo (fun i => decide (addN cd i ≠ 0 ∧ smN (addN cd) (i + 1) ≤ 40)) n
def whol (cd : Nat → Nat) (n : Nat) : Bool := decide (0 < n ∧ errI cd n = n)
/-- the sign of the letter told last, ahead of place i -/
def sgnL (cd : Nat → Nat) : Nat → Nat
  | 0 => 0
  | i + 1 => if lett (cd i) = true then cd i - 96 else sgnL cd i
/-- the signs of the text that is told -/
def tlN (cd : Nat → Nat) : Nat → Nat → Nat
  | 0 => fun _ => 0
  | i + 1 => fun j => if j < smN (addN cd) i then tlN cd i j else sgnL cd (i + 1)
theorem sgnL_le (cd : Nat → Nat) : ∀ i, sgnL cd i ≤ 8
  | 0 => Nat.zero_le _
  | i + 1 => by
    rw [sgnL]
    split
    · next q => simp [lett] at q; omega
    · exact sgnL_le cd i
theorem sgnL_y {cd : Nat → Nat} {i : Nat} (h : lett (cd i) = true) : sgnL cd (i + 1) = cd i - 96 := by rw [sgnL, if_pos h]
theorem sgnL_n {cd : Nat → Nat} {i : Nat} (h : lett (cd i) = false) : sgnL cd (i + 1) = sgnL cd i := by rw [sgnL, if_neg (by rw [h]; decide)]
theorem lett_is {x : Nat} (h : lett x = true) : 97 ≤ x ∧ x ≤ 104 := by simpa [lett] using h
set_option maxHeartbeats 4000000 in
set_option maxRecDepth 100000 in
theorem c_isLetter {X : mX} {h : mH} (x : Nat) (hx : x ≤ 200) : CnP X m_X0_isLetter [.int (nI x)] h (some (.int (bI (lett x)))) := by
  refine cn_of_ev (L0 := [_]) (by decide +kernel) rfl rfl (Nat.le_of_ble_eq_true rfl) rfl ?_
  refine ev_iload_n dX0_isLetter_0 rfl rfl ?_
  refine ev_bipush (nI 97) dX0_isLetter_1 rfl ?_
  refine ev_icmp_ltN 16 dX0_isLetter_3 rfl (by omega) (by omega) (fun hc3 => ?_) (fun hc3 => ?_)
  · refine ev_iconst (nI 0) dX0_isLetter_16 rfl ?_
    refine ev_zreturn dX0_isLetter_17 rfl (by first | rfl | exact bI_nar _) (Or.inl rfl) (Nat.zero_le _) (Nat.zero_le _) ?_
    first | (rw [lett, decide_eq_true (by omega)]; exact ⟨rfl, rfl⟩) | (rw [lett, decide_eq_false (by omega)]; exact ⟨rfl, rfl⟩)
  · refine ev_iload_n dX0_isLetter_6 rfl rfl ?_
    refine ev_bipush (nI 104) dX0_isLetter_7 rfl ?_
    refine ev_icmp_gtN 16 dX0_isLetter_9 rfl (by omega) (by omega) (fun hc9 => ?_) (fun hc9 => ?_)
    · refine ev_iconst (nI 0) dX0_isLetter_16 rfl ?_
      refine ev_zreturn dX0_isLetter_17 rfl (by first | rfl | exact bI_nar _) (Or.inl rfl) (Nat.zero_le _) (Nat.zero_le _) ?_
      first | (rw [lett, decide_eq_true (by omega)]; exact ⟨rfl, rfl⟩) | (rw [lett, decide_eq_false (by omega)]; exact ⟨rfl, rfl⟩)
    · refine ev_iconst (nI 1) dX0_isLetter_12 rfl ?_
      refine ev_goto 17 dX0_isLetter_13 rfl ?_
      refine ev_zreturn dX0_isLetter_17 rfl (by first | rfl | exact bI_nar _) (Or.inl rfl) (Nat.zero_le _) (Nat.zero_le _) ?_
      first | (rw [lett, decide_eq_true (by omega)]; exact ⟨rfl, rfl⟩) | (rw [lett, decide_eq_false (by omega)]; exact ⟨rfl, rfl⟩)
set_option maxHeartbeats 4000000 in
set_option maxRecDepth 100000 in
theorem c_Buf_clear {X : mX} {h : mH} {c n : Nat} {cd : Nat → Nat} (hb : BufN h c n cd) : CnU X m_X0_clear [.ref c] h (fun v h1 => v = none ∧ BufN h1 c 0 cd ∧ Out h h1 c 2) := by
  obtain ⟨⟨y0, f, y1, hf⟩, hn60, hcd⟩ := id hb
  refine cn_of_ev (L0 := [_]) (by decide +kernel) rfl rfl (Nat.le_of_ble_eq_true rfl) rfl ?_
  refine ev_aload_n dX0_clear_0 rfl rfl ?_
  refine ev_iconst (nI 0) dX0_clear_1 rfl ?_
  first | refine ev_putfield (fs' := [_, _]) dX0_clear_2 lf_0_15 rfl (y0) (Nat.le_of_ble_eq_true rfl) rfl rfl rfl ?_ | refine ev_putfield (fs' := [_, _]) dX0_clear_2 lf_0_15 rfl (y1) (Nat.le_of_ble_eq_true rfl) rfl rfl rfl ?_
  refine ev_return dX0_clear_5 rfl (Or.inl rfl) (Nat.zero_le _) (Nat.zero_le _) ?_
  exact ⟨_, rfl, rfl, ⟨⟨mset_s _ _ _, f, (mset_n (by omega)).trans y1, fun j hj => absurd hj (Nat.not_lt_zero j)⟩, by omega, fun j hj => absurd hj (Nat.not_lt_zero j)⟩, (Out.set (by omega) (by omega))⟩
set_option maxHeartbeats 4000000 in
set_option maxRecDepth 100000 in
theorem c_Buf_add {X : mX} {h : mH} {c n : Nat} {cd : Nat → Nat} (hb : BufN h c n cd) (hn : n < 60) (x : Nat) (hx : x ≤ 200) : CnU X m_X0_add [.ref c, .int (nI x)] h (fun v h1 => v = none ∧ BufN h1 c (n + 1) (upN cd n x) ∧ Out h h1 c 2) := by
  obtain ⟨⟨y0, f, y1, hf⟩, hn60, hcd⟩ := id hb
  refine cn_of_ev (L0 := [_, _]) (by decide +kernel) rfl rfl (Nat.le_of_ble_eq_true rfl) rfl ?_
  refine ev_aload_n dX0_add_0 rfl rfl ?_
  first | refine ev_getfield dX0_add_1 lf_0_15 (y0) rfl ?_ | refine ev_getfield dX0_add_1 lf_0_15 (y1) rfl ?_
  refine ev_bipush (nI 60) dX0_add_4 rfl ?_
  refine ev_icmp_geN 29 dX0_add_6 rfl (by omega) (by omega) (fun hc6 => ?_) (fun hc6 => ?_)
  · refine ev_pc (pc' := 29) rfl ?_
    exact absurd hc6 (by omega)
  · refine ev_pc (pc' := 9) rfl ?_
    refine ev_aload_n dX0_add_9 rfl rfl ?_
    first | refine ev_getfield dX0_add_10 lf_0_9 (y0) rfl ?_ | refine ev_getfield dX0_add_10 lf_0_9 (y1) rfl ?_
    refine ev_aload_n dX0_add_13 rfl rfl ?_
    first | refine ev_getfield dX0_add_14 lf_0_15 (y0) rfl ?_ | refine ev_getfield dX0_add_14 lf_0_15 (y1) rfl ?_
    refine ev_iload_n dX0_add_17 rfl rfl ?_
    first | refine ev_iastoreF dX0_add_18 (y0) (by omega) (by decide) ?_ | refine ev_iastoreF dX0_add_18 (y1) (by omega) (by decide) ?_
    refine ev_aload_n dX0_add_19 rfl rfl ?_
    refine ev_dup dX0_add_20 rfl ?_
    first | refine ev_getfield dX0_add_21 lf_0_15 (mset_s _ _ _) rfl ?_ | refine ev_getfield dX0_add_21 lf_0_15 ((mset_n (by omega)).trans (y0)) rfl ?_ | refine ev_getfield dX0_add_21 lf_0_15 ((mset_n (by omega)).trans (y1)) rfl ?_
    refine ev_iconst (nI 1) dX0_add_24 rfl ?_
    refine ev_iaddN dX0_add_25 ?_
    first | refine ev_putfield (fs' := [_, _]) dX0_add_26 lf_0_15 rfl (mset_s _ _ _) (Nat.le_of_ble_eq_true rfl) rfl rfl rfl ?_ | refine ev_putfield (fs' := [_, _]) dX0_add_26 lf_0_15 rfl ((mset_n (by omega)).trans (y0)) (Nat.le_of_ble_eq_true rfl) rfl rfl rfl ?_ | refine ev_putfield (fs' := [_, _]) dX0_add_26 lf_0_15 rfl ((mset_n (by omega)).trans (y1)) (Nat.le_of_ble_eq_true rfl) rfl rfl rfl ?_
    refine ev_return dX0_add_29 rfl (Or.inl rfl) (Nat.zero_le _) (Nat.zero_le _) ?_
    refine ⟨_, rfl, rfl, ⟨⟨mset_s _ _ _, _, (mset_n (by omega)).trans (mset_s _ _ _), fun j hj => ?_⟩, by omega, fun j hj => ?_⟩, ((Out.set (by omega) (by omega)).tr (Out.set (by omega) (by omega)))⟩
    · by_cases e : j = n
      · rw [e, upN_s, upN_s]
      · rw [upN_n e, upN_n e]; exact hf j (by omega)
    · by_cases e : j = n
      · rw [e, upN_s]; exact hx
      · rw [upN_n e]; exact hcd j (by omega)
set_option maxHeartbeats 4000000 in
set_option maxRecDepth 100000 in
theorem c_signsAddedAt {X : mX} {h : mH} {c n : Nat} {cd : Nat → Nat} (hb : BufN h c n cd) (i : Nat) (hi : i < n) : CnP X m_X0_signsAddedAt [.ref c, .int (nI i)] h (some (.int (nI (addN cd i)))) := by
  obtain ⟨⟨y0, f, y1, hf⟩, hn60, hcd⟩ := id hb
  refine cn_of_ev (L0 := [_, _, _, _]) (by decide +kernel) rfl rfl (Nat.le_of_ble_eq_true rfl) rfl ?_
  have hci := hcd i hi
  refine ev_aload_n dX0_signsAddedAt_0 rfl rfl ?_
  first | refine ev_getfield dX0_signsAddedAt_1 lf_0_9 (y0) rfl ?_ | refine ev_getfield dX0_signsAddedAt_1 lf_0_9 (y1) rfl ?_
  refine ev_iload_n dX0_signsAddedAt_4 rfl rfl ?_
  first | refine ev_ialoadF dX0_signsAddedAt_5 (y0) (by omega) (by decide) ?_ | refine ev_ialoadF dX0_signsAddedAt_5 (y1) (by omega) (by decide) ?_
  rw [hf i hi]
  refine ev_istore_n (L' := [_, _, _, _]) dX0_signsAddedAt_6 rfl (Nat.le_of_ble_eq_true rfl) rfl ?_
  refine ev_iload_n dX0_signsAddedAt_7 rfl rfl ?_
  refine ev_callSP1 dX0_signsAddedAt_8 cal_X0_isLetter lk_0_19 ⟨(Nat.le_of_ble_eq_true rfl), (Nat.le_of_ble_eq_true rfl)⟩ rfl (Nat.le_of_ble_eq_true rfl) (c_isLetter (cd i) hci) ?_
  refine ev_if_eqB 16 dX0_signsAddedAt_11 rfl (fun hc11 => ?_) (fun hc11 => ?_)
  · refine ev_iload_n dX0_signsAddedAt_16 rfl rfl ?_
    refine ev_bipush (nI 50) dX0_signsAddedAt_17 rfl ?_
    refine ev_icmp_ltN 32 dX0_signsAddedAt_19 rfl (by omega) (by omega) (fun hc19 => ?_) (fun hc19 => ?_)
    · refine ev_iconst (nI 0) dX0_signsAddedAt_32 rfl ?_
      refine ev_istore_n (L' := [_, _, _, _]) dX0_signsAddedAt_33 rfl (Nat.le_of_ble_eq_true rfl) rfl ?_
      refine ev_pc (pc' := 34) rfl ?_
      first
        | (have e50 : 50 ≤ cd i ∧ cd i ≤ 57 := ⟨hc19, hc25⟩
           refine ev_iload_n dX0_signsAddedAt_34 rfl rfl ?_
           refine ev_if_eqN 63 dX0_signsAddedAt_35 rfl (by omega) (fun hc35 => ?_) (fun hc35 => ?_)
           · refine ev_iconst (nI 0) dX0_signsAddedAt_63 rfl ?_
             refine ev_ireturn dX0_signsAddedAt_64 rfl (Or.inl rfl) (Nat.zero_le _) (Nat.zero_le _) ?_
             first
               | (rw [addN, if_neg (by rw [hc11]; decide), if_pos ⟨e50.1, e50.2, by omega, hc53⟩]; exact ⟨rfl, rfl⟩)
               | (rw [addN, if_neg (by rw [hc11]; decide), if_neg (fun z => by have := z.2.2.2; rw [hc53] at this; cases this)]; exact ⟨rfl, rfl⟩)
               | (rw [addN, if_neg (by rw [hc11]; decide), if_neg (fun z => by have := z.2.2.1; omega)]; exact ⟨rfl, rfl⟩)
           · refine ev_iload_n dX0_signsAddedAt_38 rfl rfl ?_
             refine ev_if_leN 63 dX0_signsAddedAt_39 rfl (by omega) (fun hc39 => ?_) (fun hc39 => ?_)
             · refine ev_iconst (nI 0) dX0_signsAddedAt_63 rfl ?_
               refine ev_ireturn dX0_signsAddedAt_64 rfl (Or.inl rfl) (Nat.zero_le _) (Nat.zero_le _) ?_
               first
                 | (rw [addN, if_neg (by rw [hc11]; decide), if_pos ⟨e50.1, e50.2, by omega, hc53⟩]; exact ⟨rfl, rfl⟩)
                 | (rw [addN, if_neg (by rw [hc11]; decide), if_neg (fun z => by have := z.2.2.2; rw [hc53] at this; cases this)]; exact ⟨rfl, rfl⟩)
                 | (rw [addN, if_neg (by rw [hc11]; decide), if_neg (fun z => by have := z.2.2.1; omega)]; exact ⟨rfl, rfl⟩)
             · refine ev_aload_n dX0_signsAddedAt_42 rfl rfl ?_
               first | refine ev_getfield dX0_signsAddedAt_43 lf_0_9 (y0) rfl ?_ | refine ev_getfield dX0_signsAddedAt_43 lf_0_9 (y1) rfl ?_
               refine ev_iload_n dX0_signsAddedAt_46 rfl rfl ?_
               refine ev_iconst (nI 1) dX0_signsAddedAt_47 rfl ?_
               refine ev_isubN dX0_signsAddedAt_48 (by omega) ?_
               first | refine ev_ialoadF dX0_signsAddedAt_49 (y0) (by omega) (by decide) ?_ | refine ev_ialoadF dX0_signsAddedAt_49 (y1) (by omega) (by decide) ?_
               rw [hf (i - 1) (by omega)]
               refine ev_callSP1 dX0_signsAddedAt_50 cal_X0_isLetter lk_0_19 ⟨(Nat.le_of_ble_eq_true rfl), (Nat.le_of_ble_eq_true rfl)⟩ rfl (Nat.le_of_ble_eq_true rfl) (c_isLetter (cd (i - 1)) (hcd (i - 1) (by omega))) ?_
               refine ev_if_eqB 63 dX0_signsAddedAt_53 rfl (fun hc53 => ?_) (fun hc53 => ?_)
               · refine ev_iconst (nI 0) dX0_signsAddedAt_63 rfl ?_
                 refine ev_ireturn dX0_signsAddedAt_64 rfl (Or.inl rfl) (Nat.zero_le _) (Nat.zero_le _) ?_
                 first
                   | (rw [addN, if_neg (by rw [hc11]; decide), if_pos ⟨e50.1, e50.2, by omega, hc53⟩]; exact ⟨rfl, rfl⟩)
                   | (rw [addN, if_neg (by rw [hc11]; decide), if_neg (fun z => by have := z.2.2.2; rw [hc53] at this; cases this)]; exact ⟨rfl, rfl⟩)
                   | (rw [addN, if_neg (by rw [hc11]; decide), if_neg (fun z => by have := z.2.2.1; omega)]; exact ⟨rfl, rfl⟩)
               · refine ev_iload_n dX0_signsAddedAt_56 rfl rfl ?_
                 refine ev_bipush (nI 49) dX0_signsAddedAt_57 rfl ?_
                 refine ev_isubN dX0_signsAddedAt_59 (by omega) ?_
                 refine ev_goto 64 dX0_signsAddedAt_60 rfl ?_
                 refine ev_ireturn dX0_signsAddedAt_64 rfl (Or.inl rfl) (Nat.zero_le _) (Nat.zero_le _) ?_
                 first
                   | (rw [addN, if_neg (by rw [hc11]; decide), if_pos ⟨e50.1, e50.2, by omega, hc53⟩]; exact ⟨rfl, rfl⟩)
                   | (rw [addN, if_neg (by rw [hc11]; decide), if_neg (fun z => by have := z.2.2.2; rw [hc53] at this; cases this)]; exact ⟨rfl, rfl⟩)
                   | (rw [addN, if_neg (by rw [hc11]; decide), if_neg (fun z => by have := z.2.2.1; omega)]; exact ⟨rfl, rfl⟩))
        | (have e50 : ¬ (50 ≤ cd i ∧ cd i ≤ 57) := by omega
           refine ev_iload_n dX0_signsAddedAt_34 rfl rfl ?_
           refine ev_if_eqN 63 dX0_signsAddedAt_35 rfl (by omega) (fun _ => ?_) (fun z => absurd rfl z)
           refine ev_iconst (nI 0) dX0_signsAddedAt_63 rfl ?_
           refine ev_ireturn dX0_signsAddedAt_64 rfl (Or.inl rfl) (Nat.zero_le _) (Nat.zero_le _) ?_
           rw [addN, if_neg (by rw [hc11]; decide), if_neg (fun z => e50 ⟨z.1, z.2.1⟩)]
           exact ⟨rfl, rfl⟩)
    · refine ev_iload_n dX0_signsAddedAt_22 rfl rfl ?_
      refine ev_bipush (nI 57) dX0_signsAddedAt_23 rfl ?_
      refine ev_icmp_gtN 32 dX0_signsAddedAt_25 rfl (by omega) (by omega) (fun hc25 => ?_) (fun hc25 => ?_)
      · refine ev_iconst (nI 0) dX0_signsAddedAt_32 rfl ?_
        refine ev_istore_n (L' := [_, _, _, _]) dX0_signsAddedAt_33 rfl (Nat.le_of_ble_eq_true rfl) rfl ?_
        refine ev_pc (pc' := 34) rfl ?_
        first
          | (have e50 : 50 ≤ cd i ∧ cd i ≤ 57 := ⟨hc19, hc25⟩
             refine ev_iload_n dX0_signsAddedAt_34 rfl rfl ?_
             refine ev_if_eqN 63 dX0_signsAddedAt_35 rfl (by omega) (fun hc35 => ?_) (fun hc35 => ?_)
             · refine ev_iconst (nI 0) dX0_signsAddedAt_63 rfl ?_
               refine ev_ireturn dX0_signsAddedAt_64 rfl (Or.inl rfl) (Nat.zero_le _) (Nat.zero_le _) ?_
               first
                 | (rw [addN, if_neg (by rw [hc11]; decide), if_pos ⟨e50.1, e50.2, by omega, hc53⟩]; exact ⟨rfl, rfl⟩)
                 | (rw [addN, if_neg (by rw [hc11]; decide), if_neg (fun z => by have := z.2.2.2; rw [hc53] at this; cases this)]; exact ⟨rfl, rfl⟩)
                 | (rw [addN, if_neg (by rw [hc11]; decide), if_neg (fun z => by have := z.2.2.1; omega)]; exact ⟨rfl, rfl⟩)
             · refine ev_iload_n dX0_signsAddedAt_38 rfl rfl ?_
               refine ev_if_leN 63 dX0_signsAddedAt_39 rfl (by omega) (fun hc39 => ?_) (fun hc39 => ?_)
               · refine ev_iconst (nI 0) dX0_signsAddedAt_63 rfl ?_
                 refine ev_ireturn dX0_signsAddedAt_64 rfl (Or.inl rfl) (Nat.zero_le _) (Nat.zero_le _) ?_
                 first
                   | (rw [addN, if_neg (by rw [hc11]; decide), if_pos ⟨e50.1, e50.2, by omega, hc53⟩]; exact ⟨rfl, rfl⟩)
                   | (rw [addN, if_neg (by rw [hc11]; decide), if_neg (fun z => by have := z.2.2.2; rw [hc53] at this; cases this)]; exact ⟨rfl, rfl⟩)
                   | (rw [addN, if_neg (by rw [hc11]; decide), if_neg (fun z => by have := z.2.2.1; omega)]; exact ⟨rfl, rfl⟩)
               · refine ev_aload_n dX0_signsAddedAt_42 rfl rfl ?_
                 first | refine ev_getfield dX0_signsAddedAt_43 lf_0_9 (y0) rfl ?_ | refine ev_getfield dX0_signsAddedAt_43 lf_0_9 (y1) rfl ?_
                 refine ev_iload_n dX0_signsAddedAt_46 rfl rfl ?_
                 refine ev_iconst (nI 1) dX0_signsAddedAt_47 rfl ?_
                 refine ev_isubN dX0_signsAddedAt_48 (by omega) ?_
                 first | refine ev_ialoadF dX0_signsAddedAt_49 (y0) (by omega) (by decide) ?_ | refine ev_ialoadF dX0_signsAddedAt_49 (y1) (by omega) (by decide) ?_
                 rw [hf (i - 1) (by omega)]
                 refine ev_callSP1 dX0_signsAddedAt_50 cal_X0_isLetter lk_0_19 ⟨(Nat.le_of_ble_eq_true rfl), (Nat.le_of_ble_eq_true rfl)⟩ rfl (Nat.le_of_ble_eq_true rfl) (c_isLetter (cd (i - 1)) (hcd (i - 1) (by omega))) ?_
                 refine ev_if_eqB 63 dX0_signsAddedAt_53 rfl (fun hc53 => ?_) (fun hc53 => ?_)
                 · refine ev_iconst (nI 0) dX0_signsAddedAt_63 rfl ?_
                   refine ev_ireturn dX0_signsAddedAt_64 rfl (Or.inl rfl) (Nat.zero_le _) (Nat.zero_le _) ?_
                   first
                     | (rw [addN, if_neg (by rw [hc11]; decide), if_pos ⟨e50.1, e50.2, by omega, hc53⟩]; exact ⟨rfl, rfl⟩)
                     | (rw [addN, if_neg (by rw [hc11]; decide), if_neg (fun z => by have := z.2.2.2; rw [hc53] at this; cases this)]; exact ⟨rfl, rfl⟩)
                     | (rw [addN, if_neg (by rw [hc11]; decide), if_neg (fun z => by have := z.2.2.1; omega)]; exact ⟨rfl, rfl⟩)
                 · refine ev_iload_n dX0_signsAddedAt_56 rfl rfl ?_
                   refine ev_bipush (nI 49) dX0_signsAddedAt_57 rfl ?_
                   refine ev_isubN dX0_signsAddedAt_59 (by omega) ?_
                   refine ev_goto 64 dX0_signsAddedAt_60 rfl ?_
                   refine ev_ireturn dX0_signsAddedAt_64 rfl (Or.inl rfl) (Nat.zero_le _) (Nat.zero_le _) ?_
                   first
                     | (rw [addN, if_neg (by rw [hc11]; decide), if_pos ⟨e50.1, e50.2, by omega, hc53⟩]; exact ⟨rfl, rfl⟩)
                     | (rw [addN, if_neg (by rw [hc11]; decide), if_neg (fun z => by have := z.2.2.2; rw [hc53] at this; cases this)]; exact ⟨rfl, rfl⟩)
                     | (rw [addN, if_neg (by rw [hc11]; decide), if_neg (fun z => by have := z.2.2.1; omega)]; exact ⟨rfl, rfl⟩))
          | (have e50 : ¬ (50 ≤ cd i ∧ cd i ≤ 57) := by omega
             refine ev_iload_n dX0_signsAddedAt_34 rfl rfl ?_
             refine ev_if_eqN 63 dX0_signsAddedAt_35 rfl (by omega) (fun _ => ?_) (fun z => absurd rfl z)
             refine ev_iconst (nI 0) dX0_signsAddedAt_63 rfl ?_
             refine ev_ireturn dX0_signsAddedAt_64 rfl (Or.inl rfl) (Nat.zero_le _) (Nat.zero_le _) ?_
             rw [addN, if_neg (by rw [hc11]; decide), if_neg (fun z => e50 ⟨z.1, z.2.1⟩)]
             exact ⟨rfl, rfl⟩)
      · refine ev_iconst (nI 1) dX0_signsAddedAt_28 rfl ?_
        refine ev_goto 33 dX0_signsAddedAt_29 rfl ?_
        refine ev_istore_n (L' := [_, _, _, _]) dX0_signsAddedAt_33 rfl (Nat.le_of_ble_eq_true rfl) rfl ?_
        refine ev_pc (pc' := 34) rfl ?_
        first
          | (have e50 : 50 ≤ cd i ∧ cd i ≤ 57 := ⟨hc19, hc25⟩
             refine ev_iload_n dX0_signsAddedAt_34 rfl rfl ?_
             refine ev_if_eqN 63 dX0_signsAddedAt_35 rfl (by omega) (fun hc35 => ?_) (fun hc35 => ?_)
             · refine ev_iconst (nI 0) dX0_signsAddedAt_63 rfl ?_
               refine ev_ireturn dX0_signsAddedAt_64 rfl (Or.inl rfl) (Nat.zero_le _) (Nat.zero_le _) ?_
               first
                 | (rw [addN, if_neg (by rw [hc11]; decide), if_pos ⟨e50.1, e50.2, by omega, hc53⟩]; exact ⟨rfl, rfl⟩)
                 | (rw [addN, if_neg (by rw [hc11]; decide), if_neg (fun z => by have := z.2.2.2; rw [hc53] at this; cases this)]; exact ⟨rfl, rfl⟩)
                 | (rw [addN, if_neg (by rw [hc11]; decide), if_neg (fun z => by have := z.2.2.1; omega)]; exact ⟨rfl, rfl⟩)
             · refine ev_iload_n dX0_signsAddedAt_38 rfl rfl ?_
               refine ev_if_leN 63 dX0_signsAddedAt_39 rfl (by omega) (fun hc39 => ?_) (fun hc39 => ?_)
               · refine ev_iconst (nI 0) dX0_signsAddedAt_63 rfl ?_
                 refine ev_ireturn dX0_signsAddedAt_64 rfl (Or.inl rfl) (Nat.zero_le _) (Nat.zero_le _) ?_
                 first
                   | (rw [addN, if_neg (by rw [hc11]; decide), if_pos ⟨e50.1, e50.2, by omega, hc53⟩]; exact ⟨rfl, rfl⟩)
                   | (rw [addN, if_neg (by rw [hc11]; decide), if_neg (fun z => by have := z.2.2.2; rw [hc53] at this; cases this)]; exact ⟨rfl, rfl⟩)
                   | (rw [addN, if_neg (by rw [hc11]; decide), if_neg (fun z => by have := z.2.2.1; omega)]; exact ⟨rfl, rfl⟩)
               · refine ev_aload_n dX0_signsAddedAt_42 rfl rfl ?_
                 first | refine ev_getfield dX0_signsAddedAt_43 lf_0_9 (y0) rfl ?_ | refine ev_getfield dX0_signsAddedAt_43 lf_0_9 (y1) rfl ?_
                 refine ev_iload_n dX0_signsAddedAt_46 rfl rfl ?_
                 refine ev_iconst (nI 1) dX0_signsAddedAt_47 rfl ?_
                 refine ev_isubN dX0_signsAddedAt_48 (by omega) ?_
                 first | refine ev_ialoadF dX0_signsAddedAt_49 (y0) (by omega) (by decide) ?_ | refine ev_ialoadF dX0_signsAddedAt_49 (y1) (by omega) (by decide) ?_
                 rw [hf (i - 1) (by omega)]
                 refine ev_callSP1 dX0_signsAddedAt_50 cal_X0_isLetter lk_0_19 ⟨(Nat.le_of_ble_eq_true rfl), (Nat.le_of_ble_eq_true rfl)⟩ rfl (Nat.le_of_ble_eq_true rfl) (c_isLetter (cd (i - 1)) (hcd (i - 1) (by omega))) ?_
                 refine ev_if_eqB 63 dX0_signsAddedAt_53 rfl (fun hc53 => ?_) (fun hc53 => ?_)
                 · refine ev_iconst (nI 0) dX0_signsAddedAt_63 rfl ?_
                   refine ev_ireturn dX0_signsAddedAt_64 rfl (Or.inl rfl) (Nat.zero_le _) (Nat.zero_le _) ?_
                   first
                     | (rw [addN, if_neg (by rw [hc11]; decide), if_pos ⟨e50.1, e50.2, by omega, hc53⟩]; exact ⟨rfl, rfl⟩)
                     | (rw [addN, if_neg (by rw [hc11]; decide), if_neg (fun z => by have := z.2.2.2; rw [hc53] at this; cases this)]; exact ⟨rfl, rfl⟩)
                     | (rw [addN, if_neg (by rw [hc11]; decide), if_neg (fun z => by have := z.2.2.1; omega)]; exact ⟨rfl, rfl⟩)
                 · refine ev_iload_n dX0_signsAddedAt_56 rfl rfl ?_
                   refine ev_bipush (nI 49) dX0_signsAddedAt_57 rfl ?_
                   refine ev_isubN dX0_signsAddedAt_59 (by omega) ?_
                   refine ev_goto 64 dX0_signsAddedAt_60 rfl ?_
                   refine ev_ireturn dX0_signsAddedAt_64 rfl (Or.inl rfl) (Nat.zero_le _) (Nat.zero_le _) ?_
                   first
                     | (rw [addN, if_neg (by rw [hc11]; decide), if_pos ⟨e50.1, e50.2, by omega, hc53⟩]; exact ⟨rfl, rfl⟩)
                     | (rw [addN, if_neg (by rw [hc11]; decide), if_neg (fun z => by have := z.2.2.2; rw [hc53] at this; cases this)]; exact ⟨rfl, rfl⟩)
                     | (rw [addN, if_neg (by rw [hc11]; decide), if_neg (fun z => by have := z.2.2.1; omega)]; exact ⟨rfl, rfl⟩))
          | (have e50 : ¬ (50 ≤ cd i ∧ cd i ≤ 57) := by omega
             refine ev_iload_n dX0_signsAddedAt_34 rfl rfl ?_
             refine ev_if_eqN 63 dX0_signsAddedAt_35 rfl (by omega) (fun _ => ?_) (fun z => absurd rfl z)
             refine ev_iconst (nI 0) dX0_signsAddedAt_63 rfl ?_
             refine ev_ireturn dX0_signsAddedAt_64 rfl (Or.inl rfl) (Nat.zero_le _) (Nat.zero_le _) ?_
             rw [addN, if_neg (by rw [hc11]; decide), if_neg (fun z => e50 ⟨z.1, z.2.1⟩)]
             exact ⟨rfl, rfl⟩)
  · refine ev_iconst (nI 1) dX0_signsAddedAt_14 rfl ?_
    refine ev_ireturn dX0_signsAddedAt_15 rfl (Or.inl rfl) (Nat.zero_le _) (Nat.zero_le _) ?_
    rw [addN, if_pos hc11]
    exact ⟨rfl, rfl⟩
set_option maxHeartbeats 4000000 in
set_option maxRecDepth 100000 in
theorem c_errorIndex {X : mX} {h : mH} {c n : Nat} {cd : Nat → Nat} (hb : BufN h c n cd) : CnP X m_X0_errorIndex [.ref c] h (some (.int (nI (errI cd n)))) := by
  obtain ⟨⟨y0, f, y1, hf⟩, hn60, hcd⟩ := id hb
  refine cn_of_ev (L0 := [_, _, _, _]) (by decide +kernel) rfl rfl (Nat.le_of_ble_eq_true rfl) rfl ?_
  refine ev_iconst (nI 0) dX0_errorIndex_0 rfl ?_
  refine ev_istore_n (L' := [_, _, _, _]) dX0_errorIndex_1 rfl (Nat.le_of_ble_eq_true rfl) rfl ?_
  refine ev_iconst (nI 0) dX0_errorIndex_2 rfl ?_
  refine ev_istore_n (L' := [_, _, _, _]) dX0_errorIndex_3 rfl (Nat.le_of_ble_eq_true rfl) rfl ?_
  refine ev_pc (pc' := 4) rfl ?_
  have LP4 : ∀ (mz : Nat) (k : Nat), n - k = mz → (k ≤ n) → (∀ q, q < k → addN cd q ≠ 0 ∧ smN (addN cd) (q + 1) ≤ 40) → (smN (addN cd) k ≤ 40) → Ev X m_X0_errorIndex B0 4 [.ref c, .int (nI (smN (addN cd) k)), .int (nI k), jk] [] h (fun o h1 => o = .inl (some (.int (nI (errI cd n)))) ∧ h1 = h) := by
    intro mz
    induction mz using Nat.strongRecOn with
    | _ mz ih =>
      intro k hmz hk hal hsm
      have ha8 := addN_le cd k
      have hss : smN (addN cd) (k + 1) = smN (addN cd) k + addN cd k := rfl
      refine ev_iload_n dX0_errorIndex_4 rfl rfl ?_
      refine ev_aload_n dX0_errorIndex_5 rfl rfl ?_
      first | refine ev_getfield dX0_errorIndex_6 lf_0_15 (y0) rfl ?_ | refine ev_getfield dX0_errorIndex_6 lf_0_15 (y1) rfl ?_
      refine ev_icmp_geN 40 dX0_errorIndex_9 rfl (by omega) (by omega) (fun hc9 => ?_) (fun hc9 => ?_)
      · refine ev_aload_n dX0_errorIndex_40 rfl rfl ?_
        first | refine ev_getfield dX0_errorIndex_41 lf_0_15 (y0) rfl ?_ | refine ev_getfield dX0_errorIndex_41 lf_0_15 (y1) rfl ?_
        refine ev_ireturn dX0_errorIndex_44 rfl (Or.inl rfl) (Nat.zero_le _) (Nat.zero_le _) ?_
        rw [errI, upTo_all (fun q hq => by simpa using hal q (by omega))]
        exact ⟨rfl, rfl⟩
      · refine ev_aload_n dX0_errorIndex_12 rfl rfl ?_
        refine ev_iload_n dX0_errorIndex_13 rfl rfl ?_
        first | refine ev_callVP1 dX0_errorIndex_14 cal_X0_signsAddedAt lk_0_23 ⟨(Nat.le_of_ble_eq_true rfl), (Nat.le_of_ble_eq_true rfl)⟩ rfl (y0) (Nat.le_of_ble_eq_true rfl) (c_signsAddedAt hb k (by omega)) ?_ | refine ev_callVP1 dX0_errorIndex_14 cal_X0_signsAddedAt lk_0_23 ⟨(Nat.le_of_ble_eq_true rfl), (Nat.le_of_ble_eq_true rfl)⟩ rfl (y1) (Nat.le_of_ble_eq_true rfl) (c_signsAddedAt hb k (by omega)) ?_
        refine ev_istore_n (L' := [_, _, _, _]) dX0_errorIndex_17 rfl (Nat.le_of_ble_eq_true rfl) rfl ?_
        refine ev_iload_n dX0_errorIndex_18 rfl rfl ?_
        refine ev_iload_n dX0_errorIndex_19 rfl rfl ?_
        refine ev_iaddN dX0_errorIndex_20 ?_
        refine ev_istore_n (L' := [_, _, _, _]) dX0_errorIndex_21 rfl (Nat.le_of_ble_eq_true rfl) rfl ?_
        refine ev_iload_n dX0_errorIndex_22 rfl rfl ?_
        refine ev_if_eqN 32 dX0_errorIndex_23 rfl (by omega) (fun hc23 => ?_) (fun hc23 => ?_)
        · refine ev_iload_n dX0_errorIndex_32 rfl rfl ?_
          refine ev_ireturn dX0_errorIndex_33 rfl (Or.inl rfl) (Nat.zero_le _) (Nat.zero_le _) ?_
          rw [errI, upTo_stop (k := k) (by omega) (fun q hq => by simpa using hal q hq) (decide_eq_false (by omega))]
          exact ⟨rfl, rfl⟩
        · refine ev_iload_n dX0_errorIndex_26 rfl rfl ?_
          refine ev_bipush (nI 40) dX0_errorIndex_27 rfl ?_
          refine ev_icmp_leN 34 dX0_errorIndex_29 rfl (by omega) (by omega) (fun hc29 => ?_) (fun hc29 => ?_)
          · refine ev_iincN (L' := [_, _, _, _]) 1 dX0_errorIndex_34 rfl rfl ?_
            refine ev_goto 4 dX0_errorIndex_37 rfl ?_
            refine ev_pc (pc' := 4) rfl ?_
            refine ev_fgt 3 (L' := [_, _, _, _]) rfl ?_
            refine ih _ (by omega) (k + 1) rfl (by omega) (fun q hq => ?_) (by omega)
            rcases Nat.lt_succ_iff_lt_or_eq.mp hq with z | z
            · exact hal q z
            · rw [z]; exact ⟨hc23, by omega⟩
          · refine ev_iload_n dX0_errorIndex_32 rfl rfl ?_
            refine ev_ireturn dX0_errorIndex_33 rfl (Or.inl rfl) (Nat.zero_le _) (Nat.zero_le _) ?_
            rw [errI, upTo_stop (k := k) (by omega) (fun q hq => by simpa using hal q hq) (decide_eq_false (by omega))]
            exact ⟨rfl, rfl⟩
  exact LP4 _ 0 rfl (Nat.zero_le _) (fun q hq => absurd hq (Nat.not_lt_zero q)) (Nat.zero_le _)
set_option maxHeartbeats 4000000 in
set_option maxRecDepth 100000 in
theorem c_isComplete {X : mX} {h : mH} {c n : Nat} {cd : Nat → Nat} (hb : BufN h c n cd) : CnP X m_X0_isComplete [.ref c] h (some (.int (bI (whol cd n)))) := by
  obtain ⟨⟨y0, f, y1, hf⟩, hn60, hcd⟩ := id hb
  refine cn_of_ev (L0 := [_]) (by decide +kernel) rfl rfl (Nat.le_of_ble_eq_true rfl) rfl ?_
  have he : errI cd n ≤ n := upTo_le _ _
  refine ev_aload_n dX0_isComplete_0 rfl rfl ?_
  first | refine ev_getfield dX0_isComplete_1 lf_0_15 (y0) rfl ?_ | refine ev_getfield dX0_isComplete_1 lf_0_15 (y1) rfl ?_
  refine ev_if_leN 22 dX0_isComplete_4 rfl (by omega) (fun hc4 => ?_) (fun hc4 => ?_)
  · refine ev_iconst (nI 0) dX0_isComplete_22 rfl ?_
    refine ev_zreturn dX0_isComplete_23 rfl (by first | rfl | exact bI_nar _) (Or.inl rfl) (Nat.zero_le _) (Nat.zero_le _) ?_
    first | (rw [whol, decide_eq_true (by omega)]; exact ⟨rfl, rfl⟩) | (rw [whol, decide_eq_false (by omega)]; exact ⟨rfl, rfl⟩)
  · refine ev_aload_n dX0_isComplete_7 rfl rfl ?_
    first | refine ev_callVP0 dX0_isComplete_8 cal_X0_errorIndex lk_0_27 ⟨(Nat.le_of_ble_eq_true rfl), (Nat.le_of_ble_eq_true rfl)⟩ rfl (y0) (Nat.le_of_ble_eq_true rfl) (c_errorIndex hb) ?_ | refine ev_callVP0 dX0_isComplete_8 cal_X0_errorIndex lk_0_27 ⟨(Nat.le_of_ble_eq_true rfl), (Nat.le_of_ble_eq_true rfl)⟩ rfl (y1) (Nat.le_of_ble_eq_true rfl) (c_errorIndex hb) ?_
    refine ev_aload_n dX0_isComplete_11 rfl rfl ?_
    first | refine ev_getfield dX0_isComplete_12 lf_0_15 (y0) rfl ?_ | refine ev_getfield dX0_isComplete_12 lf_0_15 (y1) rfl ?_
    refine ev_icmp_neN 22 dX0_isComplete_15 rfl (by omega) (by omega) (fun hc15 => ?_) (fun hc15 => ?_)
    · refine ev_iconst (nI 0) dX0_isComplete_22 rfl ?_
      refine ev_zreturn dX0_isComplete_23 rfl (by first | rfl | exact bI_nar _) (Or.inl rfl) (Nat.zero_le _) (Nat.zero_le _) ?_
      first | (rw [whol, decide_eq_true (by omega)]; exact ⟨rfl, rfl⟩) | (rw [whol, decide_eq_false (by omega)]; exact ⟨rfl, rfl⟩)
    · refine ev_iconst (nI 1) dX0_isComplete_18 rfl ?_
      refine ev_goto 23 dX0_isComplete_19 rfl ?_
      refine ev_zreturn dX0_isComplete_23 rfl (by first | rfl | exact bI_nar _) (Or.inl rfl) (Nat.zero_le _) (Nat.zero_le _) ?_
      first | (rw [whol, decide_eq_true (by omega)]; exact ⟨rfl, rfl⟩) | (rw [whol, decide_eq_false (by omega)]; exact ⟨rfl, rfl⟩)
theorem catF_tl {cd s : Nat → Nat} {a i t j : Nat} (h : j < a + smN (addN cd) i + (t + 1)) : catF a s (tlN cd (i + 1)) j = upN (catF a s (tlN cd (i + 1))) (a + smN (addN cd) i + t) (sgnL cd (i + 1)) j := by
  by_cases e : j = a + smN (addN cd) i + t
  · rw [e, upN_s, catF_ge (by omega)]
    exact if_neg (by omega)
  · rw [upN_n e]
theorem catF_tl0 {cd s : Nat → Nat} {a i j : Nat} (h : j < a + smN (addN cd) i) : catF a s (tlN cd (i + 1)) j = catF a s (tlN cd i) j := by
  by_cases e : j < a
  · rw [catF_lt e, catF_lt e]
  · rw [catF_ge (by omega), catF_ge (by omega)]
    exact if_pos (by omega)
set_option maxHeartbeats 4000000 in
set_option maxRecDepth 100000 in
theorem c_readInto {X : mX} {h : mH} {c d n a : Nat} {cd s : Nat → Nat} (hb : BufN h c n cd) (hc : CutN h d (rawK a s)) (hdj : c + 2 ≤ d ∨ d + 6 ≤ c) (hn : a + smN (addN cd) n ≤ 40) : CnU X m_X0_readInto [.ref c, .ref d] h (fun v h1 => v = none ∧ CutN h1 d (rawK (a + smN (addN cd) n) (catF a s (tlN cd n))) ∧ Out h h1 d 6) := by
  refine cn_of_ev (L0 := [_, _, _, _, _, _]) (by decide +kernel) rfl rfl (Nat.le_of_ble_eq_true rfl) rfl ?_
  refine ev_iconst (nI 0) dX0_readInto_0 rfl ?_
  refine ev_istore_n (L' := [_, _, _, _, _, _]) dX0_readInto_1 rfl (Nat.le_of_ble_eq_true rfl) rfl ?_
  refine ev_iconst (nI 0) dX0_readInto_2 rfl ?_
  refine ev_istore_n (L' := [_, _, _, _, _, _]) dX0_readInto_3 rfl (Nat.le_of_ble_eq_true rfl) rfl ?_
  refine ev_pc (pc' := 4) rfl ?_
  have LP4 : ∀ (mz : Nat) (k : Nat) (h2 : mH), n - k = mz → (k ≤ n) → (CutN h2 d (rawK (a + smN (addN cd) k) (catF a s (tlN cd k)))) → (Out h h2 d 6) → Ev X m_X0_readInto B0 4 [.ref c, .ref d, .int (nI (sgnL cd k)), .int (nI k), jk, jk] [] h2 (fun o h1 => ∃ v, o = .inl v ∧ (v = none ∧ CutN h1 d (rawK (a + smN (addN cd) n) (catF a s (tlN cd n))) ∧ Out h h1 d 6)) := by
    intro mz
    induction mz using Nat.strongRecOn with
    | _ mz ih =>
      intro k h2 hmz hk hc2 ho
      have hb2 := hb.go ho (by omega)
      obtain ⟨⟨y0, f, y1, hf⟩, hn60, hcd⟩ := id hb2
      obtain ⟨-, -, -, -, -, ⟨x0, -, -, -, -, -⟩, -, -, -, -⟩ := id hc2
      refine ev_iload_n dX0_readInto_4 rfl rfl ?_
      refine ev_aload_n dX0_readInto_5 rfl rfl ?_
      first | refine ev_getfield dX0_readInto_6 lf_0_15 (y0) rfl ?_ | refine ev_getfield dX0_readInto_6 lf_0_15 (y1) rfl ?_ | refine ev_getfield dX0_readInto_6 lf_0_15 (x0) rfl ?_
      refine ev_icmp_geN 70 dX0_readInto_9 rfl (by omega) (by omega) (fun hc9 => ?_) (fun hc9 => ?_)
      · refine ev_return dX0_readInto_70 rfl (Or.inl rfl) (Nat.zero_le _) (Nat.zero_le _) ?_
        rw [show n = k by omega]
        exact ⟨none, rfl, rfl, hc2, ho⟩
      · refine ev_aload_n dX0_readInto_12 rfl rfl ?_
        first | refine ev_getfield dX0_readInto_13 lf_0_9 (y0) rfl ?_ | refine ev_getfield dX0_readInto_13 lf_0_9 (y1) rfl ?_ | refine ev_getfield dX0_readInto_13 lf_0_9 (x0) rfl ?_
        refine ev_iload_n dX0_readInto_16 rfl rfl ?_
        first | refine ev_ialoadF dX0_readInto_17 (y0) (by omega) (by decide) ?_ | refine ev_ialoadF dX0_readInto_17 (y1) (by omega) (by decide) ?_ | refine ev_ialoadF dX0_readInto_17 (x0) (by omega) (by decide) ?_
        rw [hf k (by omega)]
        refine ev_callSP1 dX0_readInto_18 cal_X0_isLetter lk_0_19 ⟨(Nat.le_of_ble_eq_true rfl), (Nat.le_of_ble_eq_true rfl)⟩ rfl (Nat.le_of_ble_eq_true rfl) (c_isLetter (cd k) (hcd k (by omega))) ?_
        refine ev_if_eqB 36 dX0_readInto_21 rfl (fun hc21 => ?_) (fun hc21 => ?_)
        · refine ev_pc (pc' := 36) rfl ?_
          have hmono : smN (addN cd) (k + 1) ≤ smN (addN cd) n := smN_mono _ (by omega)
          have hss : smN (addN cd) (k + 1) = smN (addN cd) k + addN cd k := rfl
          have ihk := ih
          clear ih
          refine ev_L (L' := [.ref c, .ref d, .int (nI (sgnL cd (k + 1))), .int (nI k), jk, jk]) (by first | (rw [sgnL_y hc21, show cd k - 97 + 1 = cd k - 96 by omega]; done) | (rw [sgnL_n hc21]; done)) rfl ?_
          refine ev_aload_n dX0_readInto_36 rfl rfl ?_
          refine ev_iload_n dX0_readInto_37 rfl rfl ?_
          first | refine ev_callVP1 dX0_readInto_38 cal_X0_signsAddedAt lk_0_23 ⟨(Nat.le_of_ble_eq_true rfl), (Nat.le_of_ble_eq_true rfl)⟩ rfl (y0) (Nat.le_of_ble_eq_true rfl) (c_signsAddedAt hb2 k (by omega)) ?_ | refine ev_callVP1 dX0_readInto_38 cal_X0_signsAddedAt lk_0_23 ⟨(Nat.le_of_ble_eq_true rfl), (Nat.le_of_ble_eq_true rfl)⟩ rfl (y1) (Nat.le_of_ble_eq_true rfl) (c_signsAddedAt hb2 k (by omega)) ?_ | refine ev_callVP1 dX0_readInto_38 cal_X0_signsAddedAt lk_0_23 ⟨(Nat.le_of_ble_eq_true rfl), (Nat.le_of_ble_eq_true rfl)⟩ rfl (x0) (Nat.le_of_ble_eq_true rfl) (c_signsAddedAt hb2 k (by omega)) ?_
          refine ev_istore (L' := [_, _, _, _, _, _]) dX0_readInto_41 (Nat.le_of_ble_eq_true rfl) rfl ?_
          refine ev_iconst (nI 0) dX0_readInto_43 rfl ?_
          refine ev_istore (L' := [_, _, _, _, _, _]) dX0_readInto_44 (Nat.le_of_ble_eq_true rfl) rfl ?_
          refine ev_pc (pc' := 46) rfl ?_
          have LP46 : ∀ (mz : Nat) (t : Nat) (h3 : mH), addN cd k - t = mz → (t ≤ addN cd k) → (CutN h3 d (rawK (a + smN (addN cd) k + t) (catF a s (tlN cd (k + 1))))) → (Out h h3 d 6) → Ev X m_X0_readInto B0 46 [.ref c, .ref d, .int (nI (sgnL cd (k + 1))), .int (nI k), .int (nI (addN cd k)), .int (nI t)] [] h3 (fun o h1 => ∃ v, o = .inl v ∧ (v = none ∧ CutN h1 d (rawK (a + smN (addN cd) n) (catF a s (tlN cd n))) ∧ Out h h1 d 6)) := by
            intro mz
            induction mz using Nat.strongRecOn with
            | _ mz ih =>
              intro t h3 hmz ht hc3 ho3
              obtain ⟨-, -, -, -, -, ⟨z0, -, -, -, -, -⟩, -, -, -, -⟩ := id hc3
              refine ev_iload dX0_readInto_46 rfl ?_
              refine ev_iload dX0_readInto_48 rfl ?_
              refine ev_icmp_geN 64 dX0_readInto_50 rfl (by omega) (by omega) (fun hc50 => ?_) (fun hc50 => ?_)
              · refine ev_pc (pc' := 64) rfl ?_
                have et : addN cd k = t := by omega
                refine ev_iincN (L' := [_, _, _, _, _, _]) 1 dX0_readInto_64 rfl rfl ?_
                refine ev_goto 4 dX0_readInto_67 rfl ?_
                refine ev_fgt 4 (L' := [_, _, _, _, _, _]) rfl ?_
                refine ev_fgt 5 (L' := [_, _, _, _, _, _]) rfl ?_
                exact ihk _ (by omega) (k + 1) _ rfl (by omega) (by rw [smN, ← Nat.add_assoc, et]; exact hc3) ho3
              · refine ev_aload_n dX0_readInto_53 rfl rfl ?_
                refine ev_iload_n dX0_readInto_54 rfl rfl ?_
                refine ev_callVU1 dX0_readInto_55 cal_X1_addSign lk_0_31 ⟨(Nat.le_of_ble_eq_true rfl), (Nat.le_of_ble_eq_true rfl)⟩ rfl (z0) (Nat.le_of_ble_eq_true rfl) (c_addSign hc3 (by omega) (sgnL cd (k + 1)) (sgnL_le cd (k + 1))) (fun v h55 hq55 => ?_)
                refine ev_pc (pc' := 58) rfl ?_
                obtain ⟨rfl, hc4, ho4⟩ := hq55
                refine ev_iincN (L' := [_, _, _, _, _, _]) 1 dX0_readInto_58 rfl rfl ?_
                refine ev_goto 46 dX0_readInto_61 rfl ?_
                exact ih _ (by omega) (t + 1) _ rfl (by omega) (hc4.ext (fun j hj => catF_tl hj)) (ho3.tr ho4)
          exact LP46 _ 0 h2 rfl (Nat.zero_le _) (hc2.ext (fun j hj => catF_tl0 hj)) ho
        · refine ev_aload_n dX0_readInto_24 rfl rfl ?_
          first | refine ev_getfield dX0_readInto_25 lf_0_9 (y0) rfl ?_ | refine ev_getfield dX0_readInto_25 lf_0_9 (y1) rfl ?_ | refine ev_getfield dX0_readInto_25 lf_0_9 (x0) rfl ?_
          refine ev_iload_n dX0_readInto_28 rfl rfl ?_
          first | refine ev_ialoadF dX0_readInto_29 (y0) (by omega) (by decide) ?_ | refine ev_ialoadF dX0_readInto_29 (y1) (by omega) (by decide) ?_ | refine ev_ialoadF dX0_readInto_29 (x0) (by omega) (by decide) ?_
          have hlt := lett_is hc21
          rw [hf k (by omega)]
          refine ev_bipush (nI 97) dX0_readInto_30 rfl ?_
          refine ev_isubN dX0_readInto_32 (by omega) ?_
          refine ev_iconst (nI 1) dX0_readInto_33 rfl ?_
          refine ev_iaddN dX0_readInto_34 ?_
          refine ev_istore_n (L' := [_, _, _, _, _, _]) dX0_readInto_35 rfl (Nat.le_of_ble_eq_true rfl) rfl ?_
          refine ev_pc (pc' := 36) rfl ?_
          have hmono : smN (addN cd) (k + 1) ≤ smN (addN cd) n := smN_mono _ (by omega)
          have hss : smN (addN cd) (k + 1) = smN (addN cd) k + addN cd k := rfl
          have ihk := ih
          clear ih
          refine ev_L (L' := [.ref c, .ref d, .int (nI (sgnL cd (k + 1))), .int (nI k), jk, jk]) (by first | (rw [sgnL_y hc21, show cd k - 97 + 1 = cd k - 96 by omega]; done) | (rw [sgnL_n hc21]; done)) rfl ?_
          refine ev_aload_n dX0_readInto_36 rfl rfl ?_
          refine ev_iload_n dX0_readInto_37 rfl rfl ?_
          first | refine ev_callVP1 dX0_readInto_38 cal_X0_signsAddedAt lk_0_23 ⟨(Nat.le_of_ble_eq_true rfl), (Nat.le_of_ble_eq_true rfl)⟩ rfl (y0) (Nat.le_of_ble_eq_true rfl) (c_signsAddedAt hb2 k (by omega)) ?_ | refine ev_callVP1 dX0_readInto_38 cal_X0_signsAddedAt lk_0_23 ⟨(Nat.le_of_ble_eq_true rfl), (Nat.le_of_ble_eq_true rfl)⟩ rfl (y1) (Nat.le_of_ble_eq_true rfl) (c_signsAddedAt hb2 k (by omega)) ?_ | refine ev_callVP1 dX0_readInto_38 cal_X0_signsAddedAt lk_0_23 ⟨(Nat.le_of_ble_eq_true rfl), (Nat.le_of_ble_eq_true rfl)⟩ rfl (x0) (Nat.le_of_ble_eq_true rfl) (c_signsAddedAt hb2 k (by omega)) ?_
          refine ev_istore (L' := [_, _, _, _, _, _]) dX0_readInto_41 (Nat.le_of_ble_eq_true rfl) rfl ?_
          refine ev_iconst (nI 0) dX0_readInto_43 rfl ?_
          refine ev_istore (L' := [_, _, _, _, _, _]) dX0_readInto_44 (Nat.le_of_ble_eq_true rfl) rfl ?_
          refine ev_pc (pc' := 46) rfl ?_
          have LP46 : ∀ (mz : Nat) (t : Nat) (h3 : mH), addN cd k - t = mz → (t ≤ addN cd k) → (CutN h3 d (rawK (a + smN (addN cd) k + t) (catF a s (tlN cd (k + 1))))) → (Out h h3 d 6) → Ev X m_X0_readInto B0 46 [.ref c, .ref d, .int (nI (sgnL cd (k + 1))), .int (nI k), .int (nI (addN cd k)), .int (nI t)] [] h3 (fun o h1 => ∃ v, o = .inl v ∧ (v = none ∧ CutN h1 d (rawK (a + smN (addN cd) n) (catF a s (tlN cd n))) ∧ Out h h1 d 6)) := by
            intro mz
            induction mz using Nat.strongRecOn with
            | _ mz ih =>
              intro t h3 hmz ht hc3 ho3
              obtain ⟨-, -, -, -, -, ⟨z0, -, -, -, -, -⟩, -, -, -, -⟩ := id hc3
              refine ev_iload dX0_readInto_46 rfl ?_
              refine ev_iload dX0_readInto_48 rfl ?_
              refine ev_icmp_geN 64 dX0_readInto_50 rfl (by omega) (by omega) (fun hc50 => ?_) (fun hc50 => ?_)
              · refine ev_pc (pc' := 64) rfl ?_
                have et : addN cd k = t := by omega
                refine ev_iincN (L' := [_, _, _, _, _, _]) 1 dX0_readInto_64 rfl rfl ?_
                refine ev_goto 4 dX0_readInto_67 rfl ?_
                refine ev_fgt 4 (L' := [_, _, _, _, _, _]) rfl ?_
                refine ev_fgt 5 (L' := [_, _, _, _, _, _]) rfl ?_
                exact ihk _ (by omega) (k + 1) _ rfl (by omega) (by rw [smN, ← Nat.add_assoc, et]; exact hc3) ho3
              · refine ev_aload_n dX0_readInto_53 rfl rfl ?_
                refine ev_iload_n dX0_readInto_54 rfl rfl ?_
                refine ev_callVU1 dX0_readInto_55 cal_X1_addSign lk_0_31 ⟨(Nat.le_of_ble_eq_true rfl), (Nat.le_of_ble_eq_true rfl)⟩ rfl (z0) (Nat.le_of_ble_eq_true rfl) (c_addSign hc3 (by omega) (sgnL cd (k + 1)) (sgnL_le cd (k + 1))) (fun v h55 hq55 => ?_)
                refine ev_pc (pc' := 58) rfl ?_
                obtain ⟨rfl, hc4, ho4⟩ := hq55
                refine ev_iincN (L' := [_, _, _, _, _, _]) 1 dX0_readInto_58 rfl rfl ?_
                refine ev_goto 46 dX0_readInto_61 rfl ?_
                exact ih _ (by omega) (t + 1) _ rfl (by omega) (hc4.ext (fun j hj => catF_tl hj)) (ho3.tr ho4)
          exact LP46 _ 0 h2 rfl (Nat.zero_le _) (hc2.ext (fun j hj => catF_tl0 hj)) ho
  exact LP4 _ 0 h rfl (Nat.zero_le _) (hc.ext (fun j hj => catF_lt hj)) Out.rf
set_option maxHeartbeats 4000000 in
set_option maxRecDepth 100000 in
theorem c_Set_become {X : mX} {h : mH} {c d : Nat} {x y : Nat → Nat} (hc : SetN h c x) (hd : SetN h d y) (hdj : c + 2 ≤ d ∨ d + 2 ≤ c) : CnU X m_X3_become [.ref d, .ref c] h (fun v h1 => v = none ∧ SetN h1 d x ∧ Out h h1 d 2) := by
  obtain ⟨⟨x0, f, x1, hf⟩, hv⟩ := id hc
  obtain ⟨⟨y0, g, y1, hg⟩, hvy⟩ := id hd
  refine cn_of_ev (L0 := [_, _]) (by decide +kernel) rfl rfl (Nat.le_of_ble_eq_true rfl) rfl ?_
  refine ev_aload_n dX3_become_0 rfl rfl ?_
  first | refine ev_getfield dX3_become_1 lf_3_18 (x0) rfl ?_ | refine ev_getfield dX3_become_1 lf_3_18 (y0) rfl ?_
  refine ev_iconst (nI 0) dX3_become_4 rfl ?_
  refine ev_aload_n dX3_become_5 rfl rfl ?_
  first | refine ev_getfield dX3_become_6 lf_3_18 (x0) rfl ?_ | refine ev_getfield dX3_become_6 lf_3_18 (y0) rfl ?_
  refine ev_iconst (nI 0) dX3_become_9 rfl ?_
  refine ev_iconst (nI 5) dX3_become_10 rfl ?_
  refine ev_copyI0 dX3_become_11 lk_3_23 w_an w_as w_ai (by omega) (x1) (y1) rfl (by decide) (Nat.le_of_ble_eq_true rfl) (Nat.le_of_ble_eq_true rfl) ?_
  refine ev_return dX3_become_14 rfl (Or.inl rfl) (Nat.zero_le _) (Nat.zero_le _) ?_
  exact ⟨_, rfl, rfl, ⟨⟨(mset_n (by omega)).trans y0, _, mset_s _ _ _, fun k hk => by rw [cpN_0 hk]; exact hf k hk⟩, hv⟩, (Out.set (by omega) (by omega))⟩
