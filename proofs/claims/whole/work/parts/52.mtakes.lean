theorem wth_nI {a b c : Nat} (ha : a < 2 ^ 31) (hb : b < 2 ^ 31) (hc : c < 2 ^ 31) : decide (nI a ≤ nI c ∧ nI c ≤ nI b) = decide (a ≤ c ∧ c ≤ b) := by
  rw [decide_eq_decide, i_le, i_le, nI_toInt ha, nI_toInt hb, nI_toInt hc]
  omega
/-- how many signs a code adds, behind a letter or not -/
def tkN (c : Nat) (op : Bool) : Nat := if lett c = true then 1 else if op = true ∧ (50 ≤ c ∧ c ≤ 57) then c - 49 else 0
def tkI (c : Nat) (op : Bool) (u : Nat) : Bool := decide (0 < tkN c op ∧ u + tkN c op ≤ 40)
def tkS (c : Nat) (go : Nat → Nat) (u : Nat) : Nat := if lett c = true then c - 96 else go (u - 1)
theorem tkN_le {c : Nat} {op : Bool} : tkN c op ≤ 8 := by
  unfold tkN
  split
  · omega
  · split <;> omega
theorem tkN_1 {c : Nat} {op : Bool} (h : lett c = true) : tkN c op = 1 := if_pos h
theorem tkN_2 {c : Nat} {op : Bool} (h : lett c = false) (h2 : op = true) (h3 : decide (50 ≤ c ∧ c ≤ 57) = true) : tkN c op = c - 49 := by rw [tkN, if_neg (by rw [h]; decide), if_pos ⟨h2, of_decide_eq_true h3⟩]
theorem tkN_3 {c : Nat} {op : Bool} (h : lett c = false) (h2 : op = false) : tkN c op = 0 := by rw [tkN, if_neg (by rw [h]; decide), if_neg (fun z => by rw [h2] at z; exact absurd z.1 (by decide))]
theorem tkN_4 {c : Nat} {op : Bool} (h : lett c = false) (h3 : decide (50 ≤ c ∧ c ≤ 57) = false) : tkN c op = 0 := by rw [tkN, if_neg (by rw [h]; decide), if_neg (fun z => of_decide_eq_false h3 z.2)]
theorem tkN_op {c : Nat} {op : Bool} (h : lett c = false) (h2 : 0 < tkN c op) : op = true := by
  cases op with
  | true => rfl
  | false => rw [tkN_3 h rfl] at h2; exact absurd h2 (Nat.lt_irrefl 0)
set_option maxHeartbeats 4000000 in
set_option maxRecDepth 100000 in
theorem k_takes {X : mX} {h : mH} {gz : Nat → Nat} {gc : Nat → Int64} {gs : Nat} {gh : Nat → Nat} {gk : Nat → Int64} {gl : Nat} {gb : Nat → Nat} {gt : Nat} {gr : Nat → Nat} {gm : Nat} {gp : Nat → Int64} {gq : Nat → Nat} {ge : Nat → Nat} {gn : Nat} {go : Nat → Nat} {gu : Nat} {gi : Bool} {ga : Nat → Int64} {gv : Nat → Nat} {gw : Nat} {gx : Int64} (hm : MN h gz gc gs gh gk gl gb gt gr gm gp gq ge gn go gu gi ga gv gw gx) (c : Nat) (hc : c ≤ 200) (hu : gu ≤ 40) (hop : gi = true → 1 ≤ gu) : CnU X m_X7_takes [.ref 270, .int (nI c)] h (fun v h1 => v = some (.int (bI (tkI c gi gu))) ∧ (∃ f, MN h1 gz gc gs gh gk gl gb gt gr gm gp gq ge gn f ((if tkI c gi gu = true then gu + tkN c gi else gu) ) (lett c) ga gv gw gx ∧ (∀ j, j < gu → f j = go j) ∧ (tkI c gi gu = true → ∀ j, gu ≤ j → j < gu + tkN c gi → f j = tkS c go gu)) ∧ Out h h1 270 13) := by
  obtain ⟨m0, m1, m2, m3, m4, m5, m6, m7, m8, m9, m10, m11, m12⟩ := id hm
  have ho : Out h h 270 13 := Out.rf
  refine cn_of_ev (L0 := [_, _, _, _, _, _, _]) (by decide +kernel) rfl rfl (Nat.le_of_ble_eq_true rfl) rfl ?_
  have hkt := tkN_le (c := c) (op := gi)
  have J69 : Ev X m_X7_takes B0 69 [.ref 270, .int (nI c), .int (bI gi), .int (bI (lett c)), .int (nI (tkN c gi)), jk, jk] [.int (bI (tkI c gi gu))] h (fun o h1 => ∃ v, o = .inl v ∧ (v = some (.int (bI (tkI c gi gu))) ∧ (∃ f, MN h1 gz gc gs gh gk gl gb gt gr gm gp gq ge gn f ((if tkI c gi gu = true then gu + tkN c gi else gu) ) (lett c) ga gv gw gx ∧ (∀ j, j < gu → f j = go j) ∧ (tkI c gi gu = true → ∀ j, gu ≤ j → j < gu + tkN c gi → f j = tkS c go gu)) ∧ Out h h1 270 13)) := by
    refine ev_istore (L' := [_, _, _, _, _, _, _]) dX7_takes_69 (Nat.le_of_ble_eq_true rfl) rfl ?_
    refine ev_aload_n dX7_takes_71 rfl rfl ?_
    refine ev_iload_n dX7_takes_72 rfl rfl ?_
    refine em_pOp dX7_takes_73 lf_7_138 hm (fun h73 hm73 o73 => ?_)
    have ho := ho.tr o73
    obtain ⟨m0, m1, m2, m3, m4, m5, m6, m7, m8, m9, m10, m11, m12⟩ := id hm73
    refine ev_iconst (nI 0) dX7_takes_76 rfl ?_
    refine ev_istore (L' := [_, _, _, _, _, _, _]) dX7_takes_77 (Nat.le_of_ble_eq_true rfl) rfl ?_
    refine ev_pc (pc' := 79) rfl ?_
    have LP79 : ∀ (mz : Nat) (k : Nat) (h2 : mH) (f : Nat → Nat), tkN c gi - k = mz → (k ≤ tkN c gi) → (MN h2 gz gc gs gh gk gl gb gt gr gm gp gq ge gn f (gu + k) (lett c) ga gv gw gx) → (Out h h2 270 13) → (tkI c gi gu = false → k = 0) → (∀ j, j < gu → f j = go j) → (∀ j, gu ≤ j → j < gu + k → f j = tkS c go gu) → Ev X m_X7_takes B0 79 [.ref 270, .int (nI c), .int (bI gi), .int (bI (lett c)), .int (nI (tkN c gi)), .int (bI (tkI c gi gu)), .int (nI k)] [] h2 (fun o h1 => ∃ v, o = .inl v ∧ (v = some (.int (bI (tkI c gi gu))) ∧ (∃ f, MN h1 gz gc gs gh gk gl gb gt gr gm gp gq ge gn f ((if tkI c gi gu = true then gu + tkN c gi else gu) ) (lett c) ga gv gw gx ∧ (∀ j, j < gu → f j = go j) ∧ (tkI c gi gu = true → ∀ j, gu ≤ j → j < gu + tkN c gi → f j = tkS c go gu)) ∧ Out h h1 270 13)) := by
      intro mz
      induction mz using Nat.strongRecOn with
      | _ mz ih =>
        intro k h2 f hmz hk hm2 ho h0 hf1 hf2
        obtain ⟨m0, m1, m2, m3, m4, m5, m6, m7, m8, m9, m10, m11, m12⟩ := id hm2
        have hkt := tkN_le (c := c) (op := gi)
        refine ev_iload dX7_takes_79 rfl ?_
        refine ev_if_eqB 140 dX7_takes_81 rfl (fun hc81 => ?_) (fun hc81 => ?_)
        · refine ev_iload dX7_takes_140 rfl ?_
          refine ev_zreturn dX7_takes_142 rfl (by first | rfl | exact bI_nar _) (Or.inl rfl) (Nat.zero_le _) (Nat.zero_le _) ?_
          have hout : gu + k = (if tkI c gi gu = true then gu + tkN c gi else gu) := by
            first
              | (rw [if_neg (by rw [hc81]; decide), h0 hc81]; rfl)
              | (rw [if_pos hc81]; omega)
          rw [hout] at hm2
          refine ⟨_, rfl, rfl, ⟨f, hm2, hf1, fun z j h1 h2 => hf2 j h1 ?_⟩, ho⟩
          rw [hout, if_pos z]
          exact h2
        · refine ev_iload dX7_takes_84 rfl ?_
          have htk : 0 < tkN c gi ∧ gu + tkN c gi ≤ 40 := of_decide_eq_true hc81
          refine ev_iload dX7_takes_86 rfl ?_
          refine ev_icmp_geN 140 dX7_takes_88 rfl (by omega) (by omega) (fun hc88 => ?_) (fun hc88 => ?_)
          · refine ev_iload dX7_takes_140 rfl ?_
            refine ev_zreturn dX7_takes_142 rfl (by first | rfl | exact bI_nar _) (Or.inl rfl) (Nat.zero_le _) (Nat.zero_le _) ?_
            have hout : gu + k = (if tkI c gi gu = true then gu + tkN c gi else gu) := by
              first
                | (rw [if_neg (by rw [hc81]; decide), h0 hc81]; rfl)
                | (rw [if_pos hc81]; omega)
            rw [hout] at hm2
            refine ⟨_, rfl, rfl, ⟨f, hm2, hf1, fun z j h1 h2 => hf2 j h1 ?_⟩, ho⟩
            rw [hout, if_pos z]
            exact h2
          · refine ev_aload_n dX7_takes_91 rfl rfl ?_
            refine ev_getfield dX7_takes_92 lf_7_38 m0 rfl ?_
            refine ev_aload_n dX7_takes_95 rfl rfl ?_
            refine ev_getfield dX7_takes_96 lf_7_142 m0 rfl ?_
            refine ev_iload_n dX7_takes_99 rfl rfl ?_
            refine ev_if_eqB 112 dX7_takes_100 rfl (fun hc100 => ?_) (fun hc100 => ?_)
            · refine ev_aload_n dX7_takes_112 rfl rfl ?_
              have hg2 := hop (tkN_op hc100 htk.1)
              refine ev_getfield dX7_takes_113 lf_7_38 m0 rfl ?_
              refine ev_aload_n dX7_takes_116 rfl rfl ?_
              refine ev_getfield dX7_takes_117 lf_7_142 m0 rfl ?_
              refine ev_iconst (nI 1) dX7_takes_120 rfl ?_
              refine ev_isubN dX7_takes_121 (by omega) ?_
              refine ev_ialoadF dX7_takes_122 m10 (by omega) (by decide) ?_
              rw [show f (gu + k - 1) = tkS c go gu from by
                rw [tkS, if_neg (by rw [hc100]; decide)]
                by_cases z : k = 0
                · rw [z]; exact hf1 _ (by omega)
                · rw [hf2 _ (by omega) (by omega), tkS, if_neg (by rw [hc100]; decide)]]
              refine em_iTo dX7_takes_123 hm2 (by omega) (fun h123 hm123 o123 => ?_)
              have ho := ho.tr o123
              obtain ⟨m0, m1, m2, m3, m4, m5, m6, m7, m8, m9, m10, m11, m12⟩ := id hm123
              refine ev_aload_n dX7_takes_124 rfl rfl ?_
              refine ev_dup dX7_takes_125 rfl ?_
              refine ev_getfield dX7_takes_126 lf_7_142 m0 rfl ?_
              refine ev_iconst (nI 1) dX7_takes_129 rfl ?_
              refine ev_iaddN dX7_takes_130 ?_
              refine em_pTM dX7_takes_131 lf_7_142 hm123 (fun h131 hm131 o131 => ?_)
              have ho := ho.tr o131
              obtain ⟨m0, m1, m2, m3, m4, m5, m6, m7, m8, m9, m10, m11, m12⟩ := id hm131
              refine ev_iincN (L' := [_, _, _, _, _, _, _]) 1 dX7_takes_134 rfl rfl ?_
              refine ev_goto 79 dX7_takes_137 rfl ?_
              refine ev_pc (pc' := 79) rfl ?_
              refine ih _ (by omega) (k + 1) _ (upN f (gu + k) (tkS c go gu)) rfl (by omega) (by rw [← Nat.add_assoc]; exact hm131) ho (fun z => by rw [hc81] at z; cases z) (fun j hj => ?_) (fun j h1 h2 => ?_)
              · rw [upN_n (by omega)]; exact hf1 j hj
              · by_cases e : j = gu + k
                · rw [e, upN_s]
                · rw [upN_n e]; exact hf2 j h1 (by omega)
            · refine ev_iload_n dX7_takes_103 rfl rfl ?_
              have hlt := lett_is hc100
              refine ev_bipush (nI 97) dX7_takes_104 rfl ?_
              refine ev_isubN dX7_takes_106 (by omega) ?_
              refine ev_iconst (nI 1) dX7_takes_107 rfl ?_
              refine ev_iaddN dX7_takes_108 ?_
              rw [show c - 97 + 1 = tkS c go gu from by rw [tkS, if_pos hc100]; omega]
              refine ev_goto 123 dX7_takes_109 rfl ?_
              refine em_iTo dX7_takes_123 hm2 (by omega) (fun h123 hm123 o123 => ?_)
              have ho := ho.tr o123
              obtain ⟨m0, m1, m2, m3, m4, m5, m6, m7, m8, m9, m10, m11, m12⟩ := id hm123
              refine ev_aload_n dX7_takes_124 rfl rfl ?_
              refine ev_dup dX7_takes_125 rfl ?_
              refine ev_getfield dX7_takes_126 lf_7_142 m0 rfl ?_
              refine ev_iconst (nI 1) dX7_takes_129 rfl ?_
              refine ev_iaddN dX7_takes_130 ?_
              refine em_pTM dX7_takes_131 lf_7_142 hm123 (fun h131 hm131 o131 => ?_)
              have ho := ho.tr o131
              obtain ⟨m0, m1, m2, m3, m4, m5, m6, m7, m8, m9, m10, m11, m12⟩ := id hm131
              refine ev_iincN (L' := [_, _, _, _, _, _, _]) 1 dX7_takes_134 rfl rfl ?_
              refine ev_goto 79 dX7_takes_137 rfl ?_
              refine ev_pc (pc' := 79) rfl ?_
              refine ih _ (by omega) (k + 1) _ (upN f (gu + k) (tkS c go gu)) rfl (by omega) (by rw [← Nat.add_assoc]; exact hm131) ho (fun z => by rw [hc81] at z; cases z) (fun j hj => ?_) (fun j h1 h2 => ?_)
              · rw [upN_n (by omega)]; exact hf1 j hj
              · by_cases e : j = gu + k
                · rw [e, upN_s]
                · rw [upN_n e]; exact hf2 j h1 (by omega)
    exact LP79 _ 0 _ go rfl (Nat.zero_le _) hm73 ho (fun _ => rfl) (fun j hj => rfl) (fun j h1 h2 => absurd h2 (by omega))
  have J45 : Ev X m_X7_takes B0 45 [.ref 270, .int (nI c), .int (bI gi), .int (bI (lett c)), jk, jk, jk] [.int (nI (tkN c gi))] h (fun o h1 => ∃ v, o = .inl v ∧ (v = some (.int (bI (tkI c gi gu))) ∧ (∃ f, MN h1 gz gc gs gh gk gl gb gt gr gm gp gq ge gn f ((if tkI c gi gu = true then gu + tkN c gi else gu) ) (lett c) ga gv gw gx ∧ (∀ j, j < gu → f j = go j) ∧ (tkI c gi gu = true → ∀ j, gu ≤ j → j < gu + tkN c gi → f j = tkS c go gu)) ∧ Out h h1 270 13)) := by
    refine ev_istore (L' := [_, _, _, _, _, _, _]) dX7_takes_45 (Nat.le_of_ble_eq_true rfl) rfl ?_
    refine ev_iload dX7_takes_47 rfl ?_
    refine ev_if_leN 68 dX7_takes_49 rfl (by omega) (fun hc49 => ?_) (fun hc49 => ?_)
    · refine ev_iconst (nI 0) dX7_takes_68 rfl ?_
      refine ev_pc (pc' := 69) rfl ?_
      first
        | exact ev_L rfl (by rw [tkI, decide_eq_true (by omega)]; rfl) J69
        | exact ev_L rfl (by rw [tkI, decide_eq_false (by omega)]; rfl) J69
    · refine ev_aload_n dX7_takes_52 rfl rfl ?_
      refine ev_getfield dX7_takes_53 lf_7_142 m0 rfl ?_
      refine ev_iload dX7_takes_56 rfl ?_
      refine ev_iaddN dX7_takes_58 ?_
      refine ev_bipush (nI 40) dX7_takes_59 rfl ?_
      refine ev_icmp_gtN 68 dX7_takes_61 rfl (by omega) (by omega) (fun hc61 => ?_) (fun hc61 => ?_)
      · refine ev_iconst (nI 0) dX7_takes_68 rfl ?_
        refine ev_pc (pc' := 69) rfl ?_
        first
          | exact ev_L rfl (by rw [tkI, decide_eq_true (by omega)]; rfl) J69
          | exact ev_L rfl (by rw [tkI, decide_eq_false (by omega)]; rfl) J69
      · refine ev_iconst (nI 1) dX7_takes_64 rfl ?_
        refine ev_goto 69 dX7_takes_65 rfl ?_
        refine ev_pc (pc' := 69) rfl ?_
        first
          | exact ev_L rfl (by rw [tkI, decide_eq_true (by omega)]; rfl) J69
          | exact ev_L rfl (by rw [tkI, decide_eq_false (by omega)]; rfl) J69
  refine ev_aload_n dX7_takes_0 rfl rfl ?_
  refine ev_getfield dX7_takes_1 lf_7_138 m0 rfl ?_
  refine ev_istore_n (L' := [_, _, _, _, _, _, _]) dX7_takes_4 rfl (Nat.le_of_ble_eq_true rfl) rfl ?_
  refine ev_iload_n dX7_takes_5 rfl rfl ?_
  refine ev_bipush (nI 97) dX7_takes_6 rfl ?_
  refine ev_bipush (nI 104) dX7_takes_8 rfl ?_
  refine ev_callSP3 dX7_takes_10 cal_X7_within lk_7_54 ⟨(Nat.le_of_ble_eq_true rfl), (Nat.le_of_ble_eq_true rfl)⟩ rfl (Nat.le_of_ble_eq_true rfl) ((show CnP X m_X7_within _ h (some (.int (bI (lett c)))) from by have z := k_within (X := X) (h := h) (nI c) (nI 97) (nI 104); rwa [wth_nI (by decide) (by decide) (by omega)] at z)) ?_
  refine ev_istore_n (L' := [_, _, _, _, _, _, _]) dX7_takes_13 rfl (Nat.le_of_ble_eq_true rfl) rfl ?_
  refine ev_iload_n dX7_takes_14 rfl rfl ?_
  refine ev_if_eqB 22 dX7_takes_15 rfl (fun hc15 => ?_) (fun hc15 => ?_)
  · refine ev_iload_n dX7_takes_22 rfl rfl ?_
    refine ev_if_eqB 44 dX7_takes_23 rfl (fun hc23 => ?_) (fun hc23 => ?_)
    · refine ev_iconst (nI 0) dX7_takes_44 rfl ?_
      refine ev_pc (pc' := 45) rfl ?_
      first
        | exact ev_L rfl (by first | (rw [tkN_1 hc15]; done) | (rw [tkN_1 hc15]; rfl)) J45
        | exact ev_L rfl (by first | (rw [tkN_2 hc15 hc23 hc34]; done) | (rw [tkN_2 hc15 hc23 hc34]; rfl)) J45
        | exact ev_L rfl (by first | (rw [tkN_4 hc15 hc34]; done) | (rw [tkN_4 hc15 hc34]; rfl)) J45
        | exact ev_L rfl (by first | (rw [tkN_3 hc15 hc23]; done) | (rw [tkN_3 hc15 hc23]; rfl)) J45
        | exact ev_L rfl (by rw [tkN_1 hc15]; rfl) J45
        | exact ev_L rfl (by rw [tkN_2 hc15 hc23 hc34]; rfl) J45
        | exact ev_L rfl (by rw [tkN_4 hc15 hc34]; rfl) J45
        | exact ev_L rfl (by rw [tkN_3 hc15 hc23]; rfl) J45
    · refine ev_iload_n dX7_takes_26 rfl rfl ?_
      refine ev_bipush (nI 50) dX7_takes_27 rfl ?_
      refine ev_bipush (nI 57) dX7_takes_29 rfl ?_
      refine ev_callSP3 dX7_takes_31 cal_X7_within lk_7_54 ⟨(Nat.le_of_ble_eq_true rfl), (Nat.le_of_ble_eq_true rfl)⟩ rfl (Nat.le_of_ble_eq_true rfl) ((show CnP X m_X7_within _ h (some (.int (bI (decide (50 ≤ c ∧ c ≤ 57))))) from by have z := k_within (X := X) (h := h) (nI c) (nI 50) (nI 57); rwa [wth_nI (by decide) (by decide) (by omega)] at z)) ?_
      refine ev_if_eqB 44 dX7_takes_34 rfl (fun hc34 => ?_) (fun hc34 => ?_)
      · refine ev_iconst (nI 0) dX7_takes_44 rfl ?_
        refine ev_pc (pc' := 45) rfl ?_
        first
          | exact ev_L rfl (by first | (rw [tkN_1 hc15]; done) | (rw [tkN_1 hc15]; rfl)) J45
          | exact ev_L rfl (by first | (rw [tkN_2 hc15 hc23 hc34]; done) | (rw [tkN_2 hc15 hc23 hc34]; rfl)) J45
          | exact ev_L rfl (by first | (rw [tkN_4 hc15 hc34]; done) | (rw [tkN_4 hc15 hc34]; rfl)) J45
          | exact ev_L rfl (by first | (rw [tkN_3 hc15 hc23]; done) | (rw [tkN_3 hc15 hc23]; rfl)) J45
          | exact ev_L rfl (by rw [tkN_1 hc15]; rfl) J45
          | exact ev_L rfl (by rw [tkN_2 hc15 hc23 hc34]; rfl) J45
          | exact ev_L rfl (by rw [tkN_4 hc15 hc34]; rfl) J45
          | exact ev_L rfl (by rw [tkN_3 hc15 hc23]; rfl) J45
      · refine ev_pc (pc' := 37) rfl ?_
        have h50 : 50 ≤ c ∧ c ≤ 57 := of_decide_eq_true hc34
        refine ev_iload_n dX7_takes_37 rfl rfl ?_
        refine ev_bipush (nI 49) dX7_takes_38 rfl ?_
        refine ev_isubN dX7_takes_40 (by omega) ?_
        refine ev_goto 45 dX7_takes_41 rfl ?_
        refine ev_pc (pc' := 45) rfl ?_
        first
          | exact ev_L rfl (by first | (rw [tkN_2 hc15 hc23 hc34]; done) | (rw [tkN_2 hc15 hc23 hc34]; rfl)) J45
          | exact ev_L rfl (by rw [tkN_2 hc15 hc23 hc34]; rfl) J45
  · refine ev_iconst (nI 1) dX7_takes_18 rfl ?_
    refine ev_goto 45 dX7_takes_19 rfl ?_
    refine ev_pc (pc' := 45) rfl ?_
    first
      | exact ev_L rfl (by first | (rw [tkN_1 hc15]; done) | (rw [tkN_1 hc15]; rfl)) J45
      | exact ev_L rfl (by first | (rw [tkN_2 hc15 hc23 hc34]; done) | (rw [tkN_2 hc15 hc23 hc34]; rfl)) J45
      | exact ev_L rfl (by first | (rw [tkN_4 hc15 hc34]; done) | (rw [tkN_4 hc15 hc34]; rfl)) J45
      | exact ev_L rfl (by first | (rw [tkN_3 hc15 hc23]; done) | (rw [tkN_3 hc15 hc23]; rfl)) J45
      | exact ev_L rfl (by rw [tkN_1 hc15]; rfl) J45
      | exact ev_L rfl (by rw [tkN_2 hc15 hc23 hc34]; rfl) J45
      | exact ev_L rfl (by rw [tkN_4 hc15 hc34]; rfl) J45
      | exact ev_L rfl (by rw [tkN_3 hc15 hc23]; rfl) J45
