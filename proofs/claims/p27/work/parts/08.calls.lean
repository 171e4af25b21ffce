theorem mPc_blind (X : mX) (f : Option Nat) (as : List Value) (h : mH) : FrameBlind (mPc X f as h) := by
  intro a U g mk q
  obtain ⟨q0, q1, q2⟩ := q
  exact ⟨q0, q1, q2.go (U := U.calling g mk a) (State.WarmedH.refl U) (fun _ _ _ => rfl)⟩
/-- behind a call -/
theorem run_to {X : mX} {p : Program} {e : Env} {R : Room} {s : State} {m : MethodId} {args : Array Value} {below : List Frame} {meth : Method} {c : Code} {H : Heap} {locs : List Loc} {ce sl mc1 ms1 pc : Nat} {ls : Array Slot} {st0 rest : List Value} {a : Array Value} {Q1 : mO → mH → Prop} {f1 : Option Nat} {Z : State → Prop}
    (hr : vx_Run p (xl X) e R s m args below meth c H locs ce sl mc1 ms1 (F0 m pc ls st0) rest (Qcv X Q1 f1 a) (Qxv X Q1) (xA X)) (hS : va_S (xA X) s.heap H locs)
    (kk : ∀ (v : Option Value) (h1 : mH) (H1 : Heap) (locs1 : List Loc), Q1 (.inl v) h1 → Wd X h1 f1 H1 → va_S (xA X) s.heap H1 locs1 → W p (xl X) e R s m args below meth c H1 locs1 (ce + mc1) (sl + ms1) Z (F0 m (pc + 3) ls ((v.map (cv X)).toList ++ rest)))
    (kx : ∀ (k : Nat) (h1 : mH) (H1 : Heap) (locs1 : List Loc) (q : Addr) (cl : Cell), k < 3 → Q1 (.inr k) h1 → Wd X h1 none H1 → va_S (xA X) s.heap H1 locs1 → H1[q]? = some cl → cl.vm = .none → s.vm.findClass (exn k) = some cl.cls → vx_W p (xl X) e R s m args below meth c H1 locs1 (ce + mc1) (sl + ms1) Z (F0 m pc ls rest) q) :
    W p (xl X) e R s m args below meth c H locs ce sl Z (F0 m pc ls st0) := by
  intro T hT Y
  rcases hr T hT Y with ⟨v, st₀, t, T', L, h0, X', hL, e1, e2, ⟨v1, h1, hv, hq, hw, hF⟩, st⟩ | ⟨q, st₀, t, T', L, E, cl, h0, X', hL, e1, e2, ⟨k, h1, hk, hE, hq, hw, hF⟩, hce, hcv, hcl, st⟩
  · have hv2 : v = v1.map (cv X) := by cases hv; rfl
    subst hv2
    obtain ⟨k1, k2, k3⟩ := vx_keep h0 e1 hS (fun _ _ z => z) (fun _ z => z) hL hF
    obtain ⟨t2, a1, b1⟩ := kk v1 h1 T'.heap (locs ++ L) hq (by rw [e1]; exact hw) k3 T' rfl X'
    exact ⟨t2, st t2 a1, b1⟩
  · subst hE
    obtain ⟨k1, k2, k3⟩ := vx_keep h0 e1 hS (fun _ _ z => z) (fun _ z => z) hL hF
    obtain ⟨t2, a1, b1⟩ := kx k h1 T'.heap (locs ++ L) q cl hk hq (by rw [e1]; exact hw) k3 (by rw [e1]; exact hce) hcv hcl T' rfl X'
    exact ⟨t2, st.trans a1, b1⟩
/-- what a method's callers need of it: static or not, its class, its parameters -/
def CalI (M : mMD) (n : Nat) : Prop := (Cond.instanceMethod (mNm M) ∈ WL ∧ Cond.selects (mNm M).cls (mNm M) (mNm M) ∈ WL ∧ Cond.initialized (mNm M).cls ∈ WL ∧ Cond.code (mNm M) (mBy M) (mML M) (mRt M) ∈ WL) ∧ (mNm M).cls = RN (mOwn M) ∧ mOwn M < 7 ∧ ((mNm M).cls ≠ "java/lang/invoke/MethodHandle" ∧ (mNm M).cls ≠ "java/lang/invoke/VarHandle" ∧ (parseMethodDescriptor (mNm M).desc).map (fun d => d.parameters.length) = some n)
def CalS (M : mMD) (n : Nat) : Prop := (Cond.static (mNm M) ∈ WL ∧ Cond.initialized (mNm M).cls ∈ WL ∧ Cond.code (mNm M) (mBy M) (mML M) (mRt M) ∈ WL) ∧ ((mNm M).cls ≠ "java/lang/invoke/MethodHandle" ∧ (mNm M).cls ≠ "java/lang/invoke/VarHandle" ∧ (parseMethodDescriptor (mNm M).desc).map (fun d => d.parameters.length) = some n)
def CalC (M : mMD) (n : Nat) : Prop := (Cond.instanceMethod (mNm M) ∈ WL ∧ Cond.initialized (mNm M).cls ∈ WL ∧ Cond.code (mNm M) (mBy M) (mML M) none ∈ WL) ∧ mRt M = none ∧ (mNm M).name = "<init>" ∧ ((mNm M).cls ≠ "java/lang/invoke/MethodHandle" ∧ (mNm M).cls ≠ "java/lang/invoke/VarHandle" ∧ (parseMethodDescriptor (mNm M).desc).map (fun d => d.parameters.length) = some n)
def CalH (M : mMD) (n : Nat) : Prop := (Cond.static (mNm M) ∈ WL ∧ Cond.initialized (mNm M).cls ∈ WL ∧ Cond.codeWith (mNm M) (mBy M) (mML M) (mRt M) (mHH M) ∈ WL) ∧ ((mNm M).cls ≠ "java/lang/invoke/MethodHandle" ∧ (mNm M).cls ≠ "java/lang/invoke/VarHandle" ∧ (parseMethodDescriptor (mNm M).desc).map (fun d => d.parameters.length) = some n)
/-- the callee's frames and words fit -/
def Fits (M M' : mMD) : Prop := mFr M' + 1 ≤ mFr M ∧ 8 + (mML M' + 11) + mLo M' ≤ mLo M
theorem WL_to {w : Cond} (h : w ∈ WL) : w ∈ WL ∧ ((w.onTables && w.keeps) = true ∨ ∃ ty, w = .arrayClass ty) := ⟨h, (WL_good w h).2⟩
theorem WL_code {M : mMD} (h : Cond.code (mNm M) (mBy M) (mML M) (mRt M) ∈ WL) : GoodIn WL (wsM M) := fun w hw => (List.mem_cons.mp hw).elim (fun q => by rw [q]; exact WL_to h) (fun q => WL_to q)
theorem WL_codeH {M : mMD} (h : Cond.codeWith (mNm M) (mBy M) (mML M) (mRt M) (mHH M) ∈ WL) : GoodIn WL (wsH M) := fun w hw => (List.mem_cons.mp hw).elim (fun q => by rw [q]; exact WL_to h) (fun q => WL_to q)
/-- what stays of an exception that this method doesn't catch -/
theorem out_to {X : mX} {M : mMD} {p : Program} {e : Env} {R : Room} {s : State} {m : MethodId} {args : Array Value} {below : List Frame} {meth : Method} {c : Code} (C : Cx X M R p s m args meth c) (hh : mHH M = []) {Q : mO → mH → Prop} {f' : Option Nat} {ce sl mc ms pc : Nat} {ls : Array Slot} {rest : List Value} (k : Nat) (h1 : mH) (H1 : Heap) (locs1 : List Loc) (q : Addr) (cl : Cell) (hk : k < 3) (hq : Q (.inr k) h1) (hw : Wd X h1 none H1) (hS : va_S (xA X) s.heap H1 locs1) (h1c : H1[q]? = some cl) (hv : cl.vm = .none) (hcl : s.vm.findClass (exn k) = some cl.cls) (hce : ce ≤ mc) (hsl : sl ≤ ms) :
    vx_W p (xl X) e R s m args below meth c H1 locs1 ce sl (vx_MQ below (Qcv X Q f') (Qxv X Q) args s mc ms (xA X)) (F0 m pc ls rest) q := by
  refine vx_out (fun x hx => ?_) C.2.2.2.2.2.2.1 h1c hv hcl (fun t ht _ => ⟨k, h1, hk, rfl, hq, by rw [ht]; exact hw, hS.F ht⟩) hS.2.2 hce hsl
  have he := C.2.2.2.2.2.2.2.2.1
  rw [hh, List.map_eq_nil_iff] at he
  rw [he] at hx
  cases hx
theorem ev_callV {X : mX} {M M' : mMD} {f f' f1 : Option Nat} {ce sl mc ms mc1 ms1 pc : Nat} {L st : List Value} {h : mH} {Q Q1 : mO → mH → Prop} {idx n b : Nat} {as fs : List Value} (hd : decode (mBy M) pc = .ok (.invokevirtual idx, 3)) (hcal : CalI M' n) (hl : Cond.methodLink (RN (mOwn M)) idx (mNm M') ∈ WL) (hfit : Fits M M') (hh : mHH M = []) (hb : h b = some (aO (mOwn M') fs)) (hn : as.length = n) (hst : (st.map fun v => v.category).sum ≤ 8) (hm : Cn X M' f f1 mc1 ms1 (.ref b :: as) h Q1) (hce : ce + mc1 ≤ mc) (hsl : sl + ms1 ≤ ms) (kk : ∀ (v : Option Value) (h1 : mH), Q1 (.inl v) h1 → Ev X M (f1, f', ce + mc1, sl + ms1, mc, ms) (pc + 3) L (v.toList ++ st) h1 Q) (kx : ∀ (k : Nat) (h1 : mH), Q1 (.inr k) h1 → Q (.inr k) h1) : Ev X M (f, f', ce, sl, mc, ms) pc L (as.reverse ++ .ref b :: st) h Q := by
  intro p e s m args below meth c H locs ls R C hc hs hW hS hL
  obtain ⟨⟨c1, c2, c3, c4⟩, c5, c6, c7⟩ := hcal
  have hts := C.2.2.2.2.2.1
  have hF := C.2.2.2.2.2.2.2.2.2.2.2.1
  have hr : vx_Run p (xl X) e R s m args below meth c H locs ce sl mc1 ms1 (F0 m pc ls ((as.reverse ++ .ref b :: st).map (cv X))) (st.map (cv X)) (Qcv X Q1 f1 (Value.ref (xad X b) :: as.map (cv X)).toArray) (Qxv X Q1) (xA X) :=
    vx_runV (C := (mNm M').cls) (own := RN (mOwn M)) (bytes := mBy M') (maxL := mML M') (ret := mRt M') (n := n) (index := idx) (Ts := WL) (ws := wsM M') (rm := mRm M' mc1 ms1) ⟨C.1, C.2.1, C.2.2.2.1, C.2.2.2.2.1, hts⟩ hm
      (cwV n hts (fun w hw => by
        rcases List.mem_append.mp hw with q | q
        · rcases List.mem_cons.mp q with rfl | q
          · exact WL_to hl
          · rcases List.mem_cons.mp q with rfl | q
            · exact WL_to c1
            · rcases List.mem_cons.mp q with rfl | q
              · exact WL_to c2
              · rcases List.mem_cons.mp q with rfl | q
                · exact WL_to c3
                · cases q
        · exact WL_code c4 w q) rfl rfl rfl ⟨rfl, c7⟩ (by rw [C.2.2.2.2.2.2.2.2.2.1, C.2.2.2.2.2.2.2.2.2.2.1]; exact hfit))
      ⟨mPc_blind X f _ h, by rw [c5, xad_lo hW hb]; exact va_recv hF.2.1 (hW.one hb) (cl_at c6) (q0 := 0) rfl, fun U hU hWU => ⟨rfl, by rw [hU]; exact hW, by rw [hU]; exact hF.go hWU hS.2.1⟩⟩ rfl (by rw [List.length_map]; exact hn) hL.1 (by show List.map (cv X) (as.reverse ++ .ref b :: st) = _; rw [List.map_append, List.map_reverse]; rfl) (by show 2 * 0 + _ ≤ 8; rw [cv_cats]; omega) hd ⟨by rw [hc]; exact hce, by rw [hs]; exact hsl⟩
  refine run_to hr hS (fun v h1 H1 locs1 hq hw hS1 => ?_) (fun k h1 H1 locs1 q cl hk hq hw hS1 h1c hv hcl => out_to C hh k h1 H1 locs1 q cl hk (kx k h1 hq) hw hS1 h1c hv hcl hce hsl)
  have K := kk v h1 hq p e s m args below meth c H1 locs1 ls R C hc hs hw hS1 hL
  rw [List.map_append, show v.toList.map (cv X) = (v.map (cv X)).toList from by cases v <;> rfl] at K
  exact K
theorem ev_callS {X : mX} {M M' : mMD} {f f' f1 : Option Nat} {ce sl mc ms mc1 ms1 pc : Nat} {L st : List Value} {h : mH} {Q Q1 : mO → mH → Prop} {idx n : Nat} {as : List Value} (hd : decode (mBy M) pc = .ok (.invokestatic idx, 3)) (hcal : CalS M' n) (hl : Cond.methodLink (RN (mOwn M)) idx (mNm M') ∈ WL) (hfit : Fits M M') (hh : mHH M = []) (hn : as.length = n) (hst : (st.map fun v => v.category).sum ≤ 8) (hm : Cn X M' f f1 mc1 ms1 as h Q1) (hce : ce + mc1 ≤ mc) (hsl : sl + ms1 ≤ ms) (kk : ∀ (v : Option Value) (h1 : mH), Q1 (.inl v) h1 → Ev X M (f1, f', ce + mc1, sl + ms1, mc, ms) (pc + 3) L (v.toList ++ st) h1 Q) (kx : ∀ (k : Nat) (h1 : mH), Q1 (.inr k) h1 → Q (.inr k) h1) : Ev X M (f, f', ce, sl, mc, ms) pc L (as.reverse ++ st) h Q := by
  intro p e s m args below meth c H locs ls R C hc hs hW hS hL
  obtain ⟨⟨c1, c3, c4⟩, c7⟩ := hcal
  have hts := C.2.2.2.2.2.1
  have hF := C.2.2.2.2.2.2.2.2.2.2.2.1
  have hr : vx_Run p (xl X) e R s m args below meth c H locs ce sl mc1 ms1 (F0 m pc ls ((as.reverse ++ st).map (cv X))) (st.map (cv X)) (Qcv X Q1 f1 (as.map (cv X)).toArray) (Qxv X Q1) (xA X) :=
    vx_runS (own := RN (mOwn M)) (bytes := mBy M') (maxL := mML M') (ret := mRt M') (n := n) (index := idx) (Ts := WL) (ws := wsM M') (rm := mRm M' mc1 ms1) ⟨C.1, C.2.1, C.2.2.2.1, C.2.2.2.2.1, hts⟩ hm
      (va_cwS n hts (fun w hw => by
        rcases List.mem_append.mp hw with q | q
        · rcases List.mem_cons.mp q with rfl | q
          · exact WL_to hl
          · rcases List.mem_cons.mp q with rfl | q
            · exact WL_to c1
            · rcases List.mem_cons.mp q with rfl | q
              · exact WL_to c3
              · cases q
        · exact WL_code c4 w q) rfl rfl rfl c7 (by rw [C.2.2.2.2.2.2.2.2.2.1, C.2.2.2.2.2.2.2.2.2.2.1]; exact hfit))
      ⟨mPc_blind X f _ h, fun U hU hWU => ⟨rfl, by rw [hU]; exact hW, by rw [hU]; exact hF.go hWU hS.2.1⟩⟩ rfl (by rw [List.length_map]; exact hn) hL.1 (by show List.map (cv X) (as.reverse ++ st) = _; rw [List.map_append, List.map_reverse]) (by show 2 * 0 + _ ≤ 8; rw [cv_cats]; omega) hd ⟨by rw [hc]; exact hce, by rw [hs]; exact hsl⟩
  refine run_to hr hS (fun v h1 H1 locs1 hq hw hS1 => ?_) (fun k h1 H1 locs1 q cl hk hq hw hS1 h1c hv hcl => out_to C hh k h1 H1 locs1 q cl hk (kx k h1 hq) hw hS1 h1c hv hcl hce hsl)
  have K := kk v h1 hq p e s m args below meth c H1 locs1 ls R C hc hs hw hS1 hL
  rw [List.map_append, show v.toList.map (cv X) = (v.map (cv X)).toList from by cases v <;> rfl] at K
  exact K
theorem ev_callH {X : mX} {M M' : mMD} {f f' f1 : Option Nat} {ce sl mc ms mc1 ms1 pc : Nat} {L st : List Value} {h : mH} {Q Q1 : mO → mH → Prop} {idx n : Nat} {as : List Value} (hd : decode (mBy M) pc = .ok (.invokestatic idx, 3)) (hcal : CalH M' n) (hl : Cond.methodLink (RN (mOwn M)) idx (mNm M') ∈ WL) (hfit : Fits M M') (hh : mHH M = []) (hn : as.length = n) (hst : (st.map fun v => v.category).sum ≤ 8) (hm : CnH X M' f f1 mc1 ms1 as h Q1) (hce : ce + mc1 ≤ mc) (hsl : sl + ms1 ≤ ms) (kk : ∀ (v : Option Value) (h1 : mH), Q1 (.inl v) h1 → Ev X M (f1, f', ce + mc1, sl + ms1, mc, ms) (pc + 3) L (v.toList ++ st) h1 Q) (kx : ∀ (k : Nat) (h1 : mH), Q1 (.inr k) h1 → Q (.inr k) h1) : Ev X M (f, f', ce, sl, mc, ms) pc L (as.reverse ++ st) h Q := by
  intro p e s m args below meth c H locs ls R C hc hs hW hS hL
  obtain ⟨⟨c1, c3, c4⟩, c7⟩ := hcal
  have hts := C.2.2.2.2.2.1
  have hF := C.2.2.2.2.2.2.2.2.2.2.2.1
  have hr : vx_Run p (xl X) e R s m args below meth c H locs ce sl mc1 ms1 (F0 m pc ls ((as.reverse ++ st).map (cv X))) (st.map (cv X)) (Qcv X Q1 f1 (as.map (cv X)).toArray) (Qxv X Q1) (xA X) :=
    vx_runSX (hh := mHH M') (own := RN (mOwn M)) (bytes := mBy M') (maxL := mML M') (ret := mRt M') (n := n) (index := idx) (Ts := WL) (ws := wsH M') (rm := mRm M' mc1 ms1) ⟨C.1, C.2.1, C.2.2.2.1, C.2.2.2.2.1, hts⟩ hm
      (vx_cwSW n hts (fun w hw => by
        rcases List.mem_append.mp hw with q | q
        · rcases List.mem_cons.mp q with rfl | q
          · exact WL_to hl
          · rcases List.mem_cons.mp q with rfl | q
            · exact WL_to c1
            · rcases List.mem_cons.mp q with rfl | q
              · exact WL_to c3
              · cases q
        · exact WL_codeH c4 w q) rfl rfl rfl c7 (by rw [C.2.2.2.2.2.2.2.2.2.1, C.2.2.2.2.2.2.2.2.2.2.1]; exact hfit))
      ⟨mPc_blind X f _ h, fun U hU hWU => ⟨rfl, by rw [hU]; exact hW, by rw [hU]; exact hF.go hWU hS.2.1⟩⟩ rfl (by rw [List.length_map]; exact hn) hL.1 (by show List.map (cv X) (as.reverse ++ st) = _; rw [List.map_append, List.map_reverse]) (by show 2 * 0 + _ ≤ 8; rw [cv_cats]; omega) hd ⟨by rw [hc]; exact hce, by rw [hs]; exact hsl⟩
  refine run_to hr hS (fun v h1 H1 locs1 hq hw hS1 => ?_) (fun k h1 H1 locs1 q cl hk hq hw hS1 h1c hv hcl => out_to C hh k h1 H1 locs1 q cl hk (kx k h1 hq) hw hS1 h1c hv hcl hce hsl)
  have K := kk v h1 hq p e s m args below meth c H1 locs1 ls R C hc hs hw hS1 hL
  rw [List.map_append, show v.toList.map (cv X) = (v.map (cv X)).toList from by cases v <;> rfl] at K
  exact K
theorem ev_callI {X : mX} {M M' : mMD} {f f' f1 : Option Nat} {ce sl mc ms mc1 ms1 pc : Nat} {L st : List Value} {h : mH} {Q Q1 : mO → mH → Prop} {idx n b : Nat} {as : List Value} (hd : decode (mBy M) pc = .ok (.invokespecial idx, 3)) (hcal : CalC M' n) (hl : Cond.methodLink (RN (mOwn M)) idx (mNm M') ∈ WL) (hfit : Fits M M') (hh : mHH M = []) (hn : as.length = n) (hst : (st.map fun v => v.category).sum ≤ 8) (hm : Cn X M' f f1 mc1 ms1 (.ref b :: as) h Q1) (hce : ce + mc1 ≤ mc) (hsl : sl + ms1 ≤ ms) (kk : ∀ (v : Option Value) (h1 : mH), Q1 (.inl v) h1 → Ev X M (f1, f', ce + mc1, sl + ms1, mc, ms) (pc + 3) L (v.toList ++ st) h1 Q) (kx : ∀ (k : Nat) (h1 : mH), Q1 (.inr k) h1 → Q (.inr k) h1) : Ev X M (f, f', ce, sl, mc, ms) pc L (as.reverse ++ .ref b :: st) h Q := by
  intro p e s m args below meth c H locs ls R C hc hs hW hS hL
  obtain ⟨⟨c1, c3, c4⟩, c5, c6, c7⟩ := hcal
  have c4' := c4
  rw [← c5] at c4'
  have hts := C.2.2.2.2.2.1
  have hF := C.2.2.2.2.2.2.2.2.2.2.2.1
  have hr : vx_Run p (xl X) e R s m args below meth c H locs ce sl mc1 ms1 (F0 m pc ls ((as.reverse ++ .ref b :: st).map (cv X))) (st.map (cv X)) (Qcv X Q1 f1 (Value.ref (xad X b) :: as.map (cv X)).toArray) (Qxv X Q1) (xA X) :=
    vx_runI (own := RN (mOwn M)) (bytes := mBy M') (maxL := mML M') (n := n) (index := idx) (Ts := WL) (ws := wsM M') (rm := mRm M' mc1 ms1) ⟨C.1, C.2.1, C.2.2.2.1, C.2.2.2.2.1, hts⟩ hm
      (cwI (ws' := WL) n hts (WL_code c4') (by rw [wsM, c5]) rfl rfl (hts _ c3) (hts _ hl) (hts _ c1) c6 c7 (by rw [C.2.2.2.2.2.2.2.2.2.1, C.2.2.2.2.2.2.2.2.2.2.1]; exact hfit))
      ⟨mPc_blind X f _ h, fun U hU hWU => ⟨rfl, by rw [hU]; exact hW, by rw [hU]; exact hF.go hWU hS.2.1⟩⟩ rfl (by rw [List.length_map]; exact hn) hL.1 (by show List.map (cv X) (as.reverse ++ .ref b :: st) = _; rw [List.map_append, List.map_reverse]; rfl) (by show 2 * 0 + _ ≤ 8; rw [cv_cats]; omega) hd ⟨by rw [hc]; exact hce, by rw [hs]; exact hsl⟩
  refine run_to hr hS (fun v h1 H1 locs1 hq hw hS1 => ?_) (fun k h1 H1 locs1 q cl hk hq hw hS1 h1c hv hcl => out_to C hh k h1 H1 locs1 q cl hk (kx k h1 hq) hw hS1 h1c hv hcl hce hsl)
  have K := kk v h1 hq p e s m args below meth c H1 locs1 ls R C hc hs hw hS1 hL
  rw [List.map_append, show v.toList.map (cv X) = (v.map (cv X)).toList from by cases v <;> rfl] at K
  exact K
theorem ent_lv (X : mX) (as : List Value) : ∀ (i0 : Nat) (i : Nat) (v : Value), (entA as)[i]? = some v → v ≠ jk → (i0 + i, cv X v) ∈ lv_args i0 (as.map (cv X)) := by
  induction as with
  | nil => intro i0 i v h; simp [entA] at h
  | cons a as ih =>
    intro i0 i v h hv
    have one : (cv X a).category = 1 → entA (a :: as) = a :: entA as → (i0 + i, cv X v) ∈ lv_args i0 ((a :: as).map (cv X)) := by
      intro hc e
      rw [e] at h
      show _ ∈ (i0, cv X a) :: lv_args (if (cv X a).category = 2 then i0 + 2 else i0 + 1) (as.map (cv X))
      rw [if_neg (by omega)]
      cases i with
      | zero => cases h; exact List.mem_cons_self
      | succ i => exact List.mem_cons_of_mem _ (by have := ih (i0 + 1) i v h hv; rwa [show i0 + 1 + i = i0 + (i + 1) by omega] at this)
    have two : (cv X a).category = 2 → entA (a :: as) = a :: jk :: entA as → (i0 + i, cv X v) ∈ lv_args i0 ((a :: as).map (cv X)) := by
      intro hc e
      rw [e] at h
      show _ ∈ (i0, cv X a) :: lv_args (if (cv X a).category = 2 then i0 + 2 else i0 + 1) (as.map (cv X))
      rw [if_pos hc]
      cases i with
      | zero => cases h; exact List.mem_cons_self
      | succ i =>
        cases i with
        | zero => cases h; exact absurd rfl hv
        | succ i => exact List.mem_cons_of_mem _ (by have := ih (i0 + 2) i v h hv; rwa [show i0 + 2 + i = i0 + (i + 1 + 1) by omega] at this)
    cases a <;> first | exact two rfl rfl | exact one rfl rfl
theorem ent_len (X : mX) (as : List Value) : (lg_sl (as.map (cv X))).length = (entA as).length := by
  induction as with
  | nil => rfl
  | cons a as ih =>
    show (lg_sl (cv X a :: as.map (cv X))).length = _
    unfold lg_sl at ih ⊢
    rw [List.flatMap_cons, List.length_append, ih]
    cases a <;> simp [cv, Value.category, entA] <;> omega
theorem ent_LR (X : mX) (as : List Value) {n : Nat} (h : (entA as).length ≤ n) : LR X (ent as n) ((lg_sl (as.map (cv X)) ++ List.replicate (n - (lg_sl (as.map (cv X))).length) Slot.unset).toArray) n := by
  have e := lv_entry (as.map (cv X)) (n := n) (by rw [ent_len]; exact h)
  refine ⟨e.1, by simp [ent]; omega, e.2.1, fun i v hi hv => ?_⟩
  refine e.2.2 (i, cv X v) ?_
  unfold ent at hi
  by_cases hl : i < (entA as).length
  · rw [List.getElem?_append_left hl] at hi
    have := ent_lv X as 0 i v hi hv
    rwa [Nat.zero_add] at this
  · rw [List.getElem?_append_right (by omega)] at hi
    have := List.mem_of_getElem? hi
    rw [List.mem_replicate] at this
    exact absurd this.2 hv
theorem cn_of_ev {X : mX} {M : mMD} {f f' : Option Nat} {mc ms : Nat} {as L0 : List Value} {h : mH} {Q : mO → mH → Prop} (hy : plainName (mNm M).cls = true) (hcls : (mNm M).cls = RN (mOwn M)) (hh : mHH M = []) (hlen : (entA as).length ≤ mML M) (hL0 : ent as (mML M) = L0) (k : Ev X M (f, f', 0, 0, mc, ms) 0 L0 [] h Q) : Cn X M f f' mc ms as h Q := by
  subst hL0
  refine vx_ofW (cc := mBy M) (maxL := mML M) (ret := mRt M) (ws' := WL) hy rfl ?_
  intro p e s m args below meth c s₁ Bd hml htab hv
  obtain ⟨rfl, hW, hF⟩ := hv
  have hts := atoms_spec (ws := wsM M) Bd.pre
  have hown : s.vm.findClass (mNm M).cls = some m.cls := findClass_of_methodNamed Bd.named
  rw [hcls] at hown
  rw [lg_entry_eq]
  refine k p e s m (as.map (cv X)).toArray below meth c s.heap [] _ _ ⟨Bd.exec, Bd.bytes, Bd.returns, hml, hown, fun w hw => hts w (List.mem_cons_of_mem _ hw), Bd.notSynchronized, (name_of_methodNamed Bd.named Bd.method).1, ?_, rfl, rfl, hF, hW.2.1⟩ rfl rfl hW va_S.rf (ent_LR X as hlen)
  rw [hh, List.map_eq_nil_iff]
  exact List.eq_nil_iff_forall_not_mem.mpr htab
theorem cnH_of_ev {X : mX} {M : mMD} {f f' : Option Nat} {mc ms : Nat} {as L0 : List Value} {h : mH} {Q : mO → mH → Prop} (hy : plainName (mNm M).cls = true) (hcls : (mNm M).cls = RN (mOwn M)) (hlen : (entA as).length ≤ mML M) (hL0 : ent as (mML M) = L0) (k : Ev X M (f, f', 0, 0, mc, ms) 0 L0 [] h Q) : CnH X M f f' mc ms as h Q := by
  subst hL0
  refine vx_ofWH (cc := mBy M) (maxL := mML M) (ret := mRt M) (hh := mHH M) (ws' := WL) hy rfl ?_
  intro p e s m args below meth c s₁ Bd hml hv
  obtain ⟨rfl, hW, hF⟩ := hv
  have hts := atoms_spec (ws := wsH M) Bd.pre
  have hown : s.vm.findClass (mNm M).cls = some m.cls := findClass_of_methodNamed Bd.named
  rw [hcls] at hown
  obtain ⟨m9, meth9, c9, hn9, hm9, hc9, -, -, hx9, -, -, -⟩ := Cond.codeWith_spec (hts (.codeWith (mNm M) (mBy M) (mML M) (mRt M) (mHH M)) List.mem_cons_self)
  have hm : m9 = m := by
    have h1 := Bd.named
    rw [hn9] at h1
    exact Option.some.inj h1
  subst hm
  have hmm : meth9 = meth := Option.some.inj (hm9.symm.trans Bd.method)
  subst hmm
  have hcc : c9 = c := Option.some.inj (hc9.symm.trans (Stand.of_body Bd).code)
  subst hcc
  rw [lg_entry_eq]
  exact k p e s m9 (as.map (cv X)).toArray below meth9 c9 s.heap [] _ _ ⟨Bd.exec, Bd.bytes, Bd.returns, hml, hown, fun w hw => hts w (List.mem_cons_of_mem _ hw), Bd.notSynchronized, (name_of_methodNamed Bd.named Bd.method).1, hx9, rfl, rfl, hF, hW.2.1⟩ rfl rfl hW va_S.rf (ent_LR X as hlen)
