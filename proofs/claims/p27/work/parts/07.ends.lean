section VXIA
variable {p : Program} {l : Launch} {e : Env} {R : Room} {s : State} {m : MethodId} {args : Array Value} {below : List Frame} {meth : Method} {c : Code} {T : State} {locs : List Loc} {cells slots : Nat}
theorem vx_callI (X : Stand p l e R s m args below meth c T locs cells slots) (hexec : p.tables.exec = Jvm.exec) {own : String} {index : Nat} {y : MethodName} {bytes : ByteArray} {maxL : Nat}
    (hown : s.vm.findClass own = some m.cls) (hy1 : y.name = "<init>") (hlink : (Cond.methodLink own index y).before args s = true) (hinst : (Cond.instanceMethod y).before args s = true)
    (hcode : (Cond.code y bytes maxL none).before args s = true) (hy : y.cls ≠ "java/lang/invoke/MethodHandle" ∧ y.cls ≠ "java/lang/invoke/VarHandle")
    {W9 : Nat} {Pre : Pt → Array Value → Prop} {Post : Pt → Array Value → Option Value → Pt → Prop} {PostX : Pt → Array Value → Addr → Pt → Prop} (hK : vx_Back l R p e below s args y 3 W9 Pre Post PostX)
    {g : JFrame} (hg : g.method = m) (hsize : g.locals.size = c.maxLocals) {a : Addr} {argsL rest : List Value} (hlen : ∀ sig, parseMethodDescriptor y.desc = some sig → argsL.length = sig.parameters.length)
    (hstack : g.stack = argsL.reverse ++ .ref a :: rest) (hW : 2 * g.monitorRoom + (rest.map fun v => v.category).sum ≤ W9) (hdg : decode c.code g.pc = .ok (.invokespecial index, 3))
    (hpre : ∀ vm₁, s.WarmedH vm₁ → Pre ⟨T.setVm vm₁, locs, cells, slots⟩ (Value.ref a :: argsL).toArray) :
    (∃ (v : Option Value) (vm₁ : Vm) (B : Pt), s.WarmedH vm₁ ∧ Stand p l e R s m args below meth c B.U B.locs B.cells B.slots ∧ Post ⟨T.setVm vm₁, locs, cells, slots⟩ (Value.ref a :: argsL).toArray v B ∧
      ∀ target, Steps p.tables e below (B.U.setTop { g with pc := g.pc + 3, stack := v.toList ++ rest }) target → Steps p.tables e below (T.setTop g) target) ∨
    (∃ (q : Addr) (vm₁ : Vm) (B : Pt), s.WarmedH vm₁ ∧ Stand p l e R s m args below meth c B.U B.locs B.cells B.slots ∧ PostX ⟨T.setVm vm₁, locs, cells, slots⟩ (Value.ref a :: argsL).toArray q B ∧
      Steps p.tables e below (T.setTop g) ((B.U.setTop { g with stack := rest }).pushFrame (.throwing q))) := by
  subst hg
  have hpl : e.platform.magicAccessors = ({} : Platform).magicAccessors := by rw [X.admits.platform]
  obtain ⟨mk, methM, cM, kP, vm₁, hnamed, hmethM, hcodeM, -, hlocalsM, -, hkP, -, hW₁, hstep₁⟩ := Steps.initColdArgs (e := e) X.here hexec X.warmed hpl hown hy1 hy hlink hinst hcode (f := g) rfl hlen hstack hdg
  have X₁ := X.noted hW₁
  rcases hK g.method meth c ⟨T.setVm vm₁, locs, cells, slots⟩ { g with stack := rest } (.invokespecial index) mk (Value.ref a :: argsL).toArray X₁ rfl hsize hdg hW (X₁.named hnamed) (hpre vm₁ X₁.warmed) with ⟨v, B, X', hpost, hsteps⟩ | ⟨q, B, X', hpost, hsteps⟩
  · exact Or.inl ⟨v, vm₁, B, X₁.warmed, X', hpost, fun target h => hstep₁ _ fun acts => by rw [doInvoke_state]; exact hsteps.trans h⟩
  · exact Or.inr ⟨q, vm₁, B, X₁.warmed, X', hpost, hstep₁ _ fun acts => by rw [doInvoke_state]; exact hsteps⟩
end VXIA
section VXIB
variable {p : Program} {l : Launch} {e : Env} {R : Room} {s : State} {m : MethodId} {args : Array Value} {below : List Frame} {meth : Method} {c : Code} {H : Heap} {locs : List Loc} {cells slots : Nat}
variable {y : MethodName} {bytes cc : ByteArray} {maxL nL mc ms n index : Nat} {ret : Option FieldType} {ws : List Cond} {rm : Room} {Pc : Array Value → State → Prop} {Qc : Array Value → State → Outcome → State → Prop} {XC : String → State → State → Prop} {free : Addr → Prop} {Ts : List Cond} {own C : String} {b : Addr} {As rest : List Value} {g : JFrame}
theorem vx_runI (S : CallFix p m c cc nL s args Ts own) (hM : vx_Met l y ws rm Pc Qc XC mc ms free) (cw : CallB R s args own index y bytes maxL none ws rm mc ms n ∧ y.name = "<init>" ∧ (Cond.instanceMethod y).before args s = true) (hp : PreS s H Pc (.ref b :: As))
    (hg : g.method = m) (hn : As.length = n) (hsize : g.locals.size = nL) (hstack : g.stack = As.reverse ++ .ref b :: rest) (hW : 2 * g.monitorRoom + (rest.map fun v => v.category).sum ≤ 8) (hdg : decode cc g.pc = .ok (.invokespecial index, 3)) (hf : cells + mc ≤ R.cells ∧ slots + ms ≤ R.slots) :
    vx_Run p l e R s m args below meth c H locs cells slots mc ms g rest (Qc (Value.ref b :: As).toArray) XC free := by
  have hK : vx_Back l R p e below s args y 3 8 (PreOf R mc ms Pc) (PostOf Qc mc ms free) (vx_Post XC mc ms free) := vx_callBack cw.1 hM hp.1
  obtain ⟨⟨-, -, -, -, -, -, hcode, -, hy, hlen, hl⟩, hy1, hin⟩ := cw
  obtain ⟨hx, hb, hml, ho, -⟩ := S
  have hPc := hp.2
  intro T hT X
  rcases vx_callI X hx (bytes := bytes) (maxL := maxL) ho hy1 hl hin hcode hy hK hg (hsize.trans hml.symm) (a := b) (argsL := As) (rest := rest) (fun sig h => hn.trans (hlen sig h)) hstack hW (by rw [hb]; exact hdg)
    (fun vm₁ hW₁ => ⟨hf.1, hf.2, hPc (T.setVm vm₁) hT hW₁⟩) with ⟨v, vm₁, ⟨U', l2, c2, s2⟩, hW₁, X', ⟨g', mk, t, L, e1, e2, hq, h1, hL, h2, h3⟩, st⟩ | ⟨q, vm₁, ⟨U', l2, c2, s2⟩, hW₁, X', ⟨g', mk, t, L, E, ce, e1, e2, hq, hce, hcv, hcl, h1, hL, h2, h3⟩, st⟩
  · dsimp only [Pt.U, Pt.locs, Pt.cells, Pt.slots] at X' e1 e2 h1 h2 h3 st
    subst h1; subst h2; subst h3
    exact Or.inl ⟨v, (T.setVm vm₁).calling g' mk (Value.ref b :: As).toArray, t, U', L, hT, X', hL, e1, e2, hq, st⟩
  · dsimp only [Pt.U, Pt.locs, Pt.cells, Pt.slots] at X' e1 e2 h1 h2 h3 st hcl
    subst h1; subst h2; subst h3
    exact Or.inr ⟨q, (T.setVm vm₁).calling g' mk (Value.ref b :: As).toArray, t, U', L, E, ce, hT, X', hL, e1, e2, hq, hce, hcv, vx_cls hW₁ hcl, st⟩
end VXIB
theorem ev_ireturn {X : mX} {M : mMD} {f f' : Option Nat} {ce sl mc ms pc : Nat} {L : List Value} {h : mH} {Q : mO → mH → Prop} {x : Int32} (hd : decode (mBy M) pc = .ok (.ireturn, 1)) (hr : mRt M = some .int)  (hf : f = f' ∨ f' = none) (hce : ce ≤ mc) (hsl : sl ≤ ms) (hq : Q (.inl (some (.int x))) h) : Ev X M (f, f', ce, sl, mc, ms) pc L [.int x] h Q := by
  intro p e s m args below meth c H locs ls R C hc hs hW hS hL
  refine vx_ret (W.widen hce hsl ?_)
  exact W.iret C.1 C.2.1 (C.2.2.1.trans hr) (fun t ht _ => ⟨(some (.int x)), h, rfl, hq, by rw [ht]; exact hW.to hf, hS.F ht⟩) hS.2.2 hd C.2.2.2.2.2.2.1
theorem ev_zreturn {X : mX} {M : mMD} {f f' : Option Nat} {ce sl mc ms pc : Nat} {L : List Value} {h : mH} {Q : mO → mH → Prop} {x : Int32} (hd : decode (mBy M) pc = .ok (.ireturn, 1)) (hr : mRt M = some .boolean) (hx : narrow .boolean (.int x) = .int x) (hf : f = f' ∨ f' = none) (hce : ce ≤ mc) (hsl : sl ≤ ms) (hq : Q (.inl (some (.int x))) h) : Ev X M (f, f', ce, sl, mc, ms) pc L [.int x] h Q := by
  intro p e s m args below meth c H locs ls R C hc hs hW hS hL
  refine vx_ret (W.widen hce hsl ?_)
  exact W.zret C.1 C.2.1 (C.2.2.1.trans hr) hx (fun t ht _ => ⟨(some (.int x)), h, rfl, hq, by rw [ht]; exact hW.to hf, hS.F ht⟩) hS.2.2 hd C.2.2.2.2.2.2.1
theorem ev_lreturn {X : mX} {M : mMD} {f f' : Option Nat} {ce sl mc ms pc : Nat} {L : List Value} {h : mH} {Q : mO → mH → Prop} {x : Int64} (hd : decode (mBy M) pc = .ok (.lreturn, 1)) (hr : mRt M = some .long)  (hf : f = f' ∨ f' = none) (hce : ce ≤ mc) (hsl : sl ≤ ms) (hq : Q (.inl (some (.long x))) h) : Ev X M (f, f', ce, sl, mc, ms) pc L [.long x] h Q := by
  intro p e s m args below meth c H locs ls R C hc hs hW hS hL
  refine vx_ret (W.widen hce hsl ?_)
  exact W.lret C.1 C.2.1 (C.2.2.1.trans hr) (fun t ht _ => ⟨(some (.long x)), h, rfl, hq, by rw [ht]; exact hW.to hf, hS.F ht⟩) hS.2.2 hd C.2.2.2.2.2.2.1
theorem ev_dreturn {X : mX} {M : mMD} {f f' : Option Nat} {ce sl mc ms pc : Nat} {L : List Value} {h : mH} {Q : mO → mH → Prop} {x : UInt64} (hd : decode (mBy M) pc = .ok (.dreturn, 1)) (hr : mRt M = some .double)  (hf : f = f' ∨ f' = none) (hce : ce ≤ mc) (hsl : sl ≤ ms) (hq : Q (.inl (some (.double x))) h) : Ev X M (f, f', ce, sl, mc, ms) pc L [.double x] h Q := by
  intro p e s m args below meth c H locs ls R C hc hs hW hS hL
  refine vx_ret (W.widen hce hsl ?_)
  exact W.dret C.1 C.2.1 (C.2.2.1.trans hr) (fun t ht _ => ⟨(some (.double x)), h, rfl, hq, by rw [ht]; exact hW.to hf, hS.F ht⟩) hS.2.2 hd C.2.2.2.2.2.2.1
theorem ev_return {X : mX} {M : mMD} {f f' : Option Nat} {ce sl mc ms pc : Nat} {L : List Value} {h : mH} {Q : mO → mH → Prop}  (hd : decode (mBy M) pc = .ok (.return_, 1)) (hr : mRt M = none)  (hf : f = f' ∨ f' = none) (hce : ce ≤ mc) (hsl : sl ≤ ms) (hq : Q (.inl none) h) : Ev X M (f, f', ce, sl, mc, ms) pc L [] h Q := by
  intro p e s m args below meth c H locs ls R C hc hs hW hS hL
  refine vx_ret (W.widen hce hsl ?_)
  exact W.vret C.1 C.2.1 (C.2.2.1.trans hr) (fun t ht _ => ⟨none, h, rfl, hq, by rw [ht]; exact hW.to hf, hS.F ht⟩) hS.2.2 hd C.2.2.2.2.2.2.1
theorem ev_new {X : mX} {M : mMD} {f' : Option Nat} {n ce sl mc ms pc : Nat} {L st : List Value} {h : mH} {Q : mO → mH → Prop} {idx ci : Nat} {fs : List Value} (hd : decode (mBy M) pc = .ok (.new idx, 3)) (hci : ci < 7) (hcl : Cond.classLink (RN (mOwn M)) idx (RN ci) ∈ WL) (hinst : Cond.instantiable (RN ci) (NN ci) ∈ WL) (hini : Cond.initialized (RN ci) ∈ WL) (hfs : ∀ j, j < NN ci → defaultValue (tyN ci j) = vp_V (fs.map (cv X)) j) (hn : n + 1 < 1000000) (hcells : ce + 1 ≤ mc) (hslots : sl + NN ci ≤ ms) (kk : Ev X M (some (n + 1), f', ce + 1, sl + NN ci, mc, ms) (pc + 3) L (.ref n :: st) (mset h n (aO ci fs)) Q) : Ev X M (some n, f', ce, sl, mc, ms) pc L st h Q := by
  intro p e s m args below meth c H locs ls R C hc hs hW hS hL
  have hK := C.2.2.2.2.2.2.2.2.2.2.2.1.2.1
  have hKn := hK.1 ci _ (cl_at hci)
  refine W.newcK C.1 C.2.1 C.2.2.2.2.1 (C.2.2.2.2.2.1 _ hcl) (C.2.2.2.2.2.1 _ hinst) (C.2.2.2.2.2.1 _ hini) rfl hd (by rw [hc]; exact hcells) (by rw [hs]; exact hslots) hKn.2.1 rfl fun H1 kC hkC e1 z1 o1 => ?_
  have hz := (hW.2.2 n rfl).1
  have e9 : Value.ref H.size = cv X (.ref n) := by
    show Value.ref H.size = Value.ref (xad X n)
    rw [hz, xad, if_pos (hW.2.2 n rfl).2.1]
  rw [e9]
  refine kk p e s m args below meth c H1 locs ls R C hc hs (hW.push hn z1 o1 ⟨_, cl_at hci, (u_born (tyN ci) C.2.2.2.2.2.1 (in_N hci) hKn hkC e1 (ty_N hci)).to hfs⟩) ⟨Nat.le_trans hS.1 (by omega), fun x h1 h2 => (o1 x (Nat.lt_of_lt_of_le h1 hS.1)).trans (hS.2.1 x h1 h2), hS.2.2⟩ hL
theorem ev_newI {X : mX} {M : mMD} {f' : Option Nat} {n ce sl mc ms pc : Nat} {L st : List Value} {h : mH} {Q : mO → mH → Prop} {z : Int32} (k : Nat) (hd : decode (mBy M) pc = .ok (.newarray .int, 2)) (hw : Cond.arrayClass .int ∈ WL) (hz0 : ¬ z < 0) (hzk : z.toNatClampNeg = k) (hk9 : k ≤ 60000) (hn : n + 1 < 1000000) (hcells : ce + 1 ≤ mc) (hslots : sl + k ≤ ms) (kk : Ev X M (some (n + 1), f', ce + 1, sl + k, mc, ms) (pc + 2) L (.ref n :: st) (mset h n (aI k (fun _ => 0))) Q) : Ev X M (some n, f', ce, sl, mc, ms) pc L (.int z :: st) h Q := by
  intro p e s m args below meth c H locs ls R C hc hs hW hS hL
  have hK := C.2.2.2.2.2.2.2.2.2.2.2.1.2.1
  have h8 : componentBytes (newarray.typeOf .int) ≤ 8 := by decide
  have hby : k * componentBytes (newarray.typeOf .int) ≤ 536870912 := by
    have := Nat.mul_le_mul hk9 h8
    omega
  refine va_newaK (atype := .int) C.1 C.2.1 (C.2.2.2.2.2.1 _ hw) rfl hd rfl hz0 hzk hby (by rw [hc]; exact hcells) (by rw [hs]; exact hslots) rfl fun H1 cA e1 z1 o1 hAr hNm => ?_
  have hcA : cA = xK X 0 := Option.some.inj (hNm.symm.trans (hK.2 0 _ rfl).2)
  subst hcA
  have hz := (hW.2.2 n rfl).1
  have e9 : Value.ref H.size = cv X (.ref n) := by
    show Value.ref H.size = Value.ref (xad X n)
    rw [hz, xad, if_pos (hW.2.2 n rfl).2.1]
  rw [e9]
  exact kk p e s m args below meth c H1 locs ls R C hc hs (hW.push hn z1 o1 e1) ⟨Nat.le_trans hS.1 (by omega), fun x h1 h2 => (o1 x (Nat.lt_of_lt_of_le h1 hS.1)).trans (hS.2.1 x h1 h2), hS.2.2⟩ hL
theorem ev_newL {X : mX} {M : mMD} {f' : Option Nat} {n ce sl mc ms pc : Nat} {L st : List Value} {h : mH} {Q : mO → mH → Prop} {z : Int32} (k : Nat) (hd : decode (mBy M) pc = .ok (.newarray .long, 2)) (hw : Cond.arrayClass .long ∈ WL) (hz0 : ¬ z < 0) (hzk : z.toNatClampNeg = k) (hk9 : k ≤ 60000) (hn : n + 1 < 1000000) (hcells : ce + 1 ≤ mc) (hslots : sl + k ≤ ms) (kk : Ev X M (some (n + 1), f', ce + 1, sl + k, mc, ms) (pc + 2) L (.ref n :: st) (mset h n (aL k (fun _ => 0))) Q) : Ev X M (some n, f', ce, sl, mc, ms) pc L (.int z :: st) h Q := by
  intro p e s m args below meth c H locs ls R C hc hs hW hS hL
  have hK := C.2.2.2.2.2.2.2.2.2.2.2.1.2.1
  have h8 : componentBytes (newarray.typeOf .long) ≤ 8 := by decide
  have hby : k * componentBytes (newarray.typeOf .long) ≤ 536870912 := by
    have := Nat.mul_le_mul hk9 h8
    omega
  refine va_newaK (atype := .long) C.1 C.2.1 (C.2.2.2.2.2.1 _ hw) rfl hd rfl hz0 hzk hby (by rw [hc]; exact hcells) (by rw [hs]; exact hslots) rfl fun H1 cA e1 z1 o1 hAr hNm => ?_
  have hcA : cA = xK X 1 := Option.some.inj (hNm.symm.trans (hK.2 1 _ rfl).2)
  subst hcA
  have hz := (hW.2.2 n rfl).1
  have e9 : Value.ref H.size = cv X (.ref n) := by
    show Value.ref H.size = Value.ref (xad X n)
    rw [hz, xad, if_pos (hW.2.2 n rfl).2.1]
  rw [e9]
  exact kk p e s m args below meth c H1 locs ls R C hc hs (hW.push hn z1 o1 e1) ⟨Nat.le_trans hS.1 (by omega), fun x h1 h2 => (o1 x (Nat.lt_of_lt_of_le h1 hS.1)).trans (hS.2.1 x h1 h2), hS.2.2⟩ hL
theorem ev_anew {X : mX} {M : mMD} {f' : Option Nat} {n ce sl mc ms pc : Nat} {L st : List Value} {h : mH} {Q : mO → mH → Prop} {idx : Nat} {z : Int32} (t k : Nat) (hd : decode (mBy M) pc = .ok (.anewarray idx, 3)) (ht : t = 2 ∨ t = 3) (hw : Cond.classLink (RN (mOwn M)) idx (kC t) ∈ WL) (hz0 : ¬ z < 0) (hzk : z.toNatClampNeg = k) (hk9 : k ≤ 60000) (hn : n + 1 < 1000000) (hcells : ce + 1 ≤ mc) (hslots : sl + k ≤ ms) (kk : Ev X M (some (n + 1), f', ce + 1, sl + k, mc, ms) (pc + 3) L (.ref n :: st) (mset h n (aR t k (fun _ => none))) Q) : Ev X M (some n, f', ce, sl, mc, ms) pc L (.int z :: st) h Q := by
  subst hzk
  intro p e s m args below meth c H locs ls R C hc hs hW hS hL
  have hF := C.2.2.2.2.2.2.2.2.2.2.2.1
  have hK := hF.2.1
  have hAO : va_AO (kC t) s := by
    rcases ht with rfl | rfl
    · exact hF.2.2.2.2.2.2.2.2.2.2.1
    · exact hF.2.2.2.2.2.2.2.2.2.2.2.1
  have htc : (xtys X)[t]? = some (xK X t, .object (kC t)) := by rcases ht with rfl | rfl <;> rfl
  refine W.anew C.1 C.2.1 C.2.2.2.2.1 (C.2.2.2.2.2.1 _ hw) (va_AO.use hAO) rfl hd rfl hz0 (by omega) (by rw [hc]; exact hcells) (by rw [hs]; exact hslots) fun cA kA comp f1 f2 f3 f4 => ?_
  generalize hH1 : H.push ({ cls := cA, slots := Array.replicate z.toNatClampNeg .null, vm := .none } : Cell) = H1
  have z1 : H1.size = H.size + 1 := by rw [← hH1, Array.size_push]
  have e1 : H1[H.size]? = some (arrV cA z.toNatClampNeg (fun _ => .null)) := by rw [← hH1, Array.getElem?_push_size, ← arrV_new]
  have o1 : ∀ q : Nat, q < H.size → H1[q]? = H[q]? := fun q hq => by rw [← hH1, Array.getElem?_push, if_neg (Nat.ne_of_lt hq)]
  obtain ⟨kA2, comp2, -, -, -, k4⟩ := (hK.2 t _ htc).2
  have hcA : cA = xK X t := Option.some.inj (f1.symm.trans k4)
  subst hcA
  have hz := (hW.2.2 n rfl).1
  have e9 : Value.ref H.size = cv X (.ref n) := by
    show Value.ref H.size = Value.ref (xad X n)
    rw [hz, xad, if_pos (hW.2.2 n rfl).2.1]
  rw [e9]
  exact kk p e s m args below meth c H1 locs ls R C hc hs (hW.push hn z1 o1 (show H1[H.size]? = some (vp_cell _ _) from by rw [vp_cell_q]; exact e1)) ⟨Nat.le_trans hS.1 (by omega), fun x h1 h2 => (o1 x (Nat.lt_of_lt_of_le h1 hS.1)).trans (hS.2.1 x h1 h2), hS.2.2⟩ hL
theorem ev_objInit {X : mX} {M : mMD} {B : mB} {pc : Nat} {L st : List Value} {h : mH} {Q : mO → mH → Prop} {idx a : Nat} {e0 : mAc} (hd : decode (mBy M) pc = .ok (.invokespecial idx, 3)) (hl : Cond.methodLink (RN (mOwn M)) idx Lib.objectInit ∈ WL) (hi : Cond.instanceMethod Lib.objectInit ∈ WL) (hcd : Cond.code Lib.objectInit ⟨#[0xb1]⟩ 1 none ∈ WL) (hfr : 1 ≤ mFr M) (hlo : (st.map fun v => v.category).sum + 12 ≤ mLo M) (ha : h a = some e0) (kk : Ev X M B (pc + 3) L st h Q) : Ev X M B pc L (.ref a :: st) h Q := by
  intro p e s m args below meth c H locs ls R C hc hs hW hS hL
  show W _ _ _ _ _ _ _ _ _ _ _ _ _ _ _ (F0 m pc ls (.ref (xad X a) :: st.map (cv X)))
  have hK := kk p e s m args below meth c H locs ls R C hc hs hW hS hL
  obtain ⟨-, -, -, hml, hown, hw, -, -, -, hRf, hRl, -, -⟩ := id C
  exact W.objInit C.1 C.2.1 hown (hw _ hl) (hw _ hi) (hw _ hcd) rfl (by rw [hml]; exact hL.1) rfl hd (by rw [hRf]; exact hfr) (by rw [hRl]; show 2 * 0 + _ + 12 ≤ _; rw [cv_cats]; omega) hK
