section
-- ===== PART A: goes FIRST, ahead of the names: the tables' words, and 'selects' of the private methods out of them =====
/-- a private method of a class that the tables say can be made, by its rows of tables_1 -/
def lw_okq (q : MethodName × Nat) : Prop := (q.1.cls ≠ "java/lang/invoke/MethodHandle" ∧ q.1.cls ≠ "java/lang/invoke/VarHandle") ∧ Cond.instantiable q.1.cls q.2 ∈ tables_1 ∧ Cond.privateMethod q.1 ∈ tables_1 ∧ Cond.instanceMethod q.1 ∈ tables_1
theorem lw_p0 : lw_okq (⟨"java/lang/Throwable", "fillInStackTrace", "(I)Ljava/lang/Throwable;"⟩, 6) := ⟨⟨by decide +kernel, by decide +kernel⟩, List.mem_of_getElem? (i := 248) (by decide +kernel), List.mem_of_getElem? (i := 246) (by decide +kernel), List.mem_of_getElem? (i := 247) (by decide +kernel)⟩
theorem lw_p1 : lw_okq (⟨"CutStore", "requireCompleteBuffer", "()V"⟩, 7) := ⟨⟨by decide +kernel, by decide +kernel⟩, List.mem_of_getElem? (i := 18) (by decide +kernel), List.mem_of_getElem? (i := 478) (by decide +kernel), List.mem_of_getElem? (i := 479) (by decide +kernel)⟩
theorem lw_p2 : lw_okq (⟨"CutStore", "changeToTrial", "(I)I"⟩, 7) := ⟨⟨by decide +kernel, by decide +kernel⟩, List.mem_of_getElem? (i := 18) (by decide +kernel), List.mem_of_getElem? (i := 483) (by decide +kernel), List.mem_of_getElem? (i := 484) (by decide +kernel)⟩
def lw_privs_1 : List (MethodName × Nat) := [(⟨"java/lang/Throwable", "fillInStackTrace", "(I)Ljava/lang/Throwable;"⟩, 6), (⟨"CutStore", "requireCompleteBuffer", "()V"⟩, 7), (⟨"CutStore", "changeToTrial", "(I)I"⟩, 7)]
theorem lw_r1 : ∀ q ∈ lw_privs_1, lw_okq q := List.forall_mem_cons.mpr ⟨lw_p0, List.forall_mem_cons.mpr ⟨lw_p1, List.forall_mem_cons.mpr ⟨lw_p2, fun _ h => absurd h List.not_mem_nil⟩⟩⟩
def lw_privs : List (MethodName × Nat) := lw_privs_1
def lw_tbl : List Cond := k2_sels lw_privs ++ tables_1
theorem lw_privs_ok : ∀ q ∈ lw_privs, lw_okq q := lw_r1
-- ===== end of PART A; then your names; then what follows =====
end
section
/-! ===== BEGIN words of one list among another's, by their places ===== -/
theorem goodIn_r {big : List Cond} (ws : List Cond) (ps : List Nat) (hp : ws = ps.filterMap (fun i => big[i]?)) (h : ws.all goodWord = true) : GoodIn big ws := by
  intro w hw
  have h1 := List.all_eq_true.mp h w hw
  rw [hp] at hw
  obtain ⟨i, -, hi⟩ := List.mem_filterMap.mp hw
  have hm : w ∈ big := by first | exact List.mem_of_getElem? hi | exact List.getElem?_mem hi
  exact ⟨hm, good_of_word h1⟩
theorem goodIn_app {big a b : List Cond} (ha : GoodIn big a) (hb : GoodIn big b) : GoodIn big (a ++ b) := fun w h => (List.mem_append.mp h).elim (ha w) (hb w)
theorem goodIn_ca {big a b : List Cond} {c : Cond} (ha : GoodIn big (c :: a)) (hb : GoodIn big b) : GoodIn big (c :: (a ++ b)) := fun w h => (List.mem_cons.mp h).elim (fun e => ha w (List.mem_cons.mpr (Or.inl e))) (fun h => (List.mem_append.mp h).elim (fun h => ha w (List.mem_cons.mpr (Or.inr h))) (hb w))
theorem goodIn_sub {big ws : List Cond} (hm : ∀ w ∈ ws, w ∈ big) (h : ws.all goodWord = true) : GoodIn big ws := fun w hw => ⟨hm w hw, good_of_word (List.all_eq_true.mp h w hw)⟩
/-! ===== END ===== -/

/-! ===== BEGIN exceptions that leave a method, and their catching by the caller (launches without stack traces) ===== -/
section VXA
/-! The laws vx_back, vx_callV, vx_callS, vx_callSW, vx_throw0, vx_throwS follow proofs of the library, with one case more: JvmDerived/Free/Laws.lean (Back.of_free), Shelf42/LK1.lean (callV, callS), Shelf/KitTraced.lean (throwNew0V, throwNewS). -/
/-- where a method has thrown q: the class by its name, the cell, what was written, the world -/
def vx_T (XC : String → State → State → Prop) (st : State) (q : Addr) (t : State) (mc ms : Nat) (free : Addr → Prop) : Prop :=
  ∃ (E : String) (ce : Cell) (L : List Loc), XC E st t ∧ t.heap[q]? = some ce ∧ ce.vm = .none ∧ st.vm.findClass E = some ce.cls ∧ st.WarmedH t.vm ∧ st.sameButNew ({ t with vm := st.vm } : State) L mc ms ∧ ∀ z ∈ L, free z.base
def vx_Q (Qc : Array Value → State → Outcome → State → Prop) (XC : String → State → State → Prop) (mc ms : Nat) (free : Addr → Prop) : Array Value → State → Outcome → State → Prop := fun a st o t =>
  (Qc a st o t ∧ ∃ L, FrameEnd st o t L mc ms ∧ ∀ q ∈ L, free q.base) ∨ ∃ q, o = .threw q ∧ vx_T XC st q t mc ms free
/-- a callee that returns or throws -/
def vx_Met (l : Launch) (y : MethodName) (ws : List Cond) (rm : Room) (Pc : Array Value → State → Prop) (Qc : Array Value → State → Outcome → State → Prop) (XC : String → State → State → Prop) (mc ms : Nat) (free : Addr → Prop) : Prop :=
  MetFree l y (headSpec ws rm) Pc (fun _ _ _ _ _ => True) (vx_Q Qc XC mc ms free)
def vx_Post (XC : String → State → State → Prop) (mc ms : Nat) (free : Addr → Prop) : Pt → Array Value → Addr → Pt → Prop := fun A a q B =>
  ∃ (g : JFrame) (mk : MethodId) (t : State) (L : List Loc) (E : String) (ce : Cell), B.U.heap = t.heap ∧ B.U.vm = t.vm ∧ XC E (A.U.calling g mk a) t ∧ t.heap[q]? = some ce ∧ ce.vm = .none ∧ A.U.vm.findClass E = some ce.cls ∧ B.locs = A.locs ++ L ∧ (∀ z ∈ L, free z.base) ∧ B.cells = A.cells + mc ∧ B.slots = A.slots + ms
def vx_Back (l : Launch) (R : Room) (p : Program) (e : Env) (below : List Frame) (s : State) (sargs : Array Value) (y : MethodName) (len W9 : Nat)
    (Pre : Pt → Array Value → Prop) (Post : Pt → Array Value → Option Value → Pt → Prop) (PostX : Pt → Array Value → Addr → Pt → Prop) : Prop :=
  ∀ (m : MethodId) (meth : Method) (c : Code) (A : Pt) (g : JFrame) (ig : Instr) (mk : MethodId) (a : Array Value),
    Stand p l e R s m sargs below meth c A.U A.locs A.cells A.slots → g.method = m → g.locals.size = c.maxLocals → decode c.code g.pc = .ok (ig, len) →
    2 * g.monitorRoom + (g.stack.map fun v => v.category).sum ≤ W9 → A.U.methodNamed? y = some mk → Pre A a →
    (∃ (v : Option Value) (B : Pt), Stand p l e R s m sargs below meth c B.U B.locs B.cells B.slots ∧ Post A a v B ∧
      Steps p.tables e below (doInvoke e (A.U.setTop g) [] mk a).1 (B.U.setTop { g with pc := g.pc + len, stack := v.toList ++ g.stack })) ∨
    (∃ (q : Addr) (B : Pt), Stand p l e R s m sargs below meth c B.U B.locs B.cells B.slots ∧ PostX A a q B ∧
      Steps p.tables e below (doInvoke e (A.U.setTop g) [] mk a).1 ((B.U.setTop g).pushFrame (.throwing q)))
section Payer
variable {l : Launch} {R : Room} {p : Program} {e : Env} {below : List Frame} {s : State} {sargs : Array Value} {y : MethodName} {len W9 : Nat}
theorem vx_back {ws : List Cond} {rm : Room} {Pc : Array Value → State → Prop} {Qc : Array Value → State → Outcome → State → Prop} {XC : String → State → State → Prop} {mc ms : Nat} {free : Addr → Prop} {bytes : ByteArray} {maxL : Nat} {ret : Option FieldType}
    (hM : vx_Met l y ws rm Pc Qc XC mc ms free) (hblind : FrameBlind Pc) (hrc : rm.cells = mc) (hrs : rm.slots = ms)
    (hframes : rm.frames + 1 ≤ R.frames) (hlocals : W9 + (maxL + 11) + rm.locals ≤ R.locals)
    (hws : ∀ w ∈ ws, ∀ a' U, s.WarmedH U.vm → w.before a' U = true) (hcode : Cond.code y bytes maxL ret ∈ ws) (hinit : ∀ a' U, s.WarmedH U.vm → (Cond.initialized y.cls).before a' U = true) :
    vx_Back l R p e below s sargs y len W9 (PreOf R mc ms Pc) (PostOf Qc mc ms free) (vx_Post XC mc ms free) := by
  intro m meth c A g ig mk a X hg hsize hdg hW hn hp
  have h1 : (headSpec ws rm).pre.before a A.U = true := atoms_intro fun w hw => hws w hw _ _ X.warmed
  have h2 : (Cond.code y bytes maxL ret).before a A.U = true := hws _ hcode _ _ X.warmed
  have h3 : (Cond.initialized y.cls).before a A.U = true := hinit _ _ X.warmed
  have h4 : A.cells + (headSpec ws rm).room.cells ≤ R.cells := by rw [show (headSpec ws rm).room.cells = mc from hrc]; exact hp.1
  have h5 : A.slots + (headSpec ws rm).room.slots ≤ R.slots := by rw [show (headSpec ws rm).room.slots = ms from hrs]; exact hp.2.1
  have hPc : Pc a (A.U.calling g mk a) := hblind _ _ _ _ hp.2.2
  obtain ⟨U, Ls, c0, s0⟩ := A
  dsimp only [Pt.U, Pt.locs, Pt.cells, Pt.slots] at h1 h2 h3 h4 h5 X hn hPc ⊢
  obtain ⟨methY, cY, hmY, hcY, -, hlY, -, -, -, -⟩ := Cond.code_spec hn h2
  obtain ⟨kY, hkY, -⟩ := className_of_methodNamed hn
  have hinitY : kY.init = .initialized := Cond.initialized_spec (findClass_of_methodNamed hn) hkY h3
  have h : At U g.method c below := by rw [hg]; exact X.here
  have hlocals9 : W9 + (maxL + 11) + (headSpec ws rm).room.locals ≤ R.locals := hlocals
  have happ : (headSpec ws rm).appliesLoose y e.platform (U.calling g mk a) = true :=
    Spec.appliesLoose_calling (g := g) h hdg hn hkY hinitY
      (X.room_calling (g := g) (R' := (headSpec ws rm).room) hsize hmY hcY hframes (by rw [hlY]; omega) h4 h5) h1
  obtain ⟨mid, hmid⟩ := h.above
  have hfr : (U.setTop g).frames = (.java g :: mid) ++ below := by rw [State.frames_setTop' g h.top, hmid]; rfl
  obtain ⟨o, s₂, hsteps, -, hend, hq⟩ := Steps.callFree hM p X.admits X.cas X.clock (acts := []) hfr happ hPc trivial
  have hq' : vx_Q Qc XC mc ms free a (U.calling g mk a) o s₂ := hq
  rw [State.frames_setTop' g h.top] at hend
  obtain ⟨g₀, hg0⟩ := Option.isSome_iff_exists.mp h.top
  obtain ⟨r, hr⟩ := State.topJava?_eq_some.mp hg0
  have hr' : (({ U with heap := s₂.heap, slotsUsed := s₂.slotsUsed } : State).setVm s₂.vm).frames = .java g₀ :: r := hr
  rcases hq' with ⟨hqc, L, hfe, hL⟩ | ⟨q, rfl, E, ce, L, hx, hce, hcv, hcl, hW₂, hsm, hL⟩
  · obtain ⟨⟨v, rfl⟩, hW₂, e2, q2, q3, q4, q5, q6⟩ := id hfe
    have e3 : s₂ = ({ (U.calling g mk a).setFrames s₂.frames with heap := s₂.heap, slotsUsed := s₂.slotsUsed } : State).setVm s₂.vm := by
      have : s₂ = ({ s₂ with vm := (U.calling g mk a).vm } : State).setVm s₂.vm := rfl
      rw [e2] at this
      exact this
    obtain ⟨c₂, i₂, len₂, hc₂, hd₂, hf₂⟩ := hend
    have hW' : U.WarmedH s₂.vm := hW₂
    have hcc : c₂ = c := by
      have h1 : s₂.code? g.method = U.code? g.method := by
        rw [State.code?_eq, State.code?_eq, hW'.alike.method?]
      exact Option.some.inj (hc₂.symm.trans (h1.trans h.code))
    subst hcc
    have hlen : len₂ = len := by rw [hdg] at hd₂; cases hd₂; rfl
    subst hlen
    have hs₂ : s₂ = (({ U with heap := s₂.heap, slotsUsed := s₂.slotsUsed } : State).setVm s₂.vm).setTop { g with pc := g.pc + len₂, stack := v.toList ++ g.stack } := by
      refine e3.trans ?_
      rw [hf₂, State.calling_eq h.top, State.setFrames_setFrames, State.setTop_of_frames _ hr', hr]
      rfl
    have hsame : U.sameButNew ({ U with heap := s₂.heap, slotsUsed := s₂.slotsUsed } : State) L mc ms := by
      refine ⟨?_, q2, q3, q4, q5, q6⟩
      obtain ⟨t, ht, -⟩ := State.frames_cons hr
      show ({ U with heap := s₂.heap, slotsUsed := s₂.slotsUsed } : State) = { U.setFrames U.frames with heap := s₂.heap, slotsUsed := s₂.slotsUsed }
      rw [State.setFrames_self ht]
    subst hg
    refine Or.inl ⟨v, ⟨(({ U with heap := s₂.heap, slotsUsed := s₂.slotsUsed } : State).setVm s₂.vm), Ls ++ L, c0 + mc, s0 + ms⟩,
      ⟨X.admits, X.cas, X.clock, X.frames, X.room, X.hears, X.method, X.code, (X.here.setHeapUsed s₂.heap s₂.slotsUsed).setVm hW'.alike, X.tail, State.WarmedH.trans X.warmed hW', X.limits, X.bytes, X.same.trans (hsame.setVm s.vm)⟩,
      ⟨g, mk, s₂, L, rfl, rfl, hqc, rfl, hL, rfl, rfl⟩, ?_⟩
    show Steps p.tables e below _ ((({ U with heap := s₂.heap, slotsUsed := s₂.slotsUsed } : State).setVm s₂.vm).setTop { g with pc := g.pc + len₂, stack := v.toList ++ g.stack })
    rw [← hs₂]
    exact hsteps
  · obtain ⟨e2, q2, q3, q4, q5, q6⟩ := id hsm
    have e3 : s₂ = ({ (U.calling g mk a).setFrames s₂.frames with heap := s₂.heap, slotsUsed := s₂.slotsUsed } : State).setVm s₂.vm := by
      have : s₂ = ({ s₂ with vm := (U.calling g mk a).vm } : State).setVm s₂.vm := rfl
      rw [e2] at this
      exact this
    have hf₂ : s₂.frames = .throwing q :: .java g :: U.frames.tail := hend
    have hW' : U.WarmedH s₂.vm := hW₂
    have hs₂ : s₂ = ((({ U with heap := s₂.heap, slotsUsed := s₂.slotsUsed } : State).setVm s₂.vm).setTop g).pushFrame (.throwing q) := by
      refine e3.trans ?_
      rw [hf₂, State.calling_eq h.top, State.setFrames_setFrames, State.pushFrame, State.frames_setTop _ hr', State.setTop_of_frames _ hr', State.setFrames_setFrames, hr]
      rfl
    have hsame : U.sameButNew ({ U with heap := s₂.heap, slotsUsed := s₂.slotsUsed } : State) L mc ms := by
      refine ⟨?_, q2, q3, q4, q5, q6⟩
      obtain ⟨t, ht, -⟩ := State.frames_cons hr
      show ({ U with heap := s₂.heap, slotsUsed := s₂.slotsUsed } : State) = { U.setFrames U.frames with heap := s₂.heap, slotsUsed := s₂.slotsUsed }
      rw [State.setFrames_self ht]
    subst hg
    refine Or.inr ⟨q, ⟨(({ U with heap := s₂.heap, slotsUsed := s₂.slotsUsed } : State).setVm s₂.vm), Ls ++ L, c0 + mc, s0 + ms⟩,
      ⟨X.admits, X.cas, X.clock, X.frames, X.room, X.hears, X.method, X.code, (X.here.setHeapUsed s₂.heap s₂.slotsUsed).setVm hW'.alike, X.tail, State.WarmedH.trans X.warmed hW', X.limits, X.bytes, X.same.trans (hsame.setVm s.vm)⟩,
      ⟨g, mk, s₂, L, E, ce, rfl, rfl, hx, hce, hcv, hcl, rfl, hL, rfl, rfl⟩, ?_⟩
    show Steps p.tables e below _ (((({ U with heap := s₂.heap, slotsUsed := s₂.slotsUsed } : State).setVm s₂.vm).setTop g).pushFrame (.throwing q))
    rw [← hs₂]
    exact hsteps
end Payer
section Calls
variable {p : Program} {l : Launch} {e : Env} {R : Room} {s : State} {m : MethodId} {args : Array Value} {below : List Frame} {meth : Method} {c : Code} {T : State} {locs : List Loc} {cells slots : Nat}
theorem vx_callV (X : Stand p l e R s m args below meth c T locs cells slots) (hexec : p.tables.exec = Jvm.exec) {own C : String} {index : Nat} {y : MethodName} {bytes : ByteArray} {maxL : Nat} {ret : Option FieldType}
    (hown : s.vm.findClass own = some m.cls) (hlink : (Cond.methodLink own index y).before args s = true) (hinst : (Cond.instanceMethod y).before args s = true) (hsel : (Cond.selects C y y).before args s = true)
    (hcode : (Cond.code y bytes maxL ret).before args s = true) (hy : y.cls ≠ "java/lang/invoke/MethodHandle" ∧ y.cls ≠ "java/lang/invoke/VarHandle")
    {W9 : Nat} {Pre : Pt → Array Value → Prop} {Post : Pt → Array Value → Option Value → Pt → Prop} {PostX : Pt → Array Value → Addr → Pt → Prop} (hK : vx_Back l R p e below s args y 3 W9 Pre Post PostX)
    {b : Addr} {cellB : Cell} (hcell : T.heap[b]? = some cellB) (hobj : cellB.vm.isStatics = false) (hcls : s.vm.findClass C = some cellB.cls)
    {g : JFrame} (hg : g.method = m) (hsize : g.locals.size = c.maxLocals) {argsL rest : List Value} (hlen : ∀ sig, parseMethodDescriptor y.desc = some sig → argsL.length = sig.parameters.length)
    (hstack : g.stack = argsL.reverse ++ .ref b :: rest) (hW : 2 * g.monitorRoom + (rest.map fun v => v.category).sum ≤ W9) (hdg : decode c.code g.pc = .ok (.invokevirtual index, 3))
    (hpre : ∀ vm₁, s.WarmedH vm₁ → Pre ⟨T.setVm vm₁, locs, cells, slots⟩ (Value.ref b :: argsL).toArray) :
    (∃ (v : Option Value) (vm₁ : Vm) (B : Pt), s.WarmedH vm₁ ∧ Stand p l e R s m args below meth c B.U B.locs B.cells B.slots ∧ Post ⟨T.setVm vm₁, locs, cells, slots⟩ (Value.ref b :: argsL).toArray v B ∧
      ∀ target, Steps p.tables e below (B.U.setTop { g with pc := g.pc + 3, stack := v.toList ++ rest }) target → Steps p.tables e below (T.setTop g) target) ∨
    (∃ (q : Addr) (vm₁ : Vm) (B : Pt), s.WarmedH vm₁ ∧ Stand p l e R s m args below meth c B.U B.locs B.cells B.slots ∧ PostX ⟨T.setVm vm₁, locs, cells, slots⟩ (Value.ref b :: argsL).toArray q B ∧
      Steps p.tables e below (T.setTop g) ((B.U.setTop { g with stack := rest }).pushFrame (.throwing q))) := by
  obtain ⟨mk, methM, hnamed, hmethM, hstM, habM⟩ := Cond.instanceMethod_spec hinst
  obtain ⟨methM', cM, hmethM', -, -, -, -, -, -, hsigM⟩ := Cond.code_spec hnamed hcode
  cases hmethM.symm.trans hmethM'
  obtain ⟨c2, r2, m2, q1, q2, q3, q4, kP, hkP, hkPi⟩ := Cond.selects_spec hsel
  cases hcls.symm.trans q1
  cases (State.methodFound?_of_named hnamed hy).symm.trans q2
  cases hnamed.symm.trans q3
  have hselP : selectMethod e.platform s.vm cellB.cls mk = .method mk := by rw [Launch.admits_selectMethod X.admits]; exact q4
  obtain ⟨vm₁, X₁, hstep₁⟩ := X.invokevirtual hexec hown hlink hnamed hmethM hstM hkP hkPi hy (a := b) (cell := cellB) hcell
    (fun z h => by rw [h] at hobj; cases hobj) hselP hmethM habM hkP hkPi (g := g) hg (argsL := argsL) (rest := rest) (hlen _ hsigM) hstack hdg
  rcases hK m meth c ⟨T.setVm vm₁, locs, cells, slots⟩ { g with stack := rest } (.invokevirtual index) mk (Value.ref b :: argsL).toArray X₁ hg hsize hdg hW (X₁.named hnamed) (hpre vm₁ X₁.warmed) with ⟨v, B, X', hpost, hsteps⟩ | ⟨q, B, X', hpost, hsteps⟩
  · exact Or.inl ⟨v, vm₁, B, X₁.warmed, X', hpost, fun target h => hstep₁ _ fun acts => by rw [doInvoke_state]; exact hsteps.trans h⟩
  · exact Or.inr ⟨q, vm₁, B, X₁.warmed, X', hpost, hstep₁ _ fun acts => by rw [doInvoke_state]; exact hsteps⟩
theorem vx_callS (X : Stand p l e R s m args below meth c T locs cells slots) (hexec : p.tables.exec = Jvm.exec) {own : String} {index : Nat} {y : MethodName} {bytes : ByteArray} {maxL : Nat} {ret : Option FieldType}
    (hown : s.vm.findClass own = some m.cls) (hlink : (Cond.methodLink own index y).before args s = true) (hstat : (Cond.static y).before args s = true) (hinit : (Cond.initialized y.cls).before args s = true)
    (hcode : (Cond.code y bytes maxL ret).before args s = true) (hy : y.cls ≠ "java/lang/invoke/MethodHandle" ∧ y.cls ≠ "java/lang/invoke/VarHandle")
    {W9 : Nat} {Pre : Pt → Array Value → Prop} {Post : Pt → Array Value → Option Value → Pt → Prop} {PostX : Pt → Array Value → Addr → Pt → Prop} (hK : vx_Back l R p e below s args y 3 W9 Pre Post PostX)
    {g : JFrame} (hg : g.method = m) (hsize : g.locals.size = c.maxLocals) {argsL rest : List Value} (hlen : ∀ sig, parseMethodDescriptor y.desc = some sig → argsL.length = sig.parameters.length)
    (hstack : g.stack = argsL.reverse ++ rest) (hW : 2 * g.monitorRoom + (rest.map fun v => v.category).sum ≤ W9) (hdg : decode c.code g.pc = .ok (.invokestatic index, 3))
    (hpre : ∀ vm₁, s.WarmedH vm₁ → Pre ⟨T.setVm vm₁, locs, cells, slots⟩ argsL.toArray) :
    (∃ (v : Option Value) (vm₁ : Vm) (B : Pt), s.WarmedH vm₁ ∧ Stand p l e R s m args below meth c B.U B.locs B.cells B.slots ∧ Post ⟨T.setVm vm₁, locs, cells, slots⟩ argsL.toArray v B ∧
      ∀ target, Steps p.tables e below (B.U.setTop { g with pc := g.pc + 3, stack := v.toList ++ rest }) target → Steps p.tables e below (T.setTop g) target) ∨
    (∃ (q : Addr) (vm₁ : Vm) (B : Pt), s.WarmedH vm₁ ∧ Stand p l e R s m args below meth c B.U B.locs B.cells B.slots ∧ PostX ⟨T.setVm vm₁, locs, cells, slots⟩ argsL.toArray q B ∧
      Steps p.tables e below (T.setTop g) ((B.U.setTop { g with stack := rest }).pushFrame (.throwing q))) := by
  obtain ⟨mk, hnamed⟩ := Cond.code_named hcode
  obtain ⟨methM, cM, hmethM, -, -, -, -, -, -, hsigM⟩ := Cond.code_spec hnamed hcode
  have hstatic : methM.isStatic = true := Cond.static_spec hnamed hmethM hstat
  obtain ⟨kP, hkP, -⟩ := className_of_methodNamed hnamed
  have hinitP : kP.init = .initialized := Cond.initialized_spec (findClass_of_methodNamed hnamed) hkP hinit
  obtain ⟨vm₁, X₁, hstep₁⟩ := X.invokestatic hexec hown hlink hnamed hmethM hstatic hkP hinitP hy (g := g) hg (argsL := argsL) (rest := rest) (hlen _ hsigM) hstack hdg
  rcases hK m meth c ⟨T.setVm vm₁, locs, cells, slots⟩ { g with stack := rest } (.invokestatic index) mk argsL.toArray X₁ hg hsize hdg hW (X₁.named hnamed) (hpre vm₁ X₁.warmed) with ⟨v, B, X', hpost, hsteps⟩ | ⟨q, B, X', hpost, hsteps⟩
  · exact Or.inl ⟨v, vm₁, B, X₁.warmed, X', hpost, fun target h => hstep₁ _ fun acts => by rw [doInvoke_state]; exact hsteps.trans h⟩
  · exact Or.inr ⟨q, vm₁, B, X₁.warmed, X', hpost, hstep₁ _ fun acts => by rw [doInvoke_state]; exact hsteps⟩
end Calls
theorem vx_cls {s : State} {T : State} {vm₁ : Vm} {E : String} {k : ClassId} (hW : s.WarmedH vm₁) (h : (T.setVm vm₁).vm.findClass E = some k) : s.vm.findClass E = some k := by
  have h1 : vm₁.findClass E = some k := h
  rw [hW.alike.findClass] at h1
  exact h1
/-- the method's frame g, with q thrown over it -/
def vx_W (p : Program) (l : Launch) (e : Env) (R : Room) (s : State) (m : MethodId) (args : Array Value) (below : List Frame) (meth : Method) (c : Code) (H : Heap) (locs : List Loc) (cells slots : Nat) (Q : State → Prop) (g : JFrame) (q : Addr) : Prop :=
  ∀ T : State, T.heap = H → Stand p l e R s m args below meth c T locs cells slots → ∃ t, Steps p.tables e below ((T.setTop g).pushFrame (.throwing q)) t ∧ Q t
def vx_Run (p : Program) (l : Launch) (e : Env) (R : Room) (s : State) (m : MethodId) (args : Array Value) (below : List Frame) (meth : Method) (c : Code) (H : Heap) (locs : List Loc) (cells slots mc ms : Nat) (g : JFrame) (rest : List Value) (Qa : State → Outcome → State → Prop) (XC : String → State → State → Prop) (free : Addr → Prop) : Prop :=
  ∀ T : State, T.heap = H → Stand p l e R s m args below meth c T locs cells slots →
    (∃ (v : Option Value) (st₀ t T' : State) (L : List Loc), st₀.heap = H ∧ Stand p l e R s m args below meth c T' (locs ++ L) (cells + mc) (slots + ms) ∧ (∀ q ∈ L, free q.base) ∧ T'.heap = t.heap ∧ T'.vm = t.vm ∧ Qa st₀ (.returned v) t ∧
      Goes p e below T g T' { g with pc := g.pc + 3, stack := v.toList ++ rest }) ∨
    (∃ (q : Addr) (st₀ t T' : State) (L : List Loc) (E : String) (ce : Cell), st₀.heap = H ∧ Stand p l e R s m args below meth c T' (locs ++ L) (cells + mc) (slots + ms) ∧ (∀ z ∈ L, free z.base) ∧ T'.heap = t.heap ∧ T'.vm = t.vm ∧ XC E st₀ t ∧ t.heap[q]? = some ce ∧ ce.vm = .none ∧ s.vm.findClass E = some ce.cls ∧
      Steps p.tables e below (T.setTop g) ((T'.setTop { g with stack := rest }).pushFrame (.throwing q)))
def vx_X {S : Type} (px : S → Prop) (B : String → S → State → Prop) (A : Nat → Prop) : String → State → State → Prop := fun E st t => ∃ u : S, px u ∧ B E u t ∧ va_F A st t
section Runs
variable {p : Program} {l : Launch} {e : Env} {R : Room} {s : State} {m : MethodId} {args : Array Value} {below : List Frame} {meth : Method} {c : Code} {H : Heap} {locs : List Loc} {cells slots : Nat}
variable {y : MethodName} {bytes cc : ByteArray} {maxL nL mc ms n index : Nat} {ret : Option FieldType} {ws : List Cond} {rm : Room} {Pc : Array Value → State → Prop} {Qc : Array Value → State → Outcome → State → Prop} {XC : String → State → State → Prop} {free : Addr → Prop} {Ts : List Cond} {own C : String} {b : Addr} {As rest : List Value} {g : JFrame}
theorem vx_callBack (cb : CallB R s args own index y bytes maxL ret ws rm mc ms n) (hM : vx_Met l y ws rm Pc Qc XC mc ms free) (hbl : FrameBlind Pc) : vx_Back l R p e below s args y 3 8 (PreOf R mc ms Pc) (PostOf Qc mc ms free) (vx_Post XC mc ms free) := by
  obtain ⟨hrc, hrs, hfr, hlo, hws, hcw, -, hini, -⟩ := cb
  exact vx_back (bytes := bytes) (maxL := maxL) (ret := ret) hM hbl hrc hrs hfr hlo hws hcw (fun a' U hW => word_at hW (Or.inl (by first | rfl | simp [Cond.onTables, Cond.keeps, Cond.steady])) hini)
theorem vx_runV (S : CallFix p m c cc nL s args Ts own) (hM : vx_Met l y ws rm Pc Qc XC mc ms free) (cw : CallW R s args own C index y bytes maxL ret ws rm mc ms n) (hp : PreV s H C b Pc As)
    (hg : g.method = m) (hn : As.length = n) (hsize : g.locals.size = nL) (hstack : g.stack = As.reverse ++ .ref b :: rest) (hW : 2 * g.monitorRoom + (rest.map fun v => v.category).sum ≤ 8) (hdg : decode cc g.pc = .ok (.invokevirtual index, 3)) (hf : cells + mc ≤ R.cells ∧ slots + ms ≤ R.slots) :
    vx_Run p l e R s m args below meth c H locs cells slots mc ms g rest (Qc (Value.ref b :: As).toArray) XC free := by
  have hK : vx_Back l R p e below s args y 3 8 (PreOf R mc ms Pc) (PostOf Qc mc ms free) (vx_Post XC mc ms free) := vx_callBack cw.1 hM hp.1
  obtain ⟨⟨-, -, -, -, -, -, hcode, -, hy, hlen, hl⟩, hin, hse⟩ := cw
  obtain ⟨hx, hb, hml, ho, -⟩ := S
  obtain ⟨-, ⟨cellB, hcB, hoB, hclB⟩, hPc⟩ := hp
  intro T hT X
  rcases vx_callV X hx (C := C) (bytes := bytes) (maxL := maxL) (ret := ret) ho hl hin hse hcode hy hK (by rw [hT]; exact hcB) hoB hclB hg (hsize.trans hml.symm) (argsL := As) (rest := rest) (fun sig h => hn.trans (hlen sig h)) hstack hW (by rw [hb]; exact hdg)
    (fun vm₁ hW₁ => ⟨hf.1, hf.2, hPc (T.setVm vm₁) hT hW₁⟩) with ⟨v, vm₁, ⟨U', l2, c2, s2⟩, hW₁, X', ⟨g', mk, t, L, e1, e2, hq, h1, hL, h2, h3⟩, st⟩ | ⟨q, vm₁, ⟨U', l2, c2, s2⟩, hW₁, X', ⟨g', mk, t, L, E, ce, e1, e2, hq, hce, hcv, hcl, h1, hL, h2, h3⟩, st⟩
  · dsimp only [Pt.U, Pt.locs, Pt.cells, Pt.slots] at X' e1 e2 h1 h2 h3 st
    subst h1; subst h2; subst h3
    exact Or.inl ⟨v, (T.setVm vm₁).calling g' mk (Value.ref b :: As).toArray, t, U', L, hT, X', hL, e1, e2, hq, st⟩
  · dsimp only [Pt.U, Pt.locs, Pt.cells, Pt.slots] at X' e1 e2 h1 h2 h3 st hcl
    subst h1; subst h2; subst h3
    exact Or.inr ⟨q, (T.setVm vm₁).calling g' mk (Value.ref b :: As).toArray, t, U', L, E, ce, hT, X', hL, e1, e2, hq, hce, hcv, vx_cls hW₁ hcl, st⟩
theorem vx_runS (S : CallFix p m c cc nL s args Ts own) (hM : vx_Met l y ws rm Pc Qc XC mc ms free) (cw : CallB R s args own index y bytes maxL ret ws rm mc ms n ∧ (Cond.static y).before args s = true) (hp : PreS s H Pc As)
    (hg : g.method = m) (hn : As.length = n) (hsize : g.locals.size = nL) (hstack : g.stack = As.reverse ++ rest) (hW : 2 * g.monitorRoom + (rest.map fun v => v.category).sum ≤ 8) (hdg : decode cc g.pc = .ok (.invokestatic index, 3)) (hf : cells + mc ≤ R.cells ∧ slots + ms ≤ R.slots) :
    vx_Run p l e R s m args below meth c H locs cells slots mc ms g rest (Qc As.toArray) XC free := by
  have hK : vx_Back l R p e below s args y 3 8 (PreOf R mc ms Pc) (PostOf Qc mc ms free) (vx_Post XC mc ms free) := vx_callBack cw.1 hM hp.1
  obtain ⟨⟨-, -, -, -, -, -, hcode, hini, hy, hlen, hl⟩, hstt⟩ := cw
  obtain ⟨hx, hb, hml, ho, -⟩ := S
  intro T hT X
  rcases vx_callS X hx (bytes := bytes) (maxL := maxL) (ret := ret) ho hl hstt hini hcode hy hK hg (hsize.trans hml.symm) (argsL := As) (rest := rest) (fun sig h => hn.trans (hlen sig h)) hstack hW (by rw [hb]; exact hdg)
    (fun vm₁ hW₁ => ⟨hf.1, hf.2, hp.2 (T.setVm vm₁) hT hW₁⟩) with ⟨v, vm₁, ⟨U', l2, c2, s2⟩, hW₁, X', ⟨g', mk, t, L, e1, e2, hq, h1, hL, h2, h3⟩, st⟩ | ⟨q, vm₁, ⟨U', l2, c2, s2⟩, hW₁, X', ⟨g', mk, t, L, E, ce, e1, e2, hq, hce, hcv, hcl, h1, hL, h2, h3⟩, st⟩
  · dsimp only [Pt.U, Pt.locs, Pt.cells, Pt.slots] at X' e1 e2 h1 h2 h3 st
    subst h1; subst h2; subst h3
    exact Or.inl ⟨v, (T.setVm vm₁).calling g' mk As.toArray, t, U', L, hT, X', hL, e1, e2, hq, st⟩
  · dsimp only [Pt.U, Pt.locs, Pt.cells, Pt.slots] at X' e1 e2 h1 h2 h3 st hcl
    subst h1; subst h2; subst h3
    exact Or.inr ⟨q, (T.setVm vm₁).calling g' mk As.toArray, t, U', L, E, ce, hT, X', hL, e1, e2, hq, hce, hcv, vx_cls hW₁ hcl, st⟩
end Runs
section Rows
variable {p : Program} {l : Launch} {e : Env} {R : Room} {s : State} {m : MethodId} {args : Array Value} {below : List Frame} {meth : Method} {c : Code} {H : Heap} {locs : List Loc} {cells slots : Nat} {Q : State → Prop}
variable {mc ms : Nat} {free : Addr → Prop} {A0 A1 : Nat → Prop} {H0 : Heap} {a : Array Value} {pc : Nat} {ls : Array Slot} {st0 rest : List Value}
theorem vx_keep {st₀ t T' : State} {L : List Loc} (h0 : st₀.heap = H) (e1 : T'.heap = t.heap) (hS : va_S A0 H0 H locs) (hA : ∀ q, q < H.size → A1 q → A0 q) (hf : ∀ q, free q → A0 q) (hL : ∀ q ∈ L, free q.base) (hF : va_F A1 st₀ t) :
    H.size ≤ T'.heap.size ∧ (∀ q : Nat, q < H.size → ¬ A1 q → T'.heap[q]? = H[q]?) ∧ va_S A0 H0 T'.heap (locs ++ L) := by
  obtain ⟨hz, hk⟩ := hF
  rw [h0] at hz hk
  exact ⟨by rw [e1]; exact hz, fun q h1 h2 => by rw [e1]; exact hk q h1 h2,
    ⟨Nat.le_trans hS.1 (by rw [e1]; exact hz), fun q h1 h2 => by rw [e1, hk q (Nat.lt_of_lt_of_le h1 hS.1) (fun z => h2 (hA q (Nat.lt_of_lt_of_le h1 hS.1) z))]; exact hS.2.1 q h1 h2, fun q hq => by
      rcases List.mem_append.mp hq with h | h
      · exact hS.2.2 q h
      · exact hf _ (hL q h)⟩⟩
theorem vx_calli {S SX : Type} {post : Int32 → S → Prop} {px : SX → Prop} {B : S → State → Prop} {BX : String → SX → State → Prop} {AX : Nat → Prop} (hr : vx_Run p l e R s m args below meth c H locs cells slots mc ms (F0 m pc ls st0) rest (va_Qi post B A1 a) (vx_X px BX AX) free) (hS : va_S A0 H0 H locs) (hA : ∀ q, q < H.size → A1 q → A0 q) (hf : ∀ q, free q → A0 q) (hAX : ∀ q, q < H.size → AX q → A0 q)
    (kx : ∀ (E : String) (ce : Cell) (q9 : Addr) (u : SX) (t : State) (H1 : Heap) (locs1 : List Loc), t.heap = H1 → s.vm.Alike t.vm → px u → BX E u t → H.size ≤ H1.size → (∀ q : Nat, q < H.size → ¬ AX q → H1[q]? = H[q]?) → va_S A0 H0 H1 locs1 → H1[q9]? = some ce → ce.vm = .none → s.vm.findClass E = some ce.cls → vx_W p l e R s m args below meth c H1 locs1 (cells + mc) (slots + ms) Q (F0 m pc ls rest) q9)
    (kk : ∀ (r : Int32) (u : S) (t : State) (H1 : Heap) (locs1 : List Loc), t.heap = H1 → s.vm.Alike t.vm → post r u → B u t → H.size ≤ H1.size → (∀ q : Nat, q < H.size → ¬ A1 q → H1[q]? = H[q]?) → va_S A0 H0 H1 locs1 → W p l e R s m args below meth c H1 locs1 (cells + mc) (slots + ms) Q (F0 m (pc + 3) ls (.int r :: rest))) : W p l e R s m args below meth c H locs cells slots Q (F0 m pc ls st0) := by
  intro T hT X
  rcases hr T hT X with ⟨v, st₀, t, T', L, h0, X', hL, e1, e2, ⟨⟨r, u, hv, hp, hb⟩, hF⟩, st⟩ | ⟨q, st₀, t, T', L, E, ce, h0, X', hL, e1, e2, ⟨u, hp, hb, hF⟩, hce, hcv, hcl, st⟩
  · cases hv
    obtain ⟨k1, k2, k3⟩ := vx_keep h0 e1 hS hA hf hL hF
    obtain ⟨t2, a1, b1⟩ := kk r u t T'.heap (locs ++ L) e1.symm (by rw [← e2]; exact X'.warmed.alike) hp hb k1 k2 k3 T' rfl X'
    exact ⟨t2, st t2 a1, b1⟩
  · obtain ⟨k1, k2, k3⟩ := vx_keep h0 e1 hS hAX hf hL hF
    obtain ⟨t2, a1, b1⟩ := kx E ce q u t T'.heap (locs ++ L) e1.symm (by rw [← e2]; exact X'.warmed.alike) hp hb k1 k2 k3 (by rw [e1]; exact hce) hcv hcl T' rfl X'
    exact ⟨t2, st.trans a1, b1⟩
theorem vx_calll {S SX : Type} {post : Int64 → S → Prop} {px : SX → Prop} {B : S → State → Prop} {BX : String → SX → State → Prop} {AX : Nat → Prop} (hr : vx_Run p l e R s m args below meth c H locs cells slots mc ms (F0 m pc ls st0) rest (va_Ql post B A1 a) (vx_X px BX AX) free) (hS : va_S A0 H0 H locs) (hA : ∀ q, q < H.size → A1 q → A0 q) (hf : ∀ q, free q → A0 q) (hAX : ∀ q, q < H.size → AX q → A0 q)
    (kx : ∀ (E : String) (ce : Cell) (q9 : Addr) (u : SX) (t : State) (H1 : Heap) (locs1 : List Loc), t.heap = H1 → s.vm.Alike t.vm → px u → BX E u t → H.size ≤ H1.size → (∀ q : Nat, q < H.size → ¬ AX q → H1[q]? = H[q]?) → va_S A0 H0 H1 locs1 → H1[q9]? = some ce → ce.vm = .none → s.vm.findClass E = some ce.cls → vx_W p l e R s m args below meth c H1 locs1 (cells + mc) (slots + ms) Q (F0 m pc ls rest) q9)
    (kk : ∀ (r : Int64) (u : S) (t : State) (H1 : Heap) (locs1 : List Loc), t.heap = H1 → s.vm.Alike t.vm → post r u → B u t → H.size ≤ H1.size → (∀ q : Nat, q < H.size → ¬ A1 q → H1[q]? = H[q]?) → va_S A0 H0 H1 locs1 → W p l e R s m args below meth c H1 locs1 (cells + mc) (slots + ms) Q (F0 m (pc + 3) ls (.long r :: rest))) : W p l e R s m args below meth c H locs cells slots Q (F0 m pc ls st0) := by
  intro T hT X
  rcases hr T hT X with ⟨v, st₀, t, T', L, h0, X', hL, e1, e2, ⟨⟨r, u, hv, hp, hb⟩, hF⟩, st⟩ | ⟨q, st₀, t, T', L, E, ce, h0, X', hL, e1, e2, ⟨u, hp, hb, hF⟩, hce, hcv, hcl, st⟩
  · cases hv
    obtain ⟨k1, k2, k3⟩ := vx_keep h0 e1 hS hA hf hL hF
    obtain ⟨t2, a1, b1⟩ := kk r u t T'.heap (locs ++ L) e1.symm (by rw [← e2]; exact X'.warmed.alike) hp hb k1 k2 k3 T' rfl X'
    exact ⟨t2, st t2 a1, b1⟩
  · obtain ⟨k1, k2, k3⟩ := vx_keep h0 e1 hS hAX hf hL hF
    obtain ⟨t2, a1, b1⟩ := kx E ce q u t T'.heap (locs ++ L) e1.symm (by rw [← e2]; exact X'.warmed.alike) hp hb k1 k2 k3 (by rw [e1]; exact hce) hcv hcl T' rfl X'
    exact ⟨t2, st.trans a1, b1⟩
theorem vx_callf {S SX : Type} {post : UInt32 → S → Prop} {px : SX → Prop} {B : S → State → Prop} {BX : String → SX → State → Prop} {AX : Nat → Prop} (hr : vx_Run p l e R s m args below meth c H locs cells slots mc ms (F0 m pc ls st0) rest (va_Qf post B A1 a) (vx_X px BX AX) free) (hS : va_S A0 H0 H locs) (hA : ∀ q, q < H.size → A1 q → A0 q) (hf : ∀ q, free q → A0 q) (hAX : ∀ q, q < H.size → AX q → A0 q)
    (kx : ∀ (E : String) (ce : Cell) (q9 : Addr) (u : SX) (t : State) (H1 : Heap) (locs1 : List Loc), t.heap = H1 → s.vm.Alike t.vm → px u → BX E u t → H.size ≤ H1.size → (∀ q : Nat, q < H.size → ¬ AX q → H1[q]? = H[q]?) → va_S A0 H0 H1 locs1 → H1[q9]? = some ce → ce.vm = .none → s.vm.findClass E = some ce.cls → vx_W p l e R s m args below meth c H1 locs1 (cells + mc) (slots + ms) Q (F0 m pc ls rest) q9)
    (kk : ∀ (r : UInt32) (u : S) (t : State) (H1 : Heap) (locs1 : List Loc), t.heap = H1 → s.vm.Alike t.vm → post r u → B u t → H.size ≤ H1.size → (∀ q : Nat, q < H.size → ¬ A1 q → H1[q]? = H[q]?) → va_S A0 H0 H1 locs1 → W p l e R s m args below meth c H1 locs1 (cells + mc) (slots + ms) Q (F0 m (pc + 3) ls (.float r :: rest))) : W p l e R s m args below meth c H locs cells slots Q (F0 m pc ls st0) := by
  intro T hT X
  rcases hr T hT X with ⟨v, st₀, t, T', L, h0, X', hL, e1, e2, ⟨⟨r, u, hv, hp, hb⟩, hF⟩, st⟩ | ⟨q, st₀, t, T', L, E, ce, h0, X', hL, e1, e2, ⟨u, hp, hb, hF⟩, hce, hcv, hcl, st⟩
  · cases hv
    obtain ⟨k1, k2, k3⟩ := vx_keep h0 e1 hS hA hf hL hF
    obtain ⟨t2, a1, b1⟩ := kk r u t T'.heap (locs ++ L) e1.symm (by rw [← e2]; exact X'.warmed.alike) hp hb k1 k2 k3 T' rfl X'
    exact ⟨t2, st t2 a1, b1⟩
  · obtain ⟨k1, k2, k3⟩ := vx_keep h0 e1 hS hAX hf hL hF
    obtain ⟨t2, a1, b1⟩ := kx E ce q u t T'.heap (locs ++ L) e1.symm (by rw [← e2]; exact X'.warmed.alike) hp hb k1 k2 k3 (by rw [e1]; exact hce) hcv hcl T' rfl X'
    exact ⟨t2, st.trans a1, b1⟩
theorem vx_calld {S SX : Type} {post : UInt64 → S → Prop} {px : SX → Prop} {B : S → State → Prop} {BX : String → SX → State → Prop} {AX : Nat → Prop} (hr : vx_Run p l e R s m args below meth c H locs cells slots mc ms (F0 m pc ls st0) rest (va_Qd post B A1 a) (vx_X px BX AX) free) (hS : va_S A0 H0 H locs) (hA : ∀ q, q < H.size → A1 q → A0 q) (hf : ∀ q, free q → A0 q) (hAX : ∀ q, q < H.size → AX q → A0 q)
    (kx : ∀ (E : String) (ce : Cell) (q9 : Addr) (u : SX) (t : State) (H1 : Heap) (locs1 : List Loc), t.heap = H1 → s.vm.Alike t.vm → px u → BX E u t → H.size ≤ H1.size → (∀ q : Nat, q < H.size → ¬ AX q → H1[q]? = H[q]?) → va_S A0 H0 H1 locs1 → H1[q9]? = some ce → ce.vm = .none → s.vm.findClass E = some ce.cls → vx_W p l e R s m args below meth c H1 locs1 (cells + mc) (slots + ms) Q (F0 m pc ls rest) q9)
    (kk : ∀ (r : UInt64) (u : S) (t : State) (H1 : Heap) (locs1 : List Loc), t.heap = H1 → s.vm.Alike t.vm → post r u → B u t → H.size ≤ H1.size → (∀ q : Nat, q < H.size → ¬ A1 q → H1[q]? = H[q]?) → va_S A0 H0 H1 locs1 → W p l e R s m args below meth c H1 locs1 (cells + mc) (slots + ms) Q (F0 m (pc + 3) ls (.double r :: rest))) : W p l e R s m args below meth c H locs cells slots Q (F0 m pc ls st0) := by
  intro T hT X
  rcases hr T hT X with ⟨v, st₀, t, T', L, h0, X', hL, e1, e2, ⟨⟨r, u, hv, hp, hb⟩, hF⟩, st⟩ | ⟨q, st₀, t, T', L, E, ce, h0, X', hL, e1, e2, ⟨u, hp, hb, hF⟩, hce, hcv, hcl, st⟩
  · cases hv
    obtain ⟨k1, k2, k3⟩ := vx_keep h0 e1 hS hA hf hL hF
    obtain ⟨t2, a1, b1⟩ := kk r u t T'.heap (locs ++ L) e1.symm (by rw [← e2]; exact X'.warmed.alike) hp hb k1 k2 k3 T' rfl X'
    exact ⟨t2, st t2 a1, b1⟩
  · obtain ⟨k1, k2, k3⟩ := vx_keep h0 e1 hS hAX hf hL hF
    obtain ⟨t2, a1, b1⟩ := kx E ce q u t T'.heap (locs ++ L) e1.symm (by rw [← e2]; exact X'.warmed.alike) hp hb k1 k2 k3 (by rw [e1]; exact hce) hcv hcl T' rfl X'
    exact ⟨t2, st.trans a1, b1⟩
theorem vx_callv {S SX : Type} {post : S → Prop} {px : SX → Prop} {B : S → State → Prop} {BX : String → SX → State → Prop} {AX : Nat → Prop} (hr : vx_Run p l e R s m args below meth c H locs cells slots mc ms (F0 m pc ls st0) rest (va_Qv post B A1 a) (vx_X px BX AX) free) (hS : va_S A0 H0 H locs) (hA : ∀ q, q < H.size → A1 q → A0 q) (hf : ∀ q, free q → A0 q) (hAX : ∀ q, q < H.size → AX q → A0 q)
    (kx : ∀ (E : String) (ce : Cell) (q9 : Addr) (u : SX) (t : State) (H1 : Heap) (locs1 : List Loc), t.heap = H1 → s.vm.Alike t.vm → px u → BX E u t → H.size ≤ H1.size → (∀ q : Nat, q < H.size → ¬ AX q → H1[q]? = H[q]?) → va_S A0 H0 H1 locs1 → H1[q9]? = some ce → ce.vm = .none → s.vm.findClass E = some ce.cls → vx_W p l e R s m args below meth c H1 locs1 (cells + mc) (slots + ms) Q (F0 m pc ls rest) q9)
    (kk : ∀ (u : S) (t : State) (H1 : Heap) (locs1 : List Loc), t.heap = H1 → s.vm.Alike t.vm → post u → B u t → H.size ≤ H1.size → (∀ q : Nat, q < H.size → ¬ A1 q → H1[q]? = H[q]?) → va_S A0 H0 H1 locs1 → W p l e R s m args below meth c H1 locs1 (cells + mc) (slots + ms) Q (F0 m (pc + 3) ls (rest))) : W p l e R s m args below meth c H locs cells slots Q (F0 m pc ls st0) := by
  intro T hT X
  rcases hr T hT X with ⟨v, st₀, t, T', L, h0, X', hL, e1, e2, ⟨⟨u, hv, hp, hb⟩, hF⟩, st⟩ | ⟨q, st₀, t, T', L, E, ce, h0, X', hL, e1, e2, ⟨u, hp, hb, hF⟩, hce, hcv, hcl, st⟩
  · cases hv
    obtain ⟨k1, k2, k3⟩ := vx_keep h0 e1 hS hA hf hL hF
    obtain ⟨t2, a1, b1⟩ := kk u t T'.heap (locs ++ L) e1.symm (by rw [← e2]; exact X'.warmed.alike) hp hb k1 k2 k3 T' rfl X'
    exact ⟨t2, st t2 a1, b1⟩
  · obtain ⟨k1, k2, k3⟩ := vx_keep h0 e1 hS hAX hf hL hF
    obtain ⟨t2, a1, b1⟩ := kx E ce q u t T'.heap (locs ++ L) e1.symm (by rw [← e2]; exact X'.warmed.alike) hp hb k1 k2 k3 (by rw [e1]; exact hce) hcv hcl T' rfl X'
    exact ⟨t2, st.trans a1, b1⟩
/-- caught by the row x of this method's table; the rows ahead don't take it -/
theorem vx_catch {own name : String} {E : String} {ce : Cell} {q : Addr} (hown : s.vm.findClass own = some m.cls) (pre : List ExceptionTableEntry) (x : ExceptionTableEntry) (suf : List ExceptionTableEntry) (hsplit : c.exceptionTable.toList = pre ++ x :: suf)
    (hpass : ∀ z ∈ pre, covers z pc = false ∨ (z.catchType ≠ 0 ∧ ∃ nm : String, (Cond.classLink own z.catchType nm).before args s = true ∧ va_Nc E nm s)) (hx : covers x pc = true) (h0 : x.catchType ≠ 0)
    (hlink : (Cond.classLink own x.catchType name).before args s = true) (hcast : (Cond.castable E name).before args s = true) (hcell : H[q]? = some ce) (hv : ce.vm = .none) (hcl : s.vm.findClass E = some ce.cls)
    (kk : W p l e R s m args below meth c H locs cells slots Q (F0 m x.handlerPc ls [.ref q])) : vx_W p l e R s m args below meth c H locs cells slots Q (F0 m pc ls rest) q := by
  intro T hT X
  have hpl : e.platform.magicAccessors = ({} : Platform).magicAccessors := by rw [X.admits.platform]
  obtain ⟨c3, c4, hc3, hc4, hasg⟩ := Cond.castable_spec hcast
  cases Option.some.inj (hc3.symm.trans hcl)
  obtain ⟨c5, hc5, hcl5⟩ := Cond.classLink_spec hown hlink e.platform hpl
  cases Option.some.inj (hc4.symm.trans hc5)
  obtain ⟨vm', X', st⟩ := X.thenCaughtThrough q (g := F0 m pc ls rest) rfl (Steps.refl _) (by rw [hT]; exact hcell) (by rw [hv]; rfl) (by obtain ⟨k9, h9, -⟩ := Vm.findClass_spec hcl; exact ⟨k9, h9⟩) pre x suf hsplit
    (fun z hz => by
      rcases hpass z hz with h | ⟨hz0, nm, hl1, hn1⟩
      · exact Or.inl h
      · obtain ⟨c6, hc6, hcl6⟩ := Cond.classLink_spec hown hl1 e.platform hpl
        obtain ⟨a8, b8, h1, h2, h3⟩ := hn1
        cases Option.some.inj (h1.symm.trans hcl)
        cases Option.some.inj (h2.symm.trans hc6)
        exact Or.inr ⟨hz0, _, hcl6, h3⟩) hx (Or.inr ⟨h0, c4, hcl5, hasg⟩)
  obtain ⟨t, a1, b1⟩ := kk (T.setVm vm') hT X'
  exact ⟨t, st.trans a1, b1⟩
end Rows
section Ends
variable {p : Program} {l : Launch} {e : Env} {R : Room} {s : State} {m : MethodId} {args : Array Value} {below : List Frame} {meth : Method} {c : Code} {H : Heap} {locs : List Loc} {cells slots : Nat} {Q : State → Prop}
variable {mc ms : Nat} {free : Addr → Prop} {A0 A1 : Nat → Prop} {H0 : Heap} {a : Array Value} {ls : Array Slot} {st0 rest : List Value}
variable {Qc : Array Value → State → Outcome → State → Prop} {XC : String → State → State → Prop}
/-- what a body that may throw owes at its end -/
def vx_MQ (below : List Frame) (Qc : Array Value → State → Outcome → State → Prop) (XC : String → State → State → Prop) (a : Array Value) (s : State) (mc ms : Nat) (free : Addr → Prop) : State → Prop := fun t =>
  ∃ o, t.status = .running ∧ Ended t below o ∧ vx_Q Qc XC mc ms free a s o t
theorem vx_ret {g : JFrame} {mc ms : Nat} (k : W p l e R s m args below meth c H locs cells slots (MQ below Qc args s mc ms free) g) : W p l e R s m args below meth c H locs cells slots (vx_MQ below Qc XC args s mc ms free) g := by
  intro T hT X
  obtain ⟨t, a1, o, b1, b2, b3, b4⟩ := k T hT X
  exact ⟨t, a1, o, b1, b2, Or.inl ⟨b3, b4⟩⟩
/-- not caught here: it goes on to the caller -/
theorem vx_widen {g : JFrame} {q : Addr} {k n : Nat} (h1 : cells ≤ k) (h2 : slots ≤ n) (kk : vx_W p l e R s m args below meth c H locs k n Q g q) : vx_W p l e R s m args below meth c H locs cells slots Q g q := fun T hT X => kk T hT (stand_widen X h1 h2)
theorem vx_out {pc : Nat} {E : String} {ce : Cell} {q : Addr} {mc ms : Nat} (hout : ∀ x ∈ c.exceptionTable.toList, covers x pc = false) (hlocks : meth.locks = false) (hcell : H[q]? = some ce) (hv : ce.vm = .none) (hcl : s.vm.findClass E = some ce.cls)
    (hx : ∀ t : State, t.heap = H → s.vm.Alike t.vm → XC E s t) (hf : ∀ z ∈ locs, free z.base) (hc : cells ≤ mc) (hs : slots ≤ ms) :
    vx_W p l e R s m args below meth c H locs cells slots (vx_MQ below Qc XC args s mc ms free) (F0 m pc ls rest) q := by
  intro T hT X
  obtain ⟨st1, hrun, hend, hW, hsm⟩ := X.leaveThrown q (g := F0 m pc ls rest) rfl rfl rfl hout hlocks
  have hcell9 : (T.setFrames (.throwing q :: below)).heap[q]? = some ce := by
    show T.heap[q]? = some ce
    rw [hT]; exact hcell
  exact ⟨_, st1, .threw q, hrun, hend, Or.inr ⟨q, rfl, E, ce, locs, hx _ hT hW.alike, hcell9, hv, hcl, hW, hsm.mono hc hs, hf⟩⟩
theorem vx_frame {U : State} {k n : Nat} (h : s.sameButNew ({ U with vm := s.vm } : State) locs k n) : s.heap.size ≤ U.heap.size ∧ ∀ q : Nat, q < s.heap.size → (∀ z ∈ locs, z.base ≠ q) → U.heap[q]? = s.heap[q]? := by
  obtain ⟨-, h2, -, -, -, h6⟩ := h
  refine ⟨h2, fun q hq hz => ?_⟩
  obtain ⟨c9, e1, e2, e3, e4⟩ := h6 q _ (Array.getElem?_eq_getElem hq)
  have hs : c9.slots = (s.heap[q]).slots := Array.ext_getElem? fun i => e4 i fun hm => hz _ hm rfl
  have h9 : c9 = s.heap[q] := by
    rw [hs] at e2
    exact e2
  have e5 : U.heap[q]? = some c9 := e1
  rw [e5, h9, Array.getElem?_eq_getElem hq]
/-- the words of a throw but the four that speak of the heap -/
def vx_no (w : Cond) : Bool := decide (w ≠ .isRef (.static Bundle.tN "UNASSIGNED_STACK" Bundle.steD)) && decide (w ≠ .isRef (.static Bundle.tN "SUPPRESSED_SENTINEL" Bundle.listD)) && decide (w ≠ .laysStatic Bundle.tN "UNASSIGNED_STACK" Bundle.steD) && decide (w ≠ .laysStatic Bundle.tN "SUPPRESSED_SENTINEL" Bundle.listD)
def vx_at0 (own : String) (ic : Nat) (X : String) (names : List String) : List Cond := (Bundle.ownAtoms0 own ic X names).filter vx_no
def vx_atS (own : String) (ic : Nat) (X : String) (names : List String) : List Cond := (Bundle.ownAtoms own ic X names).filter vx_no
/-- a word that the tables alone decide, or a good one -/
def vx_ot (w : Cond) : Bool := w.onTables || goodWord w
theorem vx_ot_at {args a' : Array Value} {s U : State} {w : Cond} (hW : s.WarmedH U.vm) (hvm : s.vm = U.vm) (hg : vx_ot w = true) (h : w.before args s = true) : w.before a' U = true := by
  simp only [vx_ot, Bool.or_eq_true] at hg
  rcases hg with hg | hg
  · exact va_tabs hg hvm h
  · exact word_at hW (good_of_word hg) h
/-- a list's words: the good ones out of the method's own list, the others by premises of their own -/
theorem vx_hat {args : Array Value} {s : State} {L B : List Cond} (h1 : ∀ w ∈ L.filter goodWord, w.before args s = true) (h2 : ∀ w ∈ L.filter (fun w => !goodWord w), w ∈ B) (h3 : ∀ w ∈ B, w.before args s = true) : ∀ w ∈ L, w.before args s = true := by
  intro w hw
  by_cases g : goodWord w = true
  · exact h1 w (List.mem_filter.mpr ⟨hw, g⟩)
  · refine h3 w (h2 w (List.mem_filter.mpr ⟨hw, ?_⟩))
    show (!goodWord w) = true
    cases hgw : goodWord w
    · rfl
    · exact absurd hgw g
theorem vx_c {args : Array Value} {s : State} {w : Cond} {B : List Cond} (h : w.before args s = true) (t : ∀ w ∈ B, w.before args s = true) : ∀ w' ∈ w :: B, w'.before args s = true := fun w' h' => (List.mem_cons.mp h').elim (fun e => by rw [e]; exact h) (t w')
theorem vx_n {args : Array Value} {s : State} : ∀ w ∈ ([] : List Cond), w.before args s = true := fun _ h => nomatch h
theorem vx_own {args : Array Value} {s : State} {L : List Cond} (h1 : ∀ w ∈ L.filter vx_no, w.before args s = true)
    (hU : (Cond.isRef (.static Bundle.tN "UNASSIGNED_STACK" Bundle.steD)).before args s = true) (hN : (Cond.isRef (.static Bundle.tN "SUPPRESSED_SENTINEL" Bundle.listD)).before args s = true)
    (lU : (Cond.laysStatic Bundle.tN "UNASSIGNED_STACK" Bundle.steD).before args s = true) (lN : (Cond.laysStatic Bundle.tN "SUPPRESSED_SENTINEL" Bundle.listD).before args s = true) : ∀ w ∈ L, w.before args s = true := by
  intro w hw
  by_cases e1 : w = .isRef (.static Bundle.tN "UNASSIGNED_STACK" Bundle.steD)
  · rw [e1]; exact hU
  · by_cases e2 : w = .isRef (.static Bundle.tN "SUPPRESSED_SENTINEL" Bundle.listD)
    · rw [e2]; exact hN
    · by_cases e3 : w = .laysStatic Bundle.tN "UNASSIGNED_STACK" Bundle.steD
      · rw [e3]; exact lU
      · by_cases e4 : w = .laysStatic Bundle.tN "SUPPRESSED_SENTINEL" Bundle.listD
        · rw [e4]; exact lN
        · exact h1 w (List.mem_filter.mpr ⟨hw, by unfold vx_no; rw [decide_eq_true e1, decide_eq_true e2, decide_eq_true e3, decide_eq_true e4]; rfl⟩)
/-- where a static field lies, its class's statics cell in H -/
def vx_L (C n d : String) (A : Nat → Prop) (U : State) (H : Heap) : Prop := ∃ (c : ClassId) (k : Class) (i : Nat) (f : Field) (a : Nat) (cell : Cell), U.vm.findClass C = some c ∧ U.fieldFound? C n d = some (c, k, i, f) ∧ f.isStatic = true ∧ k.statics = some a ∧ H[a]? = some cell ∧ cell.vm.isStatics = true ∧ cell.cls = c ∧ f.slot < cell.slots.size ∧ k.staticTypes[f.slot]? = some f.type ∧ ¬ A a
theorem vx_L.moved {C n d : String} {A : Nat → Prop} {u U : State} {H : Heap} (hvm : u.vm.Alike U.vm) (h : vx_L C n d A u H) : vx_L C n d A U H := by
  obtain ⟨c, k, i, f, a, cell, h1, h2, h3, h4, h5, h6, h7, h8, h9, h10⟩ := h
  obtain ⟨k', hi', he⟩ := State.fieldFound?_setVm hvm h2
  exact ⟨c, k', i, f, a, cell, by rw [hvm.findClass]; exact h1, hi', h3, by rw [he]; exact h4, h5, h6, h7, h8, by rw [he]; exact h9, h10⟩
theorem vx_L.kept {C n d : String} {A : Nat → Prop} {U : State} {H H1 : Heap} (h : vx_L C n d A U H) (hq : ∀ a : Nat, a < H.size → ¬ A a → H1[a]? = H[a]?) : vx_L C n d A U H1 := by
  obtain ⟨c, k, i, f, a, cell, h1, h2, h3, h4, h5, h6, h7, h8, h9, h10⟩ := h
  exact ⟨c, k, i, f, a, cell, h1, h2, h3, h4, by rw [hq a (Array.getElem?_eq_some_iff.mp h5).1 h10]; exact h5, h6, h7, h8, h9, h10⟩
theorem vx_L.narrow {C n d : String} {A B : Nat → Prop} {U : State} {H : Heap} (h : vx_L C n d A U H) (hAB : ∀ q, B q → A q) : vx_L C n d B U H := by
  obtain ⟨c, k, i, f, a, cell, h1, h2, h3, h4, h5, h6, h7, h8, h9, h10⟩ := h
  exact ⟨c, k, i, f, a, cell, h1, h2, h3, h4, h5, h6, h7, h8, h9, fun z => h10 (hAB _ z)⟩
theorem vx_L.word {C n d : String} {A : Nat → Prop} {s : State} {args : Array Value} (h : vx_L C n d A s s.heap) : (Cond.laysStatic C n d).before args s = true := by
  obtain ⟨c, k, i, f, a, cell, h1, h2, h3, h4, h5, h6, h7, h8, h9, -⟩ := h
  show (Cond.laysStatic C n d).holds args s none s [] = true
  exact Cond.laysStatic_of h1 h2 h3 h4 h5 h6 h7 h8 h9
/-- .. and what it holds: null or some reference -/
def vx_Zq (C n d : String) (A : Nat → Prop) (U : State) (H : Heap) : Prop := va_Zq C n d A U H ∧ vx_L C n d A U H
theorem vx_Zq.moved {C n d : String} {A : Nat → Prop} {u U : State} {H : Heap} (hvm : u.vm.Alike U.vm) (h : vx_Zq C n d A u H) : vx_Zq C n d A U H := ⟨va_Zq.moved hvm h.1, vx_L.moved hvm h.2⟩
theorem vx_Zq.kept {C n d : String} {A : Nat → Prop} {U : State} {H H1 : Heap} (h : vx_Zq C n d A U H) (hq : ∀ a : Nat, a < H.size → ¬ A a → H1[a]? = H[a]?) : vx_Zq C n d A U H1 := ⟨va_Zq.kept h.1 hq, vx_L.kept h.2 hq⟩
theorem vx_Zq.narrow {C n d : String} {A B : Nat → Prop} {U : State} {H : Heap} (h : vx_Zq C n d A U H) (hAB : ∀ q, B q → A q) : vx_Zq C n d B U H := ⟨va_Zq.narrow h.1 hAB, vx_L.narrow h.2 hAB⟩
theorem vx_Zqof {args : Array Value} {s : State} {C n d : String} {A : Nat → Prop} (hl : (Cond.laysStatic C n d).before args s = true) (hini : (Cond.initialized C).before args s = true) (h : (Cond.isRef (.static C n d)).before args s = true) (hA : ∀ a : Nat, a < s.heap.size → ¬ A a) : vx_Zq C n d A s s.heap := by
  refine ⟨va_Zqof hl hini h hA, ?_⟩
  obtain ⟨c, k, i, f, a, cell, h1, h2, h3, h4, h5, h6, h7, h8, h9⟩ := Cond.laysStatic_spec hl
  exact ⟨c, k, i, f, a, cell, h1, h2, h3, h4, h5, h6, h7, h8, h9, hA a (Array.getElem?_eq_some_iff.mp h5).1⟩
theorem vx_isRef {C n d : String} {v : Value} {A : Nat → Prop} {s : State} {args : Array Value} (h : va_Z C n d v A s s.heap) (hv : v.isRef = true) : (Cond.isRef (.static C n d)).before args s = true := by
  obtain ⟨cf, kf, fi, f, a, cell, h1, h2, h3, h4, h5, h6, h7, -⟩ := h
  have he : (Term.static C n d).eval args s none [] s = some v := by
    simp [Term.eval, State.fieldNamed?, h1, h2, h4, h5, h6, h7]
  simp only [Cond.before, Cond.holds, Cond.value, he]
  cases v <;> simp_all [Value.isRef]
theorem vx_isRefq {C n d : String} {A : Nat → Prop} {s : State} {args : Array Value} (h : va_Zq C n d A s s.heap) : (Cond.isRef (.static C n d)).before args s = true := by
  rcases h with h | ⟨t, h⟩
  · exact vx_isRef h rfl
  · exact vx_isRef h rfl
/-- the same frame, seen from here: as if the method were called anew in this heap -/
theorem vx_rebase {T : State} (X : Stand p l e R s m args below meth c T locs cells slots) {R' : Room} (hf : R'.frames ≤ R.frames) (hl : R'.locals ≤ R.locals) (hc : cells + R'.cells ≤ R.cells) (hs : slots + R'.slots ≤ R.slots) :
    Stand p l e R' ((T.setVm s.vm).setFrames (.invoking m args :: below)) m args below meth c T [] 0 0 := by
  have htop : (T.setVm s.vm).topJava?.isSome := X.here.top
  have hF : ((T.setVm s.vm).setFrames (.invoking m args :: below)).frames = .invoking m args :: below := State.frames_setFrames _ (State.cur_lt_of_top htop)
  obtain ⟨g₀, hg0⟩ := Option.isSome_iff_exists.mp htop
  obtain ⟨r, hr⟩ := State.topJava?_eq_some.mp hg0
  have hl9 : e.platform.stackLimits (T.setVm s.vm).me = e.platform.stackLimits s.me := X.limits
  have hb9 : (T.setVm s.vm).me.stackBytes = s.me.stackBytes := X.bytes
  refine ⟨X.admits, X.cas, X.clock, hF, ?_, X.hears, X.method, X.code, X.here, X.tail, X.warmed, ?_, ?_, ?_⟩
  · have h := X.room
    have hU : ((T.setVm s.vm).setFrames (.invoking m args :: below)).localsInUse = s.localsInUse := by
      rw [State.localsInUse_invoking hF (meth := meth) (c := c) X.method X.code, State.localsInUse_invoking X.frames X.method X.code]
    simp only [State.hasRoom, Bool.and_eq_true, decide_eq_true_eq] at h ⊢
    obtain ⟨⟨⟨⟨h1, h2, h3, h4, h5, h6⟩, h7⟩, h8⟩, h9⟩ := h
    rw [X.frames, List.length_cons] at h2 h3
    have q1 := X.heapSize
    have q2 := X.used
    simp only [hF, hU, List.length_cons, State.stackLimits_setFrames, State.stackBytes_setFrames, hl9, hb9]
    refine ⟨⟨⟨⟨by omega, by omega, by omega, by omega, by omega, h6⟩, ?_⟩, ?_⟩, X.book⟩
    · show T.heap.size + R'.cells ≤ e.platform.maxCells
      omega
    · show T.slotsUsed + R'.slots ≤ e.platform.maxSlots
      omega
  · rw [State.stackLimits_setFrames]; rfl
  · rw [State.stackBytes_setFrames]; rfl
  · refine ⟨?_, Nat.le_refl _, Nat.le_refl _, ?_, ?_, fun a c9 h9 => ⟨c9, h9, rfl, rfl, fun _ _ => rfl⟩⟩
    · obtain ⟨t, ht, -⟩ := State.frames_cons hr
      show T.setVm s.vm = { ((T.setVm s.vm).setFrames (.invoking m args :: below)).setFrames (T.setVm s.vm).frames with heap := T.heap, slotsUsed := T.slotsUsed }
      rw [State.setFrames_setFrames, State.setFrames_self ht]
      rfl
    · show T.slotsUsed = T.slotsUsed + ((T.heap.toList.drop T.heap.size).map (·.slots.size)).sum
      rw [List.drop_eq_nil_of_le (Nat.le_of_eq Array.length_toList)]
      rfl
    · show ((T.heap.toList.drop T.heap.size).map (·.slots.size)).sum ≤ 0
      rw [List.drop_eq_nil_of_le (Nat.le_of_eq Array.length_toList)]
      exact Nat.le_refl _
/-- 'throw new E()': new; dup; invokespecial; athrow -/
theorem vx_throw0 {cc : ByteArray} {pc : Nat} (hexec : p.tables.exec = Jvm.exec) (hb : c.code = cc) (hl : l.stackTraces = false) {own cls : String} {names : List String} {ik ic mc ms : Nat} {A : Nat → Prop}
    (hown : s.vm.findClass own = some m.cls) (hcls : Bundle.fit cls = true) (hnames : ∀ n ∈ names, Bundle.fit n = true)
    (hk : (Cond.classLink own ik cls).before args s = true) (hini : (Cond.initialized cls).before args s = true) (hat : ∀ w ∈ vx_at0 own ic cls names, w.before args s = true)
    (hgood : ∀ w ∈ Cond.classLink own ik cls :: Cond.initialized cls :: vx_at0 own ic cls names, vx_ot w = true)
    (hU : vx_Zq Bundle.tN "UNASSIGNED_STACK" Bundle.steD A s s.heap) (hN : vx_Zq Bundle.tN "SUPPRESSED_SENTINEL" Bundle.listD A s s.heap) (hS : va_S A s.heap H locs) (hsize : ls.size = c.maxLocals)
    (d0 : decode cc pc = .ok (.new ik, 3)) (d3 : decode cc (pc + 3) = .ok (.dup, 1)) (d4 : decode cc (pc + 4) = .ok (.invokespecial ic, 3)) (d7 : decode cc (pc + 7) = .ok (.athrow, 1))
    (hout : ∀ x ∈ c.exceptionTable.toList, covers x (pc + 7) = false)
    (hRframes : names.length + 3 < R.frames) (hRlocals : (rest.map fun v => v.category).sum + (13 * (names.length + 1) + 42) ≤ R.locals) (hRcells : cells + 1 ≤ R.cells) (hRslots : slots + 6 ≤ R.slots) (hlocks : meth.locks = false)
    (hx : ∀ t : State, s.vm.Alike t.vm → H.size ≤ t.heap.size → (∀ q : Nat, q < H.size → t.heap[q]? = H[q]?) → XC cls s t)
    (hf : ∀ z ∈ locs, free z.base) (hc : cells + 1 ≤ mc) (hs : slots + 6 ≤ ms) :
    W p l e R s m args below meth c H locs cells slots (vx_MQ below Qc XC args s mc ms free) (F0 m pc ls rest) := by
  intro T hT X
  have htr : e.platform.stackTraces = false := (show e.platform.stackTraces = l.stackTraces by rw [X.admits.platform]).trans hl
  have Y := vx_rebase X (R' := { frames := R.frames, locals := R.locals, cells := 1, slots := 6 }) (Nat.le_refl _) (Nat.le_refl _) hRcells hRslots
  obtain ⟨s', hA⟩ : ∃ z, z = (T.setVm s.vm).setFrames (.invoking m args :: below) := ⟨_, rfl⟩
  rw [← hA] at Y
  have hvm : s'.vm = s.vm := by rw [hA]; rfl
  have hhp : s'.heap = H := by rw [hA]; exact hT
  have hW0 : s.WarmedH s'.vm := by rw [hvm]; exact State.WarmedH.refl s
  have hat' : ∀ w ∈ vx_at0 own ic cls names, w.before args s' = true := fun w hw => vx_ot_at hW0 hvm.symm (hgood w (List.mem_cons_of_mem _ (List.mem_cons_of_mem _ hw))) (hat w hw)
  have hk' : (Cond.classLink own ik cls).before args s' = true := vx_ot_at hW0 hvm.symm (hgood _ List.mem_cons_self) hk
  have hini' : (Cond.initialized cls).before args s' = true := vx_ot_at hW0 hvm.symm (hgood _ (List.mem_cons_of_mem _ List.mem_cons_self)) hini
  have hU' : vx_Zq Bundle.tN "UNASSIGNED_STACK" Bundle.steD A s' s'.heap := by rw [hhp]; exact vx_Zq.moved hW0.alike (hU.kept hS.2.1)
  have hN' : vx_Zq Bundle.tN "SUPPRESSED_SENTINEL" Bundle.listD A s' s'.heap := by rw [hhp]; exact vx_Zq.moved hW0.alike (hN.kept hS.2.1)
  have h : ∀ w ∈ Bundle.ownAtoms0 own ic cls names, w.before args s' = true := vx_own hat' (vx_isRefq hU'.1) (vx_isRefq hN'.1) hU'.2.word hN'.2.word
  have hown' : s'.vm.findClass own = some m.cls := by rw [hvm]; exact hown
  have hins : (Cond.instantiable cls 6).before args s' = true := h _ (by simp [Bundle.ownAtoms0])
  obtain ⟨vm₁, cX, kX, hfX, hkX, -, -, X₁, st1⟩ := Y.newCold hexec (own := own) (C := cls) (index := ik) (n := 6) hown' hk' hins hini'
    (g := F0 m pc ls rest) rfl (by rw [hb]; exact d0) (Nat.le_refl _) (Nat.le_refl _)
  generalize hT1 : (T.setVm vm₁).pushCell { cls := cX, slots := kX.instanceTypes.map defaultValue, vm := .none } = T1 at X₁ st1
  have hcat : (Value.ref T.heap.size).category = 1 := rfl
  have hcellA : T1.heap[T.heap.size]? = some (freshCell cX kX) := by rw [← hT1]; exact State.heap_pushCell_size _ _
  have d3' : decode c.code (pc + 3) = .ok (.dup, 1) := by rw [hb]; exact d3
  obtain ⟨U, hsteps, hrun, hend, hW, hsame, ce, hce, hO⟩ := X₁.ctorThrow0 hexec htr (own := own) (cls := cls) (names := names) (ic := ic) hown' hcls hnames h (fun x hx => nomatch hx) hfX hkX hcellA (by rw [hhp, hT]; exact Nat.le_refl _)
    (g := { method := m, pc := pc + 4, locals := ls, stack := .ref T.heap.size :: .ref T.heap.size :: rest, locked := none }) rfl hsize rfl rfl (rest := rest) rfl
    (by rw [hb]; exact d4) (by rw [hb]; exact d7) hout hRframes (by simp only [List.map_cons, List.sum_cons, hcat]; omega) hlocks
  obtain ⟨f1, f2⟩ := vx_frame hsame
  rw [hhp] at f1 f2
  have hWs : s.WarmedH U.vm := State.WarmedH.trans hW0 hW
  have hcl : s.vm.findClass cls = some ce.cls := by
    have h9 := hO.cls
    rw [hvm] at h9
    exact h9
  have hall : s.sameButNew ({ U with vm := s.vm } : State) locs mc ms := by
    subst hA
    obtain ⟨e1, e2⟩ := hsame
    rw [State.setFrames_setFrames] at e1
    have h2 : (T.setVm s.vm).sameButNew ({ U with vm := s.vm } : State) [] (0 + 1) (0 + 6) := ⟨e1, e2⟩
    have h3 := X.same.trans h2
    rw [List.append_nil] at h3
    exact h3.mono hc hs
  refine ⟨U, ?_, .threw T.heap.size, hrun, hend, Or.inr ⟨T.heap.size, rfl, cls, ce, locs, hx U hWs.alike f1 (fun q hq => f2 q hq (fun z hz => nomatch hz)), hce, hO.vm, hcl, hWs, hall, hf⟩⟩
  refine st1 _ ?_
  show Steps p.tables e below (T1.setTop { method := m, pc := pc + 3, locals := ls, stack := .ref T.heap.size :: rest, locked := none }) _
  jvm_step X₁.here [X₁.here.top, hexec, d3', Value.category]
  exact hsteps
/-- 'throw new E("text")': new; dup; ldc; invokespecial; athrow -/
theorem vx_throwS {cc : ByteArray} {pc : Nat} (hexec : p.tables.exec = Jvm.exec) (hb : c.code = cc) (hl : l.stackTraces = false) {own cls text : String} {names : List String} {ik is ic mc ms sa : Nat} {A : Nat → Prop}
    (hown : s.vm.findClass own = some m.cls) (hcls : Bundle.fit cls = true) (hnames : ∀ n ∈ names, Bundle.fit n = true)
    (hk : (Cond.classLink own ik cls).before args s = true) (hini : (Cond.initialized cls).before args s = true) (hstr : vk_R own is text sa s) (hat : ∀ w ∈ vx_atS own ic cls names, w.before args s = true)
    (hgood : ∀ w ∈ Cond.classLink own ik cls :: Cond.initialized cls :: vx_atS own ic cls names, vx_ot w = true)
    (hU : vx_Zq Bundle.tN "UNASSIGNED_STACK" Bundle.steD A s s.heap) (hN : vx_Zq Bundle.tN "SUPPRESSED_SENTINEL" Bundle.listD A s s.heap) (hS : va_S A s.heap H locs) (hsize : ls.size = c.maxLocals)
    (d0 : decode cc pc = .ok (.new ik, 3)) (d3 : decode cc (pc + 3) = .ok (.dup, 1)) (d4 : decode cc (pc + 4) = .ok (.ldc is, 2)) (d6 : decode cc (pc + 6) = .ok (.invokespecial ic, 3)) (d9 : decode cc (pc + 9) = .ok (.athrow, 1))
    (hout : ∀ x ∈ c.exceptionTable.toList, covers x (pc + 9) = false)
    (hRframes : names.length + 3 < R.frames) (hRlocals : (rest.map fun v => v.category).sum + (13 * (names.length + 1) + 43) ≤ R.locals) (hRcells : cells + 1 ≤ R.cells) (hRslots : slots + 6 ≤ R.slots) (hlocks : meth.locks = false)
    (hx : ∀ t : State, s.vm.Alike t.vm → H.size ≤ t.heap.size → (∀ q : Nat, q < H.size → t.heap[q]? = H[q]?) → XC cls s t)
    (hf : ∀ z ∈ locs, free z.base) (hc : cells + 1 ≤ mc) (hs : slots + 6 ≤ ms) :
    W p l e R s m args below meth c H locs cells slots (vx_MQ below Qc XC args s mc ms free) (F0 m pc ls rest) := by
  intro T hT X
  have htr : e.platform.stackTraces = false := (show e.platform.stackTraces = l.stackTraces by rw [X.admits.platform]).trans hl
  have Y := vx_rebase X (R' := { frames := R.frames, locals := R.locals, cells := 1, slots := 6 }) (Nat.le_refl _) (Nat.le_refl _) hRcells hRslots
  obtain ⟨s', hA⟩ : ∃ z, z = (T.setVm s.vm).setFrames (.invoking m args :: below) := ⟨_, rfl⟩
  rw [← hA] at Y
  have hvm : s'.vm = s.vm := by rw [hA]; rfl
  have hhp : s'.heap = H := by rw [hA]; exact hT
  have hW0 : s.WarmedH s'.vm := by rw [hvm]; exact State.WarmedH.refl s
  have hat' : ∀ w ∈ vx_atS own ic cls names, w.before args s' = true := fun w hw => vx_ot_at hW0 hvm.symm (hgood w (List.mem_cons_of_mem _ (List.mem_cons_of_mem _ hw))) (hat w hw)
  have hk' : (Cond.classLink own ik cls).before args s' = true := vx_ot_at hW0 hvm.symm (hgood _ List.mem_cons_self) hk
  have hini' : (Cond.initialized cls).before args s' = true := vx_ot_at hW0 hvm.symm (hgood _ (List.mem_cons_of_mem _ List.mem_cons_self)) hini
  have hU' : vx_Zq Bundle.tN "UNASSIGNED_STACK" Bundle.steD A s' s'.heap := by rw [hhp]; exact vx_Zq.moved hW0.alike (hU.kept hS.2.1)
  have hN' : vx_Zq Bundle.tN "SUPPRESSED_SENTINEL" Bundle.listD A s' s'.heap := by rw [hhp]; exact vx_Zq.moved hW0.alike (hN.kept hS.2.1)
  have h : ∀ w ∈ Bundle.ownAtoms own ic cls names, w.before args s' = true := vx_own hat' (vx_isRefq hU'.1) (vx_isRefq hN'.1) hU'.2.word hN'.2.word
  have hown' : s'.vm.findClass own = some m.cls := by rw [hvm]; exact hown
  have hins : (Cond.instantiable cls 6).before args s' = true := h _ (by simp [Bundle.ownAtoms])
  obtain ⟨vm₁, cX, kX, hfX, hkX, -, -, X₁, st1⟩ := Y.newCold hexec (own := own) (C := cls) (index := ik) (n := 6) hown' hk' hins hini'
    (g := F0 m pc ls rest) rfl (by rw [hb]; exact d0) (Nat.le_refl _) (Nat.le_refl _)
  generalize hT1 : (T.setVm vm₁).pushCell { cls := cX, slots := kX.instanceTypes.map defaultValue, vm := .none } = T1 at X₁ st1
  have hcat : (Value.ref T.heap.size).category = 1 := rfl
  have hcellA : T1.heap[T.heap.size]? = some (freshCell cX kX) := by rw [← hT1]; exact State.heap_pushCell_size _ _
  have d3' : decode c.code (pc + 3) = .ok (.dup, 1) := by rw [hb]; exact d3
  have d4' : decode c.code (pc + 4) = .ok (.ldc is, 2) := by rw [hb]; exact d4
  have hstr' : vk_R own is text sa s' := vk_R.warm hW0 hstr
  obtain ⟨U, hsteps, hrun, hend, hW, hsame, ce, hce, hO⟩ := X₁.ctorThrowS hexec htr (own := own) (cls := cls) (names := names) (ic := ic) hown' hcls hnames h (fun x hx => nomatch hx) hfX hkX hcellA (by rw [hhp, hT]; exact Nat.le_refl _) (msg := .ref sa) rfl
    (g := { method := m, pc := pc + 6, locals := ls, stack := .ref sa :: .ref T.heap.size :: .ref T.heap.size :: rest, locked := none }) rfl hsize rfl rfl (rest := rest) rfl
    (by rw [hb]; exact d6) (by rw [hb]; exact d9) hout hRframes (by simp only [List.map_cons, List.sum_cons, hcat]; omega) hlocks
  obtain ⟨f1, f2⟩ := vx_frame hsame
  rw [hhp] at f1 f2
  have hWs : s.WarmedH U.vm := State.WarmedH.trans hW0 hW
  have hcl : s.vm.findClass cls = some ce.cls := by
    have h9 := hO.cls
    rw [hvm] at h9
    exact h9
  have hall : s.sameButNew ({ U with vm := s.vm } : State) locs mc ms := by
    subst hA
    obtain ⟨e1, e2⟩ := hsame
    rw [State.setFrames_setFrames] at e1
    have h2 : (T.setVm s.vm).sameButNew ({ U with vm := s.vm } : State) [] (0 + 1) (0 + 6) := ⟨e1, e2⟩
    have h3 := X.same.trans h2
    rw [List.append_nil] at h3
    exact h3.mono hc hs
  refine ⟨U, ?_, .threw T.heap.size, hrun, hend, Or.inr ⟨T.heap.size, rfl, cls, ce, locs, hx U hWs.alike f1 (fun q hq => f2 q hq (fun z hz => nomatch hz)), hce, hO.vm, hcl, hWs, hall, hf⟩⟩
  refine st1 _ ?_
  show Steps p.tables e below (T1.setTop { method := m, pc := pc + 3, locals := ls, stack := .ref T.heap.size :: rest, locked := none }) _
  jvm_step X₁.here [X₁.here.top, hexec, d3', Value.category]
  exact X₁.ldcString hexec (own := own) (text := text) (index := is) (a := sa) hown' hstr'.1 hstr'.2
    (g := { method := m, pc := pc + 4, locals := ls, stack := .ref T.heap.size :: .ref T.heap.size :: rest, locked := none }) rfl d4' _ hsteps
/-- 'throw new E("text")', the text by a wide index -/
theorem vx_throwSW {cc : ByteArray} {pc : Nat} (hexec : p.tables.exec = Jvm.exec) (hb : c.code = cc) (hl : l.stackTraces = false) {own cls text : String} {names : List String} {ik is ic mc ms sa : Nat} {A : Nat → Prop}
    (hown : s.vm.findClass own = some m.cls) (hcls : Bundle.fit cls = true) (hnames : ∀ n ∈ names, Bundle.fit n = true)
    (hk : (Cond.classLink own ik cls).before args s = true) (hini : (Cond.initialized cls).before args s = true) (hstr : vk_R own is text sa s) (hat : ∀ w ∈ vx_atS own ic cls names, w.before args s = true)
    (hgood : ∀ w ∈ Cond.classLink own ik cls :: Cond.initialized cls :: vx_atS own ic cls names, vx_ot w = true)
    (hU : vx_Zq Bundle.tN "UNASSIGNED_STACK" Bundle.steD A s s.heap) (hN : vx_Zq Bundle.tN "SUPPRESSED_SENTINEL" Bundle.listD A s s.heap) (hS : va_S A s.heap H locs) (hsize : ls.size = c.maxLocals)
    (d0 : decode cc pc = .ok (.new ik, 3)) (d3 : decode cc (pc + 3) = .ok (.dup, 1)) (d4 : decode cc (pc + 4) = .ok (.ldc_w is, 3)) (d7 : decode cc (pc + 7) = .ok (.invokespecial ic, 3)) (d10 : decode cc (pc + 10) = .ok (.athrow, 1))
    (hout : ∀ x ∈ c.exceptionTable.toList, covers x (pc + 10) = false)
    (hRframes : names.length + 3 < R.frames) (hRlocals : (rest.map fun v => v.category).sum + (13 * (names.length + 1) + 43) ≤ R.locals) (hRcells : cells + 1 ≤ R.cells) (hRslots : slots + 6 ≤ R.slots) (hlocks : meth.locks = false)
    (hx : ∀ t : State, s.vm.Alike t.vm → H.size ≤ t.heap.size → (∀ q : Nat, q < H.size → t.heap[q]? = H[q]?) → XC cls s t)
    (hf : ∀ z ∈ locs, free z.base) (hc : cells + 1 ≤ mc) (hs : slots + 6 ≤ ms) :
    W p l e R s m args below meth c H locs cells slots (vx_MQ below Qc XC args s mc ms free) (F0 m pc ls rest) := by
  intro T hT X
  have htr : e.platform.stackTraces = false := (show e.platform.stackTraces = l.stackTraces by rw [X.admits.platform]).trans hl
  have Y := vx_rebase X (R' := { frames := R.frames, locals := R.locals, cells := 1, slots := 6 }) (Nat.le_refl _) (Nat.le_refl _) hRcells hRslots
  obtain ⟨s', hA⟩ : ∃ z, z = (T.setVm s.vm).setFrames (.invoking m args :: below) := ⟨_, rfl⟩
  rw [← hA] at Y
  have hvm : s'.vm = s.vm := by rw [hA]; rfl
  have hhp : s'.heap = H := by rw [hA]; exact hT
  have hW0 : s.WarmedH s'.vm := by rw [hvm]; exact State.WarmedH.refl s
  have hat' : ∀ w ∈ vx_atS own ic cls names, w.before args s' = true := fun w hw => vx_ot_at hW0 hvm.symm (hgood w (List.mem_cons_of_mem _ (List.mem_cons_of_mem _ hw))) (hat w hw)
  have hk' : (Cond.classLink own ik cls).before args s' = true := vx_ot_at hW0 hvm.symm (hgood _ List.mem_cons_self) hk
  have hini' : (Cond.initialized cls).before args s' = true := vx_ot_at hW0 hvm.symm (hgood _ (List.mem_cons_of_mem _ List.mem_cons_self)) hini
  have hU' : vx_Zq Bundle.tN "UNASSIGNED_STACK" Bundle.steD A s' s'.heap := by rw [hhp]; exact vx_Zq.moved hW0.alike (hU.kept hS.2.1)
  have hN' : vx_Zq Bundle.tN "SUPPRESSED_SENTINEL" Bundle.listD A s' s'.heap := by rw [hhp]; exact vx_Zq.moved hW0.alike (hN.kept hS.2.1)
  have h : ∀ w ∈ Bundle.ownAtoms own ic cls names, w.before args s' = true := vx_own hat' (vx_isRefq hU'.1) (vx_isRefq hN'.1) hU'.2.word hN'.2.word
  have hown' : s'.vm.findClass own = some m.cls := by rw [hvm]; exact hown
  have hins : (Cond.instantiable cls 6).before args s' = true := h _ (by simp [Bundle.ownAtoms])
  obtain ⟨vm₁, cX, kX, hfX, hkX, -, -, X₁, st1⟩ := Y.newCold hexec (own := own) (C := cls) (index := ik) (n := 6) hown' hk' hins hini'
    (g := F0 m pc ls rest) rfl (by rw [hb]; exact d0) (Nat.le_refl _) (Nat.le_refl _)
  generalize hT1 : (T.setVm vm₁).pushCell { cls := cX, slots := kX.instanceTypes.map defaultValue, vm := .none } = T1 at X₁ st1
  have hcat : (Value.ref T.heap.size).category = 1 := rfl
  have hcellA : T1.heap[T.heap.size]? = some (freshCell cX kX) := by rw [← hT1]; exact State.heap_pushCell_size _ _
  have d3' : decode c.code (pc + 3) = .ok (.dup, 1) := by rw [hb]; exact d3
  have d4' : decode c.code (pc + 4) = .ok (.ldc_w is, 3) := by rw [hb]; exact d4
  have hstr' : vk_R own is text sa s' := vk_R.warm hW0 hstr
  obtain ⟨U, hsteps, hrun, hend, hW, hsame, ce, hce, hO⟩ := X₁.ctorThrowS hexec htr (own := own) (cls := cls) (names := names) (ic := ic) hown' hcls hnames h (fun x hx => nomatch hx) hfX hkX hcellA (by rw [hhp, hT]; exact Nat.le_refl _) (msg := .ref sa) rfl
    (g := { method := m, pc := pc + 7, locals := ls, stack := .ref sa :: .ref T.heap.size :: .ref T.heap.size :: rest, locked := none }) rfl hsize rfl rfl (rest := rest) rfl
    (by rw [hb]; exact d7) (by rw [hb]; exact d10) hout hRframes (by simp only [List.map_cons, List.sum_cons, hcat]; omega) hlocks
  obtain ⟨f1, f2⟩ := vx_frame hsame
  rw [hhp] at f1 f2
  have hWs : s.WarmedH U.vm := State.WarmedH.trans hW0 hW
  have hcl : s.vm.findClass cls = some ce.cls := by
    have h9 := hO.cls
    rw [hvm] at h9
    exact h9
  have hall : s.sameButNew ({ U with vm := s.vm } : State) locs mc ms := by
    subst hA
    obtain ⟨e1, e2⟩ := hsame
    rw [State.setFrames_setFrames] at e1
    have h2 : (T.setVm s.vm).sameButNew ({ U with vm := s.vm } : State) [] (0 + 1) (0 + 6) := ⟨e1, e2⟩
    have h3 := X.same.trans h2
    rw [List.append_nil] at h3
    exact h3.mono hc hs
  refine ⟨U, ?_, .threw T.heap.size, hrun, hend, Or.inr ⟨T.heap.size, rfl, cls, ce, locs, hx U hWs.alike f1 (fun q hq => f2 q hq (fun z hz => nomatch hz)), hce, hO.vm, hcl, hWs, hall, hf⟩⟩
  refine st1 _ ?_
  show Steps p.tables e below (T1.setTop { method := m, pc := pc + 3, locals := ls, stack := .ref T.heap.size :: rest, locked := none }) _
  jvm_step X₁.here [X₁.here.top, hexec, d3', Value.category]
  exact X₁.ldcStringW hexec (own := own) (text := text) (index := is) (a := sa) hown' hstr'.1 hstr'.2
    (g := { method := m, pc := pc + 4, locals := ls, stack := .ref T.heap.size :: .ref T.heap.size :: rest, locked := none }) rfl d4' _ hsteps
end Ends
section Bodies
variable {l : Launch}
theorem vx_ofW {y : MethodName} {ws ws' : List Cond} {rm : Room} {Pc : Array Value → State → Prop} {Qc : Array Value → State → Outcome → State → Prop} {XC : String → State → State → Prop} {mc ms : Nat} {free : Addr → Prop} {cc : ByteArray} {maxL : Nat} {ret : Option FieldType}
    (hy : plainName y.cls = true) (hw : ws = Cond.code y cc maxL ret :: ws')
    (body : ∀ p e s m args below meth c s₁, BodyLoose p l y (headSpec ws rm) cc maxL ret e s m args below meth c s₁ → c.maxLocals = maxL → (∀ x ∈ c.exceptionTable.toList, False) → Pc args s →
      W p l e (headSpec ws rm).room s m args below meth c s.heap [] 0 0 (vx_MQ below Qc XC args s mc ms free) (entryFrame m args maxL)) : vx_Met l y ws rm Pc Qc XC mc ms free := by
  refine MetFree.of_bodyS (code := cc) (maxLocals := maxL) (ret := ret) hy ?_ ?_
  · intro args s m h hn
    obtain ⟨meth, c, h1, h2, h3, h4, h5, h6, -, -⟩ := Cond.code_spec hn (atoms_spec (ws := ws) h _ (by rw [hw]; exact List.mem_cons_self))
    exact ⟨meth, c, h1, h2, h3, h4, h5, h6⟩
  · intro p e s m args below meth c s₁ B hml hP _
    have hh0 : s₁.heap = s.heap := by rw [B.state]; rfl
    have ht : ∀ x ∈ c.exceptionTable.toList, False := by
      obtain ⟨meth9, c9, h1, h2, -, -, -, -, h7, -⟩ := Cond.code_spec B.named (atoms_spec (ws := ws) B.pre _ (by rw [hw]; exact List.mem_cons_self))
      cases Option.some.inj (h1.symm.trans B.method)
      cases Option.some.inj (h2.symm.trans (Stand.of_body B).code)
      intro x hx
      rw [Array.isEmpty_iff.mp h7] at hx
      cases hx
    obtain ⟨t, a1, o, b1, b2, b3⟩ := body p e s m args below meth c s₁ B hml ht hP s₁ hh0 (Stand.of_body B)
    exact ⟨t, o, a1, b1, b2, b3⟩
/-- the table of a body with handlers -/
theorem vx_table {p : Program} {x y : MethodName} {S : Spec} {cc bytes : ByteArray} {maxL maxL' : Nat} {ret ret' : Option FieldType} {e : Env} {s s₁ : State} {m : MethodId} {args : Array Value} {below : List Frame} {meth : Method} {c : Code} {hh : List (Nat × Nat × Nat × Nat)}
    (B : BodyLoose p l y S cc maxL ret e s m args below meth c s₁) (h : (Cond.codeWith y bytes maxL' ret' hh).before args s = true) : c.exceptionTable.toList = tableOf hh := by
  obtain ⟨m9, meth9, c9, hn9, h1, h2, -, -, h6, -⟩ := Cond.codeWith_spec h
  cases Option.some.inj (hn9.symm.trans B.named)
  cases Option.some.inj (h1.symm.trans B.method)
  cases Option.some.inj (h2.symm.trans (Stand.of_body B).code)
  rw [← h6, table_eq]
end Bodies
end VXA
/-! ===== END ===== -/
/-! ===== BEGIN a static call of a method with an exception table ===== -/
section VXS
variable {p : Program} {l : Launch} {e : Env} {R : Room} {s : State} {m : MethodId} {args : Array Value} {below : List Frame} {meth : Method} {c : Code} {T : State} {H : Heap} {locs : List Loc} {cells slots : Nat}
abbrev vx_CSW (R : Room) (s : State) (args : Array Value) (own : String) (index : Nat) (y : MethodName) (bytes : ByteArray) (maxL : Nat) (ret : Option FieldType) (hh : List (Nat × Nat × Nat × Nat)) (ws : List Cond) (rm : Room) (mc ms n : Nat) : Prop :=
  (rm.cells = mc ∧ rm.slots = ms ∧ rm.frames + 1 ≤ R.frames ∧ 8 + (maxL + 11) + rm.locals ≤ R.locals ∧ (∀ w ∈ ws, ∀ (a' : Array Value) (U : State), s.WarmedH U.vm → w.before a' U = true) ∧ Cond.codeWith y bytes maxL ret hh ∈ ws) ∧
  (Cond.codeWith y bytes maxL ret hh).before args s = true ∧ (Cond.initialized y.cls).before args s = true ∧ (y.cls ≠ "java/lang/invoke/MethodHandle" ∧ y.cls ≠ "java/lang/invoke/VarHandle") ∧
  (∀ sig, parseMethodDescriptor y.desc = some sig → n = sig.parameters.length) ∧ (Cond.methodLink own index y).before args s = true ∧ (Cond.static y).before args s = true
theorem vx_cwSW {own : String} {index maxL mc ms : Nat} {y : MethodName} {bytes : ByteArray} {ret : Option FieldType} {hh : List (Nat × Nat × Nat × Nat)} {Ts ws ws' : List Cond} {rm : Room} (n : Nat) (ht : ∀ w ∈ Ts, w.before args s = true) (hT : GoodIn Ts (va_wsS own index y ws)) (hw : ws = Cond.codeWith y bytes maxL ret hh :: ws') (hrc : rm.cells = mc) (hrs : rm.slots = ms)
    (hd : y.cls ≠ "java/lang/invoke/MethodHandle" ∧ y.cls ≠ "java/lang/invoke/VarHandle" ∧ (parseMethodDescriptor y.desc).map (fun d => d.parameters.length) = some n) (hR : rm.frames + 1 ≤ R.frames ∧ 8 + (maxL + 11) + rm.locals ≤ R.locals) :
    vx_CSW R s args own index y bytes maxL ret hh ws rm mc ms n := by
  have ok : ∀ w ∈ va_wsS own index y ws, w.before args s = true := fun w h => ht w (hT w h).1
  have hG : GoodIn Ts ws := fun w h => hT w (by unfold va_wsS; exact List.mem_append_right _ h)
  have hc : Cond.codeWith y bytes maxL ret hh ∈ ws := by rw [hw]; exact List.mem_cons_self
  refine ⟨⟨hrc, hrs, hR.1, hR.2, pay_in ht hG, hc⟩, ht _ (hG _ hc).1, ok _ (by simp [va_wsS]), ⟨hd.1, hd.2.1⟩, fun sig h => ?_, ok _ (by simp [va_wsS]), ok _ (by simp [va_wsS])⟩
  have h2 := hd.2.2
  rw [h] at h2
  exact (Option.some.inj h2).symm
theorem vx_callSW (X : Stand p l e R s m args below meth c T locs cells slots) (hexec : p.tables.exec = Jvm.exec) {own : String} {index : Nat} {y : MethodName} {bytes : ByteArray} {maxL : Nat} {ret : Option FieldType} {hh : List (Nat × Nat × Nat × Nat)}
    (hown : s.vm.findClass own = some m.cls) (hlink : (Cond.methodLink own index y).before args s = true) (hstat : (Cond.static y).before args s = true) (hinit : (Cond.initialized y.cls).before args s = true)
    (hcode : (Cond.codeWith y bytes maxL ret hh).before args s = true) (hy : y.cls ≠ "java/lang/invoke/MethodHandle" ∧ y.cls ≠ "java/lang/invoke/VarHandle")
    {W9 : Nat} {Pre : Pt → Array Value → Prop} {Post : Pt → Array Value → Option Value → Pt → Prop} (hK : Back l R p e below s args y 3 W9 Pre Post)
    {g : JFrame} (hg : g.method = m) (hsize : g.locals.size = c.maxLocals) {argsL rest : List Value} (hlen : ∀ sig, parseMethodDescriptor y.desc = some sig → argsL.length = sig.parameters.length)
    (hstack : g.stack = argsL.reverse ++ rest) (hW : 2 * g.monitorRoom + (rest.map fun v => v.category).sum ≤ W9) (hdg : decode c.code g.pc = .ok (.invokestatic index, 3))
    (hpre : ∀ vm₁, s.WarmedH vm₁ → Pre ⟨T.setVm vm₁, locs, cells, slots⟩ argsL.toArray) :
    ∃ (v : Option Value) (vm₁ : Vm) (B : Pt), s.WarmedH vm₁ ∧ Stand p l e R s m args below meth c B.U B.locs B.cells B.slots ∧ Post ⟨T.setVm vm₁, locs, cells, slots⟩ argsL.toArray v B ∧
      ∀ target, Steps p.tables e below (B.U.setTop { g with pc := g.pc + 3, stack := v.toList ++ rest }) target → Steps p.tables e below (T.setTop g) target := by
  obtain ⟨mk, methM, cM, hnamed, hmethM, -, -, -, -, -, -, hsigM⟩ := Cond.codeWith_spec hcode
  have hstatic : methM.isStatic = true := Cond.static_spec hnamed hmethM hstat
  obtain ⟨kP, hkP, -⟩ := className_of_methodNamed hnamed
  have hinitP : kP.init = .initialized := Cond.initialized_spec (findClass_of_methodNamed hnamed) hkP hinit
  obtain ⟨vm₁, X₁, hstep₁⟩ := X.invokestatic hexec hown hlink hnamed hmethM hstatic hkP hinitP hy (g := g) hg (argsL := argsL) (rest := rest) (hlen _ hsigM) hstack hdg
  obtain ⟨v, B, X', hpost, hsteps⟩ := hK m meth c ⟨T.setVm vm₁, locs, cells, slots⟩ { g with stack := rest } (.invokestatic index) mk argsL.toArray X₁ hg hsize hdg hW (X₁.named hnamed) (hpre vm₁ X₁.warmed)
  exact ⟨v, vm₁, B, X₁.warmed, X', hpost, fun target h => hstep₁ _ fun acts => by rw [doInvoke_state]; exact hsteps.trans h⟩
theorem vx_runSW {y : MethodName} {bytes cc : ByteArray} {maxL nL mc ms n index : Nat} {ret : Option FieldType} {hh : List (Nat × Nat × Nat × Nat)} {ws : List Cond} {rm : Room} {Pc : Array Value → State → Prop} {Qc : Array Value → State → Outcome → State → Prop} {free : Addr → Prop} {Ts : List Cond} {own : String} {As rest : List Value} {g : JFrame}
    (S : CallFix p m c cc nL s args Ts own) (hM : Met l y ws rm Pc Qc mc ms free) (cw : vx_CSW R s args own index y bytes maxL ret hh ws rm mc ms n) (hp : PreS s H Pc As)
    (hg : g.method = m) (hn : As.length = n) (hsize : g.locals.size = nL) (hstack : g.stack = As.reverse ++ rest) (hW : 2 * g.monitorRoom + (rest.map fun v => v.category).sum ≤ 8) (hdg : decode cc g.pc = .ok (.invokestatic index, 3)) (hf : cells + mc ≤ R.cells ∧ slots + ms ≤ R.slots) :
    va_Run p l e R s m args below meth c H locs cells slots mc ms g rest (Qc As.toArray) (free) := by
  obtain ⟨⟨hrc, hrs, hfr, hlo, hws, hcw⟩, hcode, hini, hy, hlen, hl, hstt⟩ := cw
  have hK : Back l R p e below s args y 3 8 (PreOf R mc ms Pc) (PostOf Qc mc ms free) := va_backW (hh := hh) (bytes := bytes) (maxL := maxL) (ret := ret) hM hp.1 hrc hrs hfr hlo hws hcw (fun a' U hW => word_at hW (Or.inl (by first | rfl | simp [Cond.onTables, Cond.keeps, Cond.steady])) hini)
  obtain ⟨hx, hb, hml, ho, -⟩ := S
  intro T hT X
  obtain ⟨v, vm₁, ⟨U', l2, c2, s2⟩, hW₁, X', ⟨g', mk, t, L, e1, e2, hq, h1, hL, h2, h3⟩, st⟩ := vx_callSW X hx (hh := hh) (bytes := bytes) (maxL := maxL) (ret := ret) ho hl hstt hini hcode hy hK hg (hsize.trans hml.symm) (argsL := As) (rest := rest) (fun sig h => hn.trans (hlen sig h)) hstack hW (by rw [hb]; exact hdg)
    (fun vm₁ hW₁ => ⟨hf.1, hf.2, hp.2 (T.setVm vm₁) hT hW₁⟩)
  dsimp only [Pt.U, Pt.locs, Pt.cells, Pt.slots] at X' e1 e2 h1 h2 h3 st
  subst h1; subst h2; subst h3
  exact ⟨v, (T.setVm vm₁).calling g' mk As.toArray, t, U', L, hT, X', hL, e1, e2, hq, st⟩
/-- not caught here, past rows that name other classes: it goes on to the caller -/
theorem vx_outP {p : Program} {l : Launch} {e : Env} {R : Room} {s : State} {m : MethodId} {args : Array Value} {below : List Frame} {meth : Method} {c : Code} {H : Heap} {locs : List Loc} {cells slots : Nat} {free : Addr → Prop} {ls : Array Slot} {rest : List Value} {Qc : Array Value → State → Outcome → State → Prop} {XC : String → State → State → Prop}
    {pc : Nat} {own E : String} {ce : Cell} {q : Addr} {mc ms : Nat} (hown : s.vm.findClass own = some m.cls) (hlocks : meth.locks = false)
    (hpass : ∀ z ∈ c.exceptionTable.toList, covers z pc = false ∨ (z.catchType ≠ 0 ∧ ∃ nm : String, (Cond.classLink own z.catchType nm).before args s = true ∧ va_Nc E nm s)) (hcell : H[q]? = some ce) (hv : ce.vm = .none) (hcl : s.vm.findClass E = some ce.cls)
    (hx : ∀ t : State, t.heap = H → s.vm.Alike t.vm → XC E s t) (hf : ∀ z ∈ locs, free z.base) (hc : cells ≤ mc) (hs : slots ≤ ms) :
    vx_W p l e R s m args below meth c H locs cells slots (vx_MQ below Qc XC args s mc ms free) (F0 m pc ls rest) q := by
  intro T hT X
  have hpl : e.platform.magicAccessors = ({} : Platform).magicAccessors := by rw [X.admits.platform]
  obtain ⟨vm', hW', X', st⟩ := X.outThrough hlocks q (g := F0 m pc ls rest) rfl rfl rfl (cell := ce) (by rw [hT]; exact hcell) (by rw [hv]; rfl)
    (by obtain ⟨k9, h9, -⟩ := Vm.findClass_spec hcl; exact ⟨k9, h9⟩) (fun z hz => by
      rcases hpass z hz with h | ⟨hz0, nm, hl1, hn1⟩
      · exact Or.inl h
      · obtain ⟨c6, hc6, hcl6⟩ := Cond.classLink_spec hown hl1 e.platform hpl
        obtain ⟨a8, b8, h1, h2, h3⟩ := hn1
        cases Option.some.inj (h1.symm.trans hcl)
        cases Option.some.inj (h2.symm.trans hc6)
        exact Or.inr ⟨hz0, _, hcl6, h3⟩)
  obtain ⟨g₀, hfr⟩ := X'.frames_eq
  have hcell9 : ((T.setVm vm').setFrames (.throwing q :: below)).heap[q]? = some ce := by
    show T.heap[q]? = some ce
    rw [hT]; exact hcell
  have hend : Ended ((T.setVm vm').setFrames (.throwing q :: below)) below (.threw q) := State.frames_setFrames _ (State.cur_lt_of_frames hfr)
  refine ⟨(T.setVm vm').setFrames (.throwing q :: below), ?_, .threw q, X'.here.running, hend, Or.inr ⟨q, rfl, E, ce, locs, hx _ hT (X'.ends _).1.alike, hcell9, hv, hcl, (X'.ends _).1, (X'.ends _).2.mono hc hs, hf⟩⟩
  rw [X.pushThrowing_eq]
  exact st
/-- a thing of a world lies in the heap -/
theorem vx_lt {D : va_G} {cl : List vw_C} {ws : va_W} {H1 : Heap} (h : va_P D cl ws H1) {k : Nat} {q : Nat × va_E} (hk : ws[k]? = some q) : q.1 < H1.size := (h k q hk).lt
end VXS
/-! ===== END ===== -/
/-! ===== BEGIN methods with a table of their own: called by a name, returning or throwing ===== -/
section VXH
/-! vx_backW, vx_callVX, vx_callSX, vx_callVW, vx_runVW, vx_runVX, vx_runSX, vx_ofWH follow the same proofs as their sisters above (Free/Laws.lean, Shelf42/LK1.lean); vx_outP calls Shelf42/NT130.lean (outThrough). -/
section
variable {l : Launch} {R : Room} {p : Program} {e : Env} {below : List Frame} {s : State} {sargs : Array Value} {y : MethodName} {len W9 : Nat}
theorem vx_backW {ws : List Cond} {rm : Room} {Pc : Array Value → State → Prop} {Qc : Array Value → State → Outcome → State → Prop} {XC : String → State → State → Prop} {mc ms : Nat} {free : Addr → Prop} {bytes : ByteArray} {maxL : Nat} {ret : Option FieldType} {hh : List (Nat × Nat × Nat × Nat)}
    (hM : vx_Met l y ws rm Pc Qc XC mc ms free) (hblind : FrameBlind Pc) (hrc : rm.cells = mc) (hrs : rm.slots = ms)
    (hframes : rm.frames + 1 ≤ R.frames) (hlocals : W9 + (maxL + 11) + rm.locals ≤ R.locals)
    (hws : ∀ w ∈ ws, ∀ a' U, s.WarmedH U.vm → w.before a' U = true) (hcode : Cond.codeWith y bytes maxL ret hh ∈ ws) (hinit : ∀ a' U, s.WarmedH U.vm → (Cond.initialized y.cls).before a' U = true) :
    vx_Back l R p e below s sargs y len W9 (PreOf R mc ms Pc) (PostOf Qc mc ms free) (vx_Post XC mc ms free) := by
  intro m meth c A g ig mk a X hg hsize hdg hW hn hp
  have h1 : (headSpec ws rm).pre.before a A.U = true := atoms_intro fun w hw => hws w hw _ _ X.warmed
  have h2 : (Cond.codeWith y bytes maxL ret hh).before a A.U = true := hws _ hcode _ _ X.warmed
  have h3 : (Cond.initialized y.cls).before a A.U = true := hinit _ _ X.warmed
  have h4 : A.cells + (headSpec ws rm).room.cells ≤ R.cells := by rw [show (headSpec ws rm).room.cells = mc from hrc]; exact hp.1
  have h5 : A.slots + (headSpec ws rm).room.slots ≤ R.slots := by rw [show (headSpec ws rm).room.slots = ms from hrs]; exact hp.2.1
  have hPc : Pc a (A.U.calling g mk a) := hblind _ _ _ _ hp.2.2
  obtain ⟨U, Ls, c0, s0⟩ := A
  dsimp only [Pt.U, Pt.locs, Pt.cells, Pt.slots] at h1 h2 h3 h4 h5 X hn hPc ⊢
  obtain ⟨m9, methY, cY, hn9, hmY, hcY, -, hlY, -⟩ := Cond.codeWith_spec h2
  cases Option.some.inj (hn9.symm.trans hn)
  obtain ⟨kY, hkY, -⟩ := className_of_methodNamed hn
  have hinitY : kY.init = .initialized := Cond.initialized_spec (findClass_of_methodNamed hn) hkY h3
  have h : At U g.method c below := by rw [hg]; exact X.here
  have hlocals9 : W9 + (maxL + 11) + (headSpec ws rm).room.locals ≤ R.locals := hlocals
  have happ : (headSpec ws rm).appliesLoose y e.platform (U.calling g mk a) = true :=
    Spec.appliesLoose_calling (g := g) h hdg hn hkY hinitY
      (X.room_calling (g := g) (R' := (headSpec ws rm).room) hsize hmY hcY hframes (by rw [hlY]; omega) h4 h5) h1
  obtain ⟨mid, hmid⟩ := h.above
  have hfr : (U.setTop g).frames = (.java g :: mid) ++ below := by rw [State.frames_setTop' g h.top, hmid]; rfl
  obtain ⟨o, s₂, hsteps, -, hend, hq⟩ := Steps.callFree hM p X.admits X.cas X.clock (acts := []) hfr happ hPc trivial
  have hq' : vx_Q Qc XC mc ms free a (U.calling g mk a) o s₂ := hq
  rw [State.frames_setTop' g h.top] at hend
  obtain ⟨g₀, hg0⟩ := Option.isSome_iff_exists.mp h.top
  obtain ⟨r, hr⟩ := State.topJava?_eq_some.mp hg0
  have hr' : (({ U with heap := s₂.heap, slotsUsed := s₂.slotsUsed } : State).setVm s₂.vm).frames = .java g₀ :: r := hr
  rcases hq' with ⟨hqc, L, hfe, hL⟩ | ⟨q, rfl, E, ce, L, hx, hce, hcv, hcl, hW₂, hsm, hL⟩
  · obtain ⟨⟨v, rfl⟩, hW₂, e2, q2, q3, q4, q5, q6⟩ := id hfe
    have e3 : s₂ = ({ (U.calling g mk a).setFrames s₂.frames with heap := s₂.heap, slotsUsed := s₂.slotsUsed } : State).setVm s₂.vm := by
      have : s₂ = ({ s₂ with vm := (U.calling g mk a).vm } : State).setVm s₂.vm := rfl
      rw [e2] at this
      exact this
    obtain ⟨c₂, i₂, len₂, hc₂, hd₂, hf₂⟩ := hend
    have hW' : U.WarmedH s₂.vm := hW₂
    have hcc : c₂ = c := by
      have h1 : s₂.code? g.method = U.code? g.method := by
        rw [State.code?_eq, State.code?_eq, hW'.alike.method?]
      exact Option.some.inj (hc₂.symm.trans (h1.trans h.code))
    subst hcc
    have hlen : len₂ = len := by rw [hdg] at hd₂; cases hd₂; rfl
    subst hlen
    have hs₂ : s₂ = (({ U with heap := s₂.heap, slotsUsed := s₂.slotsUsed } : State).setVm s₂.vm).setTop { g with pc := g.pc + len₂, stack := v.toList ++ g.stack } := by
      refine e3.trans ?_
      rw [hf₂, State.calling_eq h.top, State.setFrames_setFrames, State.setTop_of_frames _ hr', hr]
      rfl
    have hsame : U.sameButNew ({ U with heap := s₂.heap, slotsUsed := s₂.slotsUsed } : State) L mc ms := by
      refine ⟨?_, q2, q3, q4, q5, q6⟩
      obtain ⟨t, ht, -⟩ := State.frames_cons hr
      show ({ U with heap := s₂.heap, slotsUsed := s₂.slotsUsed } : State) = { U.setFrames U.frames with heap := s₂.heap, slotsUsed := s₂.slotsUsed }
      rw [State.setFrames_self ht]
    subst hg
    refine Or.inl ⟨v, ⟨(({ U with heap := s₂.heap, slotsUsed := s₂.slotsUsed } : State).setVm s₂.vm), Ls ++ L, c0 + mc, s0 + ms⟩,
      ⟨X.admits, X.cas, X.clock, X.frames, X.room, X.hears, X.method, X.code, (X.here.setHeapUsed s₂.heap s₂.slotsUsed).setVm hW'.alike, X.tail, State.WarmedH.trans X.warmed hW', X.limits, X.bytes, X.same.trans (hsame.setVm s.vm)⟩,
      ⟨g, mk, s₂, L, rfl, rfl, hqc, rfl, hL, rfl, rfl⟩, ?_⟩
    show Steps p.tables e below _ ((({ U with heap := s₂.heap, slotsUsed := s₂.slotsUsed } : State).setVm s₂.vm).setTop { g with pc := g.pc + len₂, stack := v.toList ++ g.stack })
    rw [← hs₂]
    exact hsteps
  · obtain ⟨e2, q2, q3, q4, q5, q6⟩ := id hsm
    have e3 : s₂ = ({ (U.calling g mk a).setFrames s₂.frames with heap := s₂.heap, slotsUsed := s₂.slotsUsed } : State).setVm s₂.vm := by
      have : s₂ = ({ s₂ with vm := (U.calling g mk a).vm } : State).setVm s₂.vm := rfl
      rw [e2] at this
      exact this
    have hf₂ : s₂.frames = .throwing q :: .java g :: U.frames.tail := hend
    have hW' : U.WarmedH s₂.vm := hW₂
    have hs₂ : s₂ = ((({ U with heap := s₂.heap, slotsUsed := s₂.slotsUsed } : State).setVm s₂.vm).setTop g).pushFrame (.throwing q) := by
      refine e3.trans ?_
      rw [hf₂, State.calling_eq h.top, State.setFrames_setFrames, State.pushFrame, State.frames_setTop _ hr', State.setTop_of_frames _ hr', State.setFrames_setFrames, hr]
      rfl
    have hsame : U.sameButNew ({ U with heap := s₂.heap, slotsUsed := s₂.slotsUsed } : State) L mc ms := by
      refine ⟨?_, q2, q3, q4, q5, q6⟩
      obtain ⟨t, ht, -⟩ := State.frames_cons hr
      show ({ U with heap := s₂.heap, slotsUsed := s₂.slotsUsed } : State) = { U.setFrames U.frames with heap := s₂.heap, slotsUsed := s₂.slotsUsed }
      rw [State.setFrames_self ht]
    subst hg
    refine Or.inr ⟨q, ⟨(({ U with heap := s₂.heap, slotsUsed := s₂.slotsUsed } : State).setVm s₂.vm), Ls ++ L, c0 + mc, s0 + ms⟩,
      ⟨X.admits, X.cas, X.clock, X.frames, X.room, X.hears, X.method, X.code, (X.here.setHeapUsed s₂.heap s₂.slotsUsed).setVm hW'.alike, X.tail, State.WarmedH.trans X.warmed hW', X.limits, X.bytes, X.same.trans (hsame.setVm s.vm)⟩,
      ⟨g, mk, s₂, L, E, ce, rfl, rfl, hx, hce, hcv, hcl, rfl, hL, rfl, rfl⟩, ?_⟩
    show Steps p.tables e below _ (((({ U with heap := s₂.heap, slotsUsed := s₂.slotsUsed } : State).setVm s₂.vm).setTop g).pushFrame (.throwing q))
    rw [← hs₂]
    exact hsteps
end
variable {p : Program} {l : Launch} {e : Env} {R : Room} {s : State} {m : MethodId} {args : Array Value} {below : List Frame} {meth : Method} {c : Code} {T : State} {H : Heap} {locs : List Loc} {cells slots : Nat}
theorem vx_callVX (X : Stand p l e R s m args below meth c T locs cells slots) (hexec : p.tables.exec = Jvm.exec) {own C : String} {index : Nat} {y : MethodName} {bytes : ByteArray} {maxL : Nat} {ret : Option FieldType} {hh : List (Nat × Nat × Nat × Nat)}
    (hown : s.vm.findClass own = some m.cls) (hlink : (Cond.methodLink own index y).before args s = true) (hinst : (Cond.instanceMethod y).before args s = true) (hsel : (Cond.selects C y y).before args s = true)
    (hcode : (Cond.codeWith y bytes maxL ret hh).before args s = true) (hy : y.cls ≠ "java/lang/invoke/MethodHandle" ∧ y.cls ≠ "java/lang/invoke/VarHandle")
    {W9 : Nat} {Pre : Pt → Array Value → Prop} {Post : Pt → Array Value → Option Value → Pt → Prop} {PostX : Pt → Array Value → Addr → Pt → Prop} (hK : vx_Back l R p e below s args y 3 W9 Pre Post PostX)
    {b : Addr} {cellB : Cell} (hcell : T.heap[b]? = some cellB) (hobj : cellB.vm.isStatics = false) (hcls : s.vm.findClass C = some cellB.cls)
    {g : JFrame} (hg : g.method = m) (hsize : g.locals.size = c.maxLocals) {argsL rest : List Value} (hlen : ∀ sig, parseMethodDescriptor y.desc = some sig → argsL.length = sig.parameters.length)
    (hstack : g.stack = argsL.reverse ++ .ref b :: rest) (hW : 2 * g.monitorRoom + (rest.map fun v => v.category).sum ≤ W9) (hdg : decode c.code g.pc = .ok (.invokevirtual index, 3))
    (hpre : ∀ vm₁, s.WarmedH vm₁ → Pre ⟨T.setVm vm₁, locs, cells, slots⟩ (Value.ref b :: argsL).toArray) :
    (∃ (v : Option Value) (vm₁ : Vm) (B : Pt), s.WarmedH vm₁ ∧ Stand p l e R s m args below meth c B.U B.locs B.cells B.slots ∧ Post ⟨T.setVm vm₁, locs, cells, slots⟩ (Value.ref b :: argsL).toArray v B ∧
      ∀ target, Steps p.tables e below (B.U.setTop { g with pc := g.pc + 3, stack := v.toList ++ rest }) target → Steps p.tables e below (T.setTop g) target) ∨
    (∃ (q : Addr) (vm₁ : Vm) (B : Pt), s.WarmedH vm₁ ∧ Stand p l e R s m args below meth c B.U B.locs B.cells B.slots ∧ PostX ⟨T.setVm vm₁, locs, cells, slots⟩ (Value.ref b :: argsL).toArray q B ∧
      Steps p.tables e below (T.setTop g) ((B.U.setTop { g with stack := rest }).pushFrame (.throwing q))) := by
  obtain ⟨mk, methM, hnamed, hmethM, hstM, habM⟩ := Cond.instanceMethod_spec hinst
  obtain ⟨m8, methM', cM, hn8, hmethM', -, -, -, -, -, -, hsigM⟩ := Cond.codeWith_spec hcode
  cases Option.some.inj (hn8.symm.trans hnamed)
  cases hmethM.symm.trans hmethM'
  obtain ⟨c2, r2, m2, q1, q2, q3, q4, kP, hkP, hkPi⟩ := Cond.selects_spec hsel
  cases hcls.symm.trans q1
  cases (State.methodFound?_of_named hnamed hy).symm.trans q2
  cases hnamed.symm.trans q3
  have hselP : selectMethod e.platform s.vm cellB.cls mk = .method mk := by rw [Launch.admits_selectMethod X.admits]; exact q4
  obtain ⟨vm₁, X₁, hstep₁⟩ := X.invokevirtual hexec hown hlink hnamed hmethM hstM hkP hkPi hy (a := b) (cell := cellB) hcell
    (fun z h => by rw [h] at hobj; cases hobj) hselP hmethM habM hkP hkPi (g := g) hg (argsL := argsL) (rest := rest) (hlen _ hsigM) hstack hdg
  rcases hK m meth c ⟨T.setVm vm₁, locs, cells, slots⟩ { g with stack := rest } (.invokevirtual index) mk (Value.ref b :: argsL).toArray X₁ hg hsize hdg hW (X₁.named hnamed) (hpre vm₁ X₁.warmed) with ⟨v, B, X', hpost, hsteps⟩ | ⟨q, B, X', hpost, hsteps⟩
  · exact Or.inl ⟨v, vm₁, B, X₁.warmed, X', hpost, fun target h => hstep₁ _ fun acts => by rw [doInvoke_state]; exact hsteps.trans h⟩
  · exact Or.inr ⟨q, vm₁, B, X₁.warmed, X', hpost, hstep₁ _ fun acts => by rw [doInvoke_state]; exact hsteps⟩
theorem vx_callSX (X : Stand p l e R s m args below meth c T locs cells slots) (hexec : p.tables.exec = Jvm.exec) {own : String} {index : Nat} {y : MethodName} {bytes : ByteArray} {maxL : Nat} {ret : Option FieldType} {hh : List (Nat × Nat × Nat × Nat)}
    (hown : s.vm.findClass own = some m.cls) (hlink : (Cond.methodLink own index y).before args s = true) (hstat : (Cond.static y).before args s = true) (hinit : (Cond.initialized y.cls).before args s = true)
    (hcode : (Cond.codeWith y bytes maxL ret hh).before args s = true) (hy : y.cls ≠ "java/lang/invoke/MethodHandle" ∧ y.cls ≠ "java/lang/invoke/VarHandle")
    {W9 : Nat} {Pre : Pt → Array Value → Prop} {Post : Pt → Array Value → Option Value → Pt → Prop} {PostX : Pt → Array Value → Addr → Pt → Prop} (hK : vx_Back l R p e below s args y 3 W9 Pre Post PostX)
    {g : JFrame} (hg : g.method = m) (hsize : g.locals.size = c.maxLocals) {argsL rest : List Value} (hlen : ∀ sig, parseMethodDescriptor y.desc = some sig → argsL.length = sig.parameters.length)
    (hstack : g.stack = argsL.reverse ++ rest) (hW : 2 * g.monitorRoom + (rest.map fun v => v.category).sum ≤ W9) (hdg : decode c.code g.pc = .ok (.invokestatic index, 3))
    (hpre : ∀ vm₁, s.WarmedH vm₁ → Pre ⟨T.setVm vm₁, locs, cells, slots⟩ argsL.toArray) :
    (∃ (v : Option Value) (vm₁ : Vm) (B : Pt), s.WarmedH vm₁ ∧ Stand p l e R s m args below meth c B.U B.locs B.cells B.slots ∧ Post ⟨T.setVm vm₁, locs, cells, slots⟩ argsL.toArray v B ∧
      ∀ target, Steps p.tables e below (B.U.setTop { g with pc := g.pc + 3, stack := v.toList ++ rest }) target → Steps p.tables e below (T.setTop g) target) ∨
    (∃ (q : Addr) (vm₁ : Vm) (B : Pt), s.WarmedH vm₁ ∧ Stand p l e R s m args below meth c B.U B.locs B.cells B.slots ∧ PostX ⟨T.setVm vm₁, locs, cells, slots⟩ argsL.toArray q B ∧
      Steps p.tables e below (T.setTop g) ((B.U.setTop { g with stack := rest }).pushFrame (.throwing q))) := by
  obtain ⟨mk, methM, cM, hnamed, hmethM, -, -, -, -, -, -, hsigM⟩ := Cond.codeWith_spec hcode
  have hstatic : methM.isStatic = true := Cond.static_spec hnamed hmethM hstat
  obtain ⟨kP, hkP, -⟩ := className_of_methodNamed hnamed
  have hinitP : kP.init = .initialized := Cond.initialized_spec (findClass_of_methodNamed hnamed) hkP hinit
  obtain ⟨vm₁, X₁, hstep₁⟩ := X.invokestatic hexec hown hlink hnamed hmethM hstatic hkP hinitP hy (g := g) hg (argsL := argsL) (rest := rest) (hlen _ hsigM) hstack hdg
  rcases hK m meth c ⟨T.setVm vm₁, locs, cells, slots⟩ { g with stack := rest } (.invokestatic index) mk argsL.toArray X₁ hg hsize hdg hW (X₁.named hnamed) (hpre vm₁ X₁.warmed) with ⟨v, B, X', hpost, hsteps⟩ | ⟨q, B, X', hpost, hsteps⟩
  · exact Or.inl ⟨v, vm₁, B, X₁.warmed, X', hpost, fun target h => hstep₁ _ fun acts => by rw [doInvoke_state]; exact hsteps.trans h⟩
  · exact Or.inr ⟨q, vm₁, B, X₁.warmed, X', hpost, hstep₁ _ fun acts => by rw [doInvoke_state]; exact hsteps⟩
theorem vx_callVW (X : Stand p l e R s m args below meth c T locs cells slots) (hexec : p.tables.exec = Jvm.exec) {own C : String} {index : Nat} {y : MethodName} {bytes : ByteArray} {maxL : Nat} {ret : Option FieldType} {hh : List (Nat × Nat × Nat × Nat)}
    (hown : s.vm.findClass own = some m.cls) (hlink : (Cond.methodLink own index y).before args s = true) (hinst : (Cond.instanceMethod y).before args s = true) (hsel : (Cond.selects C y y).before args s = true)
    (hcode : (Cond.codeWith y bytes maxL ret hh).before args s = true) (hy : y.cls ≠ "java/lang/invoke/MethodHandle" ∧ y.cls ≠ "java/lang/invoke/VarHandle")
    {W9 : Nat} {Pre : Pt → Array Value → Prop} {Post : Pt → Array Value → Option Value → Pt → Prop} (hK : Back l R p e below s args y 3 W9 Pre Post)
    {b : Addr} {cellB : Cell} (hcell : T.heap[b]? = some cellB) (hobj : cellB.vm.isStatics = false) (hcls : s.vm.findClass C = some cellB.cls)
    {g : JFrame} (hg : g.method = m) (hsize : g.locals.size = c.maxLocals) {argsL rest : List Value} (hlen : ∀ sig, parseMethodDescriptor y.desc = some sig → argsL.length = sig.parameters.length)
    (hstack : g.stack = argsL.reverse ++ .ref b :: rest) (hW : 2 * g.monitorRoom + (rest.map fun v => v.category).sum ≤ W9) (hdg : decode c.code g.pc = .ok (.invokevirtual index, 3))
    (hpre : ∀ vm₁, s.WarmedH vm₁ → Pre ⟨T.setVm vm₁, locs, cells, slots⟩ (Value.ref b :: argsL).toArray) :
    ∃ (v : Option Value) (vm₁ : Vm) (B : Pt), s.WarmedH vm₁ ∧ Stand p l e R s m args below meth c B.U B.locs B.cells B.slots ∧ Post ⟨T.setVm vm₁, locs, cells, slots⟩ (Value.ref b :: argsL).toArray v B ∧
      ∀ target, Steps p.tables e below (B.U.setTop { g with pc := g.pc + 3, stack := v.toList ++ rest }) target → Steps p.tables e below (T.setTop g) target := by
  obtain ⟨mk, methM, hnamed, hmethM, hstM, habM⟩ := Cond.instanceMethod_spec hinst
  obtain ⟨m8, methM', cM, hn8, hmethM', -, -, -, -, -, -, hsigM⟩ := Cond.codeWith_spec hcode
  cases Option.some.inj (hn8.symm.trans hnamed)
  cases hmethM.symm.trans hmethM'
  obtain ⟨c2, r2, m2, q1, q2, q3, q4, kP, hkP, hkPi⟩ := Cond.selects_spec hsel
  cases hcls.symm.trans q1
  cases (State.methodFound?_of_named hnamed hy).symm.trans q2
  cases hnamed.symm.trans q3
  have hselP : selectMethod e.platform s.vm cellB.cls mk = .method mk := by rw [Launch.admits_selectMethod X.admits]; exact q4
  obtain ⟨vm₁, X₁, hstep₁⟩ := X.invokevirtual hexec hown hlink hnamed hmethM hstM hkP hkPi hy (a := b) (cell := cellB) hcell
    (fun z h => by rw [h] at hobj; cases hobj) hselP hmethM habM hkP hkPi (g := g) hg (argsL := argsL) (rest := rest) (hlen _ hsigM) hstack hdg
  obtain ⟨v, B, X', hpost, hsteps⟩ := hK m meth c ⟨T.setVm vm₁, locs, cells, slots⟩ { g with stack := rest } (.invokevirtual index) mk (Value.ref b :: argsL).toArray X₁ hg hsize hdg hW (X₁.named hnamed) (hpre vm₁ X₁.warmed)
  exact ⟨v, vm₁, B, X₁.warmed, X', hpost, fun target h => hstep₁ _ fun acts => by rw [doInvoke_state]; exact hsteps.trans h⟩
abbrev vx_CVW (R : Room) (s : State) (args : Array Value) (own C : String) (index : Nat) (y : MethodName) (bytes : ByteArray) (maxL : Nat) (ret : Option FieldType) (hh : List (Nat × Nat × Nat × Nat)) (ws : List Cond) (rm : Room) (mc ms n : Nat) : Prop :=
  (rm.cells = mc ∧ rm.slots = ms ∧ rm.frames + 1 ≤ R.frames ∧ 8 + (maxL + 11) + rm.locals ≤ R.locals ∧ (∀ w ∈ ws, ∀ (a' : Array Value) (U : State), s.WarmedH U.vm → w.before a' U = true) ∧ Cond.codeWith y bytes maxL ret hh ∈ ws) ∧
  (Cond.codeWith y bytes maxL ret hh).before args s = true ∧ (Cond.initialized y.cls).before args s = true ∧ (y.cls ≠ "java/lang/invoke/MethodHandle" ∧ y.cls ≠ "java/lang/invoke/VarHandle") ∧
  (∀ sig, parseMethodDescriptor y.desc = some sig → n = sig.parameters.length) ∧ (Cond.methodLink own index y).before args s = true ∧ (Cond.instanceMethod y).before args s = true ∧ (Cond.selects C y y).before args s = true
theorem vx_cwVW {own C : String} {index maxL mc ms : Nat} {y : MethodName} {bytes : ByteArray} {ret : Option FieldType} {hh : List (Nat × Nat × Nat × Nat)} {Ts ws ws' : List Cond} {rm : Room} (n : Nat) (ht : ∀ w ∈ Ts, w.before args s = true) (hT : GoodIn Ts (wsV own index C y ws)) (hw : ws = Cond.codeWith y bytes maxL ret hh :: ws') (hrc : rm.cells = mc) (hrs : rm.slots = ms)
    (hd : y.cls = C ∧ y.cls ≠ "java/lang/invoke/MethodHandle" ∧ y.cls ≠ "java/lang/invoke/VarHandle" ∧ (parseMethodDescriptor y.desc).map (fun d => d.parameters.length) = some n) (hR : rm.frames + 1 ≤ R.frames ∧ 8 + (maxL + 11) + rm.locals ≤ R.locals) :
    vx_CVW R s args own C index y bytes maxL ret hh ws rm mc ms n := by
  obtain ⟨hC, hd⟩ := hd
  subst hC
  have ok : ∀ w ∈ wsV own index y.cls y ws, w.before args s = true := fun w h => ht w (hT w h).1
  have hG : GoodIn Ts ws := fun w h => hT w (by unfold wsV; exact List.mem_append_right _ h)
  have hc : Cond.codeWith y bytes maxL ret hh ∈ ws := by rw [hw]; exact List.mem_cons_self
  refine ⟨⟨hrc, hrs, hR.1, hR.2, pay_in ht hG, hc⟩, ht _ (hG _ hc).1, ok _ (by simp [wsV]), ⟨hd.1, hd.2.1⟩, fun sig h => ?_, ok _ (by simp [wsV]), ok _ (by simp [wsV]), ok _ (by simp [wsV])⟩
  have h2 := hd.2.2
  rw [h] at h2
  exact (Option.some.inj h2).symm
theorem vx_runVW {y : MethodName} {bytes cc : ByteArray} {maxL nL mc ms n index : Nat} {ret : Option FieldType} {hh : List (Nat × Nat × Nat × Nat)} {ws : List Cond} {rm : Room} {Pc : Array Value → State → Prop} {Qc : Array Value → State → Outcome → State → Prop} {free : Addr → Prop} {Ts : List Cond} {own C : String} {b : Addr} {As rest : List Value} {g : JFrame}
    (S : CallFix p m c cc nL s args Ts own) (hM : Met l y ws rm Pc Qc mc ms free) (cw : vx_CVW R s args own C index y bytes maxL ret hh ws rm mc ms n) (hp : PreV s H C b Pc As)
    (hg : g.method = m) (hn : As.length = n) (hsize : g.locals.size = nL) (hstack : g.stack = As.reverse ++ .ref b :: rest) (hW : 2 * g.monitorRoom + (rest.map fun v => v.category).sum ≤ 8) (hdg : decode cc g.pc = .ok (.invokevirtual index, 3)) (hf : cells + mc ≤ R.cells ∧ slots + ms ≤ R.slots) :
    va_Run p l e R s m args below meth c H locs cells slots mc ms g rest (Qc (Value.ref b :: As).toArray) free := by
  obtain ⟨⟨hrc, hrs, hfr, hlo, hws, hcw⟩, hcode, hini, hy, hlen, hl, hin, hse⟩ := cw
  have hK : Back l R p e below s args y 3 8 (PreOf R mc ms Pc) (PostOf Qc mc ms free) := va_backW (hh := hh) (bytes := bytes) (maxL := maxL) (ret := ret) hM hp.1 hrc hrs hfr hlo hws hcw (fun a' U hW => word_at hW (Or.inl (by first | rfl | simp [Cond.onTables, Cond.keeps, Cond.steady])) hini)
  obtain ⟨hx, hb, hml, ho, -⟩ := S
  obtain ⟨-, ⟨cellB, hcB, hoB, hclB⟩, hPc⟩ := hp
  intro T hT X
  obtain ⟨v, vm₁, ⟨U', l2, c2, s2⟩, hW₁, X', ⟨g', mk, t, L, e1, e2, hq, h1, hL, h2, h3⟩, st⟩ := vx_callVW X hx (C := C) (hh := hh) (bytes := bytes) (maxL := maxL) (ret := ret) ho hl hin hse hcode hy hK (by rw [hT]; exact hcB) hoB hclB hg (hsize.trans hml.symm) (argsL := As) (rest := rest) (fun sig h => hn.trans (hlen sig h)) hstack hW (by rw [hb]; exact hdg)
    (fun vm₁ hW₁ => ⟨hf.1, hf.2, hPc (T.setVm vm₁) hT hW₁⟩)
  dsimp only [Pt.U, Pt.locs, Pt.cells, Pt.slots] at X' e1 e2 h1 h2 h3 st
  subst h1; subst h2; subst h3
  exact ⟨v, (T.setVm vm₁).calling g' mk (Value.ref b :: As).toArray, t, U', L, hT, X', hL, e1, e2, hq, st⟩
section
variable {y : MethodName} {bytes cc : ByteArray} {maxL nL mc ms n index : Nat} {ret : Option FieldType} {ws : List Cond} {rm : Room} {Pc : Array Value → State → Prop} {Qc : Array Value → State → Outcome → State → Prop} {XC : String → State → State → Prop} {free : Addr → Prop} {Ts : List Cond} {own C : String} {b : Addr} {As rest : List Value} {g : JFrame}
theorem vx_runVX {hh : List (Nat × Nat × Nat × Nat)} (S : CallFix p m c cc nL s args Ts own) (hM : vx_Met l y ws rm Pc Qc XC mc ms free) (cw : vx_CVW R s args own C index y bytes maxL ret hh ws rm mc ms n) (hp : PreV s H C b Pc As)
    (hg : g.method = m) (hn : As.length = n) (hsize : g.locals.size = nL) (hstack : g.stack = As.reverse ++ .ref b :: rest) (hW : 2 * g.monitorRoom + (rest.map fun v => v.category).sum ≤ 8) (hdg : decode cc g.pc = .ok (.invokevirtual index, 3)) (hf : cells + mc ≤ R.cells ∧ slots + ms ≤ R.slots) :
    vx_Run p l e R s m args below meth c H locs cells slots mc ms g rest (Qc (Value.ref b :: As).toArray) XC free := by
  obtain ⟨⟨hrc, hrs, hfr, hlo, hws, hcw⟩, hcode, hini, hy, hlen, hl, hin, hse⟩ := cw
  have hK : vx_Back l R p e below s args y 3 8 (PreOf R mc ms Pc) (PostOf Qc mc ms free) (vx_Post XC mc ms free) := vx_backW (hh := hh) (bytes := bytes) (maxL := maxL) (ret := ret) hM hp.1 hrc hrs hfr hlo hws hcw (fun a' U hW => word_at hW (Or.inl (by first | rfl | simp [Cond.onTables, Cond.keeps, Cond.steady])) hini)
  obtain ⟨hx, hb, hml, ho, -⟩ := S
  obtain ⟨-, ⟨cellB, hcB, hoB, hclB⟩, hPc⟩ := hp
  intro T hT X
  rcases vx_callVX X hx (C := C) (hh := hh) (bytes := bytes) (maxL := maxL) (ret := ret) ho hl hin hse hcode hy hK (by rw [hT]; exact hcB) hoB hclB hg (hsize.trans hml.symm) (argsL := As) (rest := rest) (fun sig h => hn.trans (hlen sig h)) hstack hW (by rw [hb]; exact hdg)
    (fun vm₁ hW₁ => ⟨hf.1, hf.2, hPc (T.setVm vm₁) hT hW₁⟩) with ⟨v, vm₁, ⟨U', l2, c2, s2⟩, hW₁, X', ⟨g', mk, t, L, e1, e2, hq, h1, hL, h2, h3⟩, st⟩ | ⟨q, vm₁, ⟨U', l2, c2, s2⟩, hW₁, X', ⟨g', mk, t, L, E, ce, e1, e2, hq, hce, hcv, hcl, h1, hL, h2, h3⟩, st⟩
  · dsimp only [Pt.U, Pt.locs, Pt.cells, Pt.slots] at X' e1 e2 h1 h2 h3 st
    subst h1; subst h2; subst h3
    exact Or.inl ⟨v, (T.setVm vm₁).calling g' mk (Value.ref b :: As).toArray, t, U', L, hT, X', hL, e1, e2, hq, st⟩
  · dsimp only [Pt.U, Pt.locs, Pt.cells, Pt.slots] at X' e1 e2 h1 h2 h3 st hcl
    subst h1; subst h2; subst h3
    exact Or.inr ⟨q, (T.setVm vm₁).calling g' mk (Value.ref b :: As).toArray, t, U', L, E, ce, hT, X', hL, e1, e2, hq, hce, hcv, vx_cls hW₁ hcl, st⟩
theorem vx_runSX {hh : List (Nat × Nat × Nat × Nat)} (S : CallFix p m c cc nL s args Ts own) (hM : vx_Met l y ws rm Pc Qc XC mc ms free) (cw : vx_CSW R s args own index y bytes maxL ret hh ws rm mc ms n) (hp : PreS s H Pc As)
    (hg : g.method = m) (hn : As.length = n) (hsize : g.locals.size = nL) (hstack : g.stack = As.reverse ++ rest) (hW : 2 * g.monitorRoom + (rest.map fun v => v.category).sum ≤ 8) (hdg : decode cc g.pc = .ok (.invokestatic index, 3)) (hf : cells + mc ≤ R.cells ∧ slots + ms ≤ R.slots) :
    vx_Run p l e R s m args below meth c H locs cells slots mc ms g rest (Qc As.toArray) XC free := by
  obtain ⟨⟨hrc, hrs, hfr, hlo, hws, hcw⟩, hcode, hini, hy, hlen, hl, hstt⟩ := cw
  have hK : vx_Back l R p e below s args y 3 8 (PreOf R mc ms Pc) (PostOf Qc mc ms free) (vx_Post XC mc ms free) := vx_backW (hh := hh) (bytes := bytes) (maxL := maxL) (ret := ret) hM hp.1 hrc hrs hfr hlo hws hcw (fun a' U hW => word_at hW (Or.inl (by first | rfl | simp [Cond.onTables, Cond.keeps, Cond.steady])) hini)
  obtain ⟨hx, hb, hml, ho, -⟩ := S
  intro T hT X
  rcases vx_callSX X hx (hh := hh) (bytes := bytes) (maxL := maxL) (ret := ret) ho hl hstt hini hcode hy hK hg (hsize.trans hml.symm) (argsL := As) (rest := rest) (fun sig h => hn.trans (hlen sig h)) hstack hW (by rw [hb]; exact hdg)
    (fun vm₁ hW₁ => ⟨hf.1, hf.2, hp.2 (T.setVm vm₁) hT hW₁⟩) with ⟨v, vm₁, ⟨U', l2, c2, s2⟩, hW₁, X', ⟨g', mk, t, L, e1, e2, hq, h1, hL, h2, h3⟩, st⟩ | ⟨q, vm₁, ⟨U', l2, c2, s2⟩, hW₁, X', ⟨g', mk, t, L, E, ce, e1, e2, hq, hce, hcv, hcl, h1, hL, h2, h3⟩, st⟩
  · dsimp only [Pt.U, Pt.locs, Pt.cells, Pt.slots] at X' e1 e2 h1 h2 h3 st
    subst h1; subst h2; subst h3
    exact Or.inl ⟨v, (T.setVm vm₁).calling g' mk As.toArray, t, U', L, hT, X', hL, e1, e2, hq, st⟩
  · dsimp only [Pt.U, Pt.locs, Pt.cells, Pt.slots] at X' e1 e2 h1 h2 h3 st hcl
    subst h1; subst h2; subst h3
    exact Or.inr ⟨q, (T.setVm vm₁).calling g' mk As.toArray, t, U', L, E, ce, hT, X', hL, e1, e2, hq, hce, hcv, vx_cls hW₁ hcl, st⟩
end
end VXH
theorem vx_ofWH {l : Launch} {y : MethodName} {ws ws' : List Cond} {rm : Room} {Pc : Array Value → State → Prop} {Qc : Array Value → State → Outcome → State → Prop} {XC : String → State → State → Prop} {mc ms : Nat} {free : Addr → Prop} {cc : ByteArray} {maxL : Nat} {ret : Option FieldType} {hh : List (Nat × Nat × Nat × Nat)}
    (hy : plainName y.cls = true) (hw : ws = Cond.codeWith y cc maxL ret hh :: ws')
    (body : ∀ p e s m args below meth c s₁, BodyLoose p l y (headSpec ws rm) cc maxL ret e s m args below meth c s₁ → c.maxLocals = maxL → Pc args s →
      W p l e (headSpec ws rm).room s m args below meth c s.heap [] 0 0 (vx_MQ below Qc XC args s mc ms free) (entryFrame m args maxL)) : vx_Met l y ws rm Pc Qc XC mc ms free := by
  refine MetFree.of_bodyS (code := cc) (maxLocals := maxL) (ret := ret) hy ?_ ?_
  · intro args s m h hn
    obtain ⟨m9, meth, c, hn9, h1, h2, h3, h4, -, h5, h6, -⟩ := Cond.codeWith_spec (atoms_spec (ws := ws) h _ (by rw [hw]; exact List.mem_cons_self))
    cases hn.symm.trans hn9
    exact ⟨meth, c, h1, h2, h3, h4, h5, h6⟩
  · intro p e s m args below meth c s₁ B hml hP _
    have hh0 : s₁.heap = s.heap := by rw [B.state]; rfl
    obtain ⟨t, a1, o, b1, b2, b3⟩ := body p e s m args below meth c s₁ B hml hP s₁ hh0 (Stand.of_body B)
    exact ⟨t, o, a1, b1, b2, b3⟩
/-! ===== END ===== -/
end
section
def RX0 : String := "CutStore$Buffer"
def TX0 : u_T := fun k => match k with
  | 0 => ("CutStore$Buffer", "codes", "[I", true)
  | _ => ("CutStore$Buffer", "length", "I", false)
def tyX0 : Nat → FieldType := fun k => match k with
  | 0 => .array .int
  | _ => .int
abbrev wsX00 : List Cond := u_ws RX0 TX0 2
theorem nmX0 : ∀ a, a < 2 → ∀ b, b < 2 → a ≠ b → (TX0 a).2.1 ≠ (TX0 b).2.1 := by decide +kernel
theorem tyX0_ok : ∀ k, k < 2 → parseFieldDescriptor (TX0 k).2.2.1 = some (tyX0 k) := by decide +kernel
abbrev cX0_init : ByteArray := prog_2_method_1_code
def yX0_init : MethodName := ⟨RX0, "<init>", "()V"⟩
abbrev cX0_clear : ByteArray := prog_2_method_2_code
def yX0_clear : MethodName := ⟨RX0, "clear", "()V"⟩
abbrev cX0_add : ByteArray := prog_2_method_3_code
def yX0_add : MethodName := ⟨RX0, "add", "(I)V"⟩
abbrev cX0_isLetter : ByteArray := prog_2_method_4_code
def yX0_isLetter : MethodName := ⟨RX0, "isLetter", "(I)Z"⟩
abbrev cX0_signsAddedAt : ByteArray := prog_2_method_5_code
def yX0_signsAddedAt : MethodName := ⟨RX0, "signsAddedAt", "(I)I"⟩
abbrev cX0_errorIndex : ByteArray := prog_2_method_6_code
def yX0_errorIndex : MethodName := ⟨RX0, "errorIndex", "()I"⟩
abbrev cX0_isComplete : ByteArray := prog_2_method_7_code
def yX0_isComplete : MethodName := ⟨RX0, "isComplete", "()Z"⟩
abbrev cX0_readInto : ByteArray := prog_2_method_9_code
def yX0_readInto : MethodName := ⟨RX0, "readInto", "(LCutStore$Cut;)V"⟩
def RX1 : String := "CutStore$Cut"
def TX1 : u_T := fun k => match k with
  | 0 => ("CutStore$Cut", "signs", "[I", true)
  | 1 => ("CutStore$Cut", "length", "I", false)
  | 2 => ("CutStore$Cut", "starts", "[I", true)
  | 3 => ("CutStore$Cut", "lengths", "[I", true)
  | 4 => ("CutStore$Cut", "forced", "[I", true)
  | 5 => ("CutStore$Cut", "rows", "[J", true)
  | _ => ("CutStore$Cut", "pieces", "I", false)
def tyX1 : Nat → FieldType := fun k => match k with
  | 0 => .array .int
  | 1 => .int
  | 2 => .array .int
  | 3 => .array .int
  | 4 => .array .int
  | 5 => .array .long
  | _ => .int
abbrev wsX10 : List Cond := u_ws RX1 TX1 7
theorem nmX1 : ∀ a, a < 7 → ∀ b, b < 7 → a ≠ b → (TX1 a).2.1 ≠ (TX1 b).2.1 := by decide +kernel
theorem tyX1_ok : ∀ k, k < 7 → parseFieldDescriptor (TX1 k).2.2.1 = some (tyX1 k) := by decide +kernel
abbrev cX1_init : ByteArray := prog_3_method_1_code
def yX1_init : MethodName := ⟨RX1, "<init>", "()V"⟩
abbrev cX1_clear : ByteArray := prog_3_method_2_code
def yX1_clear : MethodName := ⟨RX1, "clear", "()V"⟩
abbrev cX1_addSign : ByteArray := prog_3_method_3_code
def yX1_addSign : MethodName := ⟨RX1, "addSign", "(I)V"⟩
abbrev cX1_addSigns : ByteArray := prog_3_method_4_code
def yX1_addSigns : MethodName := ⟨RX1, "addSigns", "(LCutStore$Cut;II)V"⟩
abbrev cX1_becomeSignsOf : ByteArray := prog_3_method_5_code
def yX1_becomeSignsOf : MethodName := ⟨RX1, "becomeSignsOf", "(LCutStore$Cut;)V"⟩
abbrev cX1_become : ByteArray := prog_3_method_6_code
def yX1_become : MethodName := ⟨RX1, "become", "(LCutStore$Cut;)V"⟩
abbrev cX1_cutBy : ByteArray := prog_3_method_7_code
def yX1_cutBy : MethodName := ⟨RX1, "cutBy", "(LCutStore$Settings;)V"⟩
abbrev cX1_addPiece : ByteArray := prog_3_method_8_code
def yX1_addPiece : MethodName := ⟨RX1, "addPiece", "(IIZ)V"⟩
abbrev cX1_packed : ByteArray := prog_3_method_9_code
def yX1_packed : MethodName := ⟨RX1, "packed", "(II)J"⟩
abbrev cX1_pieceAt : ByteArray := prog_3_method_10_code
def yX1_pieceAt : MethodName := ⟨RX1, "pieceAt", "(I)I"⟩
abbrev cX1_endsBehind : ByteArray := prog_3_method_11_code
def yX1_endsBehind : MethodName := ⟨RX1, "endsBehind", "(I)Z"⟩
abbrev cX1_has : ByteArray := prog_3_method_12_code
def yX1_has : MethodName := ⟨RX1, "has", "(J)Z"⟩
abbrev cX1_hasAheadOf : ByteArray := prog_3_method_13_code
def yX1_hasAheadOf : MethodName := ⟨RX1, "hasAheadOf", "(IJ)Z"⟩
abbrev cX1_unlikePieces : ByteArray := prog_3_method_14_code
def yX1_unlikePieces : MethodName := ⟨RX1, "unlikePieces", "()I"⟩
abbrev cX1_unlikePiecesAlsoIn : ByteArray := prog_3_method_15_code
def yX1_unlikePiecesAlsoIn : MethodName := ⟨RX1, "unlikePiecesAlsoIn", "(LCutStore$Cut;)I"⟩
abbrev cX1_forcedPieces : ByteArray := prog_3_method_18_code
def yX1_forcedPieces : MethodName := ⟨RX1, "forcedPieces", "()I"⟩
abbrev cX1_longestPiece : ByteArray := prog_3_method_19_code
def yX1_longestPiece : MethodName := ⟨RX1, "longestPiece", "()I"⟩
def RX2 : String := "CutStore$History"
def TX2 : u_T := fun k => match k with
  | 0 => ("CutStore$History", "states", "[LCutStore$State;", true)
  | _ => ("CutStore$History", "saved", "I", false)
def tyX2 : Nat → FieldType := fun k => match k with
  | 0 => .array (.object "CutStore$State")
  | _ => .int
abbrev wsX20 : List Cond := u_ws RX2 TX2 2
theorem nmX2 : ∀ a, a < 2 → ∀ b, b < 2 → a ≠ b → (TX2 a).2.1 ≠ (TX2 b).2.1 := by decide +kernel
theorem tyX2_ok : ∀ k, k < 2 → parseFieldDescriptor (TX2 k).2.2.1 = some (tyX2 k) := by decide +kernel
abbrev cX2_init : ByteArray := prog_4_method_1_code
def yX2_init : MethodName := ⟨RX2, "<init>", "()V"⟩
abbrev cX2_push : ByteArray := prog_4_method_2_code
def yX2_push : MethodName := ⟨RX2, "push", "(LCutStore$State;)V"⟩
abbrev cX2_dropOldest : ByteArray := prog_4_method_3_code
def yX2_dropOldest : MethodName := ⟨RX2, "dropOldest", "()V"⟩
def RX3 : String := "CutStore$Settings"
def TX3 : u_T := fun k => match k with
  | _ => ("CutStore$Settings", "values", "[I", true)
def tyX3 : Nat → FieldType := fun k => match k with
  | _ => .array .int
abbrev wsX30 : List Cond := u_ws RX3 TX3 1
theorem nmX3 : ∀ a, a < 1 → ∀ b, b < 1 → a ≠ b → (TX3 a).2.1 ≠ (TX3 b).2.1 := by decide +kernel
theorem tyX3_ok : ∀ k, k < 1 → parseFieldDescriptor (TX3 k).2.2.1 = some (tyX3 k) := by decide +kernel
abbrev cX3_init : ByteArray := prog_5_method_1_code
def yX3_init : MethodName := ⟨RX3, "<init>", "()V"⟩
abbrev cX3_become : ByteArray := prog_5_method_2_code
def yX3_become : MethodName := ⟨RX3, "become", "(LCutStore$Settings;)V"⟩
abbrev cX3_sumAt : ByteArray := prog_5_method_3_code
def yX3_sumAt : MethodName := ⟨RX3, "sumAt", "(LCutStore$Cut;I)I"⟩
abbrev cX3_endPieceAt : ByteArray := prog_5_method_4_code
def yX3_endPieceAt : MethodName := ⟨RX3, "endPieceAt", "(LCutStore$Cut;I)Z"⟩
def RX4 : String := "CutStore$State"
def TX4 : u_T := fun k => match k with
  | 0 => ("CutStore$State", "cuts", "[LCutStore$Cut;", true)
  | 1 => ("CutStore$State", "store", "LCutStore$Store;", true)
  | _ => ("CutStore$State", "settings", "LCutStore$Settings;", true)
def tyX4 : Nat → FieldType := fun k => match k with
  | 0 => .array (.object "CutStore$Cut")
  | 1 => .object "CutStore$Store"
  | _ => .object "CutStore$Settings"
abbrev wsX40 : List Cond := u_ws RX4 TX4 3
theorem nmX4 : ∀ a, a < 3 → ∀ b, b < 3 → a ≠ b → (TX4 a).2.1 ≠ (TX4 b).2.1 := by decide +kernel
theorem tyX4_ok : ∀ k, k < 3 → parseFieldDescriptor (TX4 k).2.2.1 = some (tyX4 k) := by decide +kernel
abbrev cX4_init : ByteArray := prog_6_method_1_code
def yX4_init : MethodName := ⟨RX4, "<init>", "()V"⟩
abbrev cX4_become : ByteArray := prog_6_method_2_code
def yX4_become : MethodName := ⟨RX4, "become", "(LCutStore$State;)V"⟩
abbrev cX4_becomeChanged : ByteArray := prog_6_method_3_code
def yX4_becomeChanged : MethodName := ⟨RX4, "becomeChanged", "(LCutStore$State;ILCutStore$Cut;)Z"⟩
abbrev cX4_textsWith : ByteArray := prog_6_method_4_code
def yX4_textsWith : MethodName := ⟨RX4, "textsWith", "(J)I"⟩
abbrev cX4_signsOwnedAlone : ByteArray := prog_6_method_5_code
def yX4_signsOwnedAlone : MethodName := ⟨RX4, "signsOwnedAlone", "(I)I"⟩
abbrev cX4_signs : ByteArray := prog_6_method_6_code
def yX4_signs : MethodName := ⟨RX4, "signs", "()I"⟩
abbrev cX4_pieces : ByteArray := prog_6_method_7_code
def yX4_pieces : MethodName := ⟨RX4, "pieces", "()I"⟩
def RX5 : String := "CutStore$Store"
def TX5 : u_T := fun k => match k with
  | 0 => ("CutStore$Store", "rows", "[J", true)
  | 1 => ("CutStore$Store", "lengths", "[I", true)
  | 2 => ("CutStore$Store", "owners", "[I", true)
  | 3 => ("CutStore$Store", "came", "I", false)
  | _ => ("CutStore$Store", "swept", "I", false)
def tyX5 : Nat → FieldType := fun k => match k with
  | 0 => .array .long
  | 1 => .array .int
  | 2 => .array .int
  | 3 => .int
  | _ => .int
abbrev wsX50 : List Cond := u_ws RX5 TX5 5
theorem nmX5 : ∀ a, a < 5 → ∀ b, b < 5 → a ≠ b → (TX5 a).2.1 ≠ (TX5 b).2.1 := by decide +kernel
theorem tyX5_ok : ∀ k, k < 5 → parseFieldDescriptor (TX5 k).2.2.1 = some (tyX5 k) := by decide +kernel
abbrev cX5_init : ByteArray := prog_7_method_1_code
def yX5_init : MethodName := ⟨RX5, "<init>", "()V"⟩
abbrev cX5_become : ByteArray := prog_7_method_2_code
def yX5_become : MethodName := ⟨RX5, "become", "(LCutStore$Store;)V"⟩
abbrev cX5_isFree : ByteArray := prog_7_method_3_code
def yX5_isFree : MethodName := ⟨RX5, "isFree", "(I)Z"⟩
abbrev cX5_isUnowned : ByteArray := prog_7_method_4_code
def yX5_isUnowned : MethodName := ⟨RX5, "isUnowned", "(I)Z"⟩
abbrev cX5_slotOf : ByteArray := prog_7_method_5_code
def yX5_slotOf : MethodName := ⟨RX5, "slotOf", "(J)I"⟩
abbrev cX5_firstSign : ByteArray := prog_7_method_6_code
def yX5_firstSign : MethodName := ⟨RX5, "firstSign", "(I)I"⟩
abbrev cX5_lastSign : ByteArray := prog_7_method_7_code
def yX5_lastSign : MethodName := ⟨RX5, "lastSign", "(I)I"⟩
abbrev cX5_loseOwner : ByteArray := prog_7_method_8_code
def yX5_loseOwner : MethodName := ⟨RX5, "loseOwner", "(LCutStore$Cut;)V"⟩
abbrev cX5_getOwner : ByteArray := prog_7_method_9_code
def yX5_getOwner : MethodName := ⟨RX5, "getOwner", "(LCutStore$Cut;)V"⟩
abbrev cX5_takeIn : ByteArray := prog_7_method_10_code
def yX5_takeIn : MethodName := ⟨RX5, "takeIn", "(JI)I"⟩
abbrev cX5_removeUnownedBut : ByteArray := prog_7_method_11_code
def yX5_removeUnownedBut : MethodName := ⟨RX5, "removeUnownedBut", "(LCutStore$Cut;)I"⟩
abbrev cX5_hasRoomFor : ByteArray := prog_7_method_12_code
def yX5_hasRoomFor : MethodName := ⟨RX5, "hasRoomFor", "(LCutStore$Cut;)Z"⟩
abbrev cX5_slotsNeededBy : ByteArray := prog_7_method_13_code
def yX5_slotsNeededBy : MethodName := ⟨RX5, "slotsNeededBy", "(LCutStore$Cut;)I"⟩
abbrev cX5_roomNeededBy : ByteArray := prog_7_method_14_code
def yX5_roomNeededBy : MethodName := ⟨RX5, "roomNeededBy", "(LCutStore$Cut;)I"⟩
abbrev cX5_pieces : ByteArray := prog_7_method_15_code
def yX5_pieces : MethodName := ⟨RX5, "pieces", "()I"⟩
abbrev cX5_size : ByteArray := prog_7_method_16_code
def yX5_size : MethodName := ⟨RX5, "size", "()I"⟩
abbrev cX5_unownedPieces : ByteArray := prog_7_method_17_code
def yX5_unownedPieces : MethodName := ⟨RX5, "unownedPieces", "()I"⟩
abbrev cX5_unownedSize : ByteArray := prog_7_method_18_code
def yX5_unownedSize : MethodName := ⟨RX5, "unownedSize", "()I"⟩
abbrev cX5_mostOwners : ByteArray := prog_7_method_19_code
def yX5_mostOwners : MethodName := ⟨RX5, "mostOwners", "()I"⟩
def RX6 : String := "CutStore"
def TX6 : u_T := fun k => match k with
  | 0 => ("CutStore", "state", "LCutStore$State;", true)
  | 1 => ("CutStore", "history", "LCutStore$History;", true)
  | 2 => ("CutStore", "buffer", "LCutStore$Buffer;", true)
  | 3 => ("CutStore", "next", "LCutStore$State;", true)
  | 4 => ("CutStore", "trial", "LCutStore$Cut;", true)
  | 5 => ("CutStore", "otherSettings", "LCutStore$Settings;", true)
  | _ => ("CutStore", "seenRows", "[J", true)
def tyX6 : Nat → FieldType := fun k => match k with
  | 0 => .object "CutStore$State"
  | 1 => .object "CutStore$History"
  | 2 => .object "CutStore$Buffer"
  | 3 => .object "CutStore$State"
  | 4 => .object "CutStore$Cut"
  | 5 => .object "CutStore$Settings"
  | _ => .array .long
abbrev wsX60 : List Cond := u_ws RX6 TX6 7
theorem nmX6 : ∀ a, a < 7 → ∀ b, b < 7 → a ≠ b → (TX6 a).2.1 ≠ (TX6 b).2.1 := by decide +kernel
theorem tyX6_ok : ∀ k, k < 7 → parseFieldDescriptor (TX6 k).2.2.1 = some (tyX6 k) := by decide +kernel
abbrev cX6_init : ByteArray := prog_1_method_1_code
def yX6_init : MethodName := ⟨RX6, "<init>", "()V"⟩
abbrev cX6_put : ByteArray := prog_1_method_2_code
def yX6_put : MethodName := ⟨RX6, "put", "(I)I"⟩
abbrev cX6_takeOut : ByteArray := prog_1_method_4_code
def yX6_takeOut : MethodName := ⟨RX6, "takeOut", "(III)I"⟩
abbrev cX6_copy : ByteArray := prog_1_method_5_code
def yX6_copy : MethodName := ⟨RX6, "copy", "(II)I"⟩
abbrev cX6_rotate : ByteArray := prog_1_method_6_code
def yX6_rotate : MethodName := ⟨RX6, "rotate", "(II)I"⟩
abbrev cX6_drop : ByteArray := prog_1_method_7_code
def yX6_drop : MethodName := ⟨RX6, "drop", "(I)I"⟩
abbrev cX6_sweep : ByteArray := prog_1_method_8_code
def yX6_sweep : MethodName := ⟨RX6, "sweep", "()I"⟩
abbrev cX6_set : ByteArray := prog_1_method_9_code
def yX6_set : MethodName := ⟨RX6, "set", "(II)I"⟩
abbrev cX6_append : ByteArray := prog_1_method_10_code
def yX6_append : MethodName := ⟨RX6, "append", "(I)I"⟩
abbrev cX6_clearBuffer : ByteArray := prog_1_method_11_code
def yX6_clearBuffer : MethodName := ⟨RX6, "clearBuffer", "()I"⟩
abbrev cX6_sign : ByteArray := prog_1_method_14_code
def yX6_sign : MethodName := ⟨RX6, "sign", "(III)I"⟩
abbrev cX6_piece : ByteArray := prog_1_method_15_code
def yX6_piece : MethodName := ⟨RX6, "piece", "(III)I"⟩
abbrev cX6_slot : ByteArray := prog_1_method_16_code
def yX6_slot : MethodName := ⟨RX6, "slot", "(II)I"⟩
abbrev cX6_text : ByteArray := prog_1_method_17_code
def yX6_text : MethodName := ⟨RX6, "text", "(II)I"⟩
abbrev cX6_count : ByteArray := prog_1_method_19_code
def yX6_count : MethodName := ⟨RX6, "count", "(I)I"⟩
abbrev cX6_ifPut : ByteArray := prog_1_method_21_code
def yX6_ifPut : MethodName := ⟨RX6, "ifPut", "(II)I"⟩
abbrev cX6_requireText : ByteArray := prog_1_method_26_code
def yX6_requireText : MethodName := ⟨RX6, "requireText", "(I)V"⟩
abbrev cX6_requirePlace : ByteArray := prog_1_method_27_code
def yX6_requirePlace : MethodName := ⟨RX6, "requirePlace", "(LCutStore$Cut;I)V"⟩
abbrev cX6_requireSetting : ByteArray := prog_1_method_28_code
def yX6_requireSetting : MethodName := ⟨RX6, "requireSetting", "(I)V"⟩
abbrev cX6_requireValue : ByteArray := prog_1_method_29_code
def yX6_requireValue : MethodName := ⟨RX6, "requireValue", "(II)V"⟩
abbrev cX6_requireWhat : ByteArray := prog_1_method_30_code
def yX6_requireWhat : MethodName := ⟨RX6, "requireWhat", "(II)V"⟩
abbrev cX6_requireCompleteBuffer : ByteArray := prog_1_method_31_code
def yX6_requireCompleteBuffer : MethodName := ⟨RX6, "requireCompleteBuffer", "()V"⟩
abbrev cX6_changeToTrial : ByteArray := prog_1_method_32_code
def yX6_changeToTrial : MethodName := ⟨RX6, "changeToTrial", "(I)I"⟩
def RX7 : String := "CutStoreModel"
def TX7 : u_T := fun k => match k with
  | _ => ("", "", "", false)
def tyX7 : Nat → FieldType := fun k => match k with
  | _ => .int
abbrev wsX70 : List Cond := u_ws RX7 TX7 0
theorem nmX7 : ∀ a, a < 0 → ∀ b, b < 0 → a ≠ b → (TX7 a).2.1 ≠ (TX7 b).2.1 := by decide +kernel
theorem tyX7_ok : ∀ k, k < 0 → parseFieldDescriptor (TX7 k).2.2.1 = some (tyX7 k) := by decide +kernel
def RJx8e188 : String := "java/lang/Cloneable"
def TJx8e188 : u_T := fun k => match k with
  | _ => ("", "", "", false)
def tyJx8e188 : Nat → FieldType := fun k => match k with
  | _ => .int
abbrev wsJx8e1880 : List Cond := u_ws RJx8e188 TJx8e188 0
theorem nmJx8e188 : ∀ a, a < 0 → ∀ b, b < 0 → a ≠ b → (TJx8e188 a).2.1 ≠ (TJx8e188 b).2.1 := by decide +kernel
theorem tyJx8e188_ok : ∀ k, k < 0 → parseFieldDescriptor (TJx8e188 k).2.2.1 = some (tyJx8e188 k) := by decide +kernel
def RJ6 : String := "java/lang/Integer"
def TJ6 : u_T := fun k => match k with
  | _ => ("", "", "", false)
def tyJ6 : Nat → FieldType := fun k => match k with
  | _ => .int
abbrev wsJ60 : List Cond := u_ws RJ6 TJ6 0
theorem nmJ6 : ∀ a, a < 0 → ∀ b, b < 0 → a ≠ b → (TJ6 a).2.1 ≠ (TJ6 b).2.1 := by decide +kernel
theorem tyJ6_ok : ∀ k, k < 0 → parseFieldDescriptor (TJ6 k).2.2.1 = some (tyJ6 k) := by decide +kernel
abbrev cJ6_bitCount_0f7a4 : ByteArray := prog_15_method_49_code
def yJ6_bitCount_0f7a4 : MethodName := ⟨RJ6, "bitCount", "(I)I"⟩
def RJ9 : String := "java/lang/Math"
def TJ9 : u_T := fun k => match k with
  | _ => ("", "", "", false)
def tyJ9 : Nat → FieldType := fun k => match k with
  | _ => .int
abbrev wsJ90 : List Cond := u_ws RJ9 TJ9 0
theorem nmJ9 : ∀ a, a < 0 → ∀ b, b < 0 → a ≠ b → (TJ9 a).2.1 ≠ (TJ9 b).2.1 := by decide +kernel
theorem tyJ9_ok : ∀ k, k < 0 → parseFieldDescriptor (TJ9 k).2.2.1 = some (tyJ9 k) := by decide +kernel
abbrev cJ9_max_7cf53 : ByteArray := prog_16_method_65_code
def yJ9_max_7cf53 : MethodName := ⟨RJ9, "max", "(II)I"⟩
def RJ0 : String := "java/lang/String"
def TJ0 : u_T := fun k => match k with
  | _ => ("", "", "", false)
def tyJ0 : Nat → FieldType := fun k => match k with
  | _ => .int
abbrev wsJ00 : List Cond := u_ws RJ0 TJ0 0
theorem nmJ0 : ∀ a, a < 0 → ∀ b, b < 0 → a ≠ b → (TJ0 a).2.1 ≠ (TJ0 b).2.1 := by decide +kernel
theorem tyJ0_ok : ∀ k, k < 0 → parseFieldDescriptor (TJ0 k).2.2.1 = some (tyJ0 k) := by decide +kernel
def RJ10 : String := "java/lang/System"
def TJ10 : u_T := fun k => match k with
  | _ => ("", "", "", false)
def tyJ10 : Nat → FieldType := fun k => match k with
  | _ => .int
abbrev wsJ100 : List Cond := u_ws RJ10 TJ10 0
theorem nmJ10 : ∀ a, a < 0 → ∀ b, b < 0 → a ≠ b → (TJ10 a).2.1 ≠ (TJ10 b).2.1 := by decide +kernel
theorem tyJ10_ok : ∀ k, k < 0 → parseFieldDescriptor (TJ10 k).2.2.1 = some (tyJ10 k) := by decide +kernel
def RL : String := "CutStoreLaw"
abbrev cL_cell : ByteArray := method_2_code
def yL_cell : MethodName := ⟨RL, "cell", "([II)I"⟩
abbrev cL_at : ByteArray := method_3_code
def yL_at : MethodName := ⟨RL, "at", "(II)I"⟩
abbrev cL_ends : ByteArray := method_4_code
def yL_ends : MethodName := ⟨RL, "ends", "([I[IIII)I"⟩
abbrev cL_slot : ByteArray := method_5_code
def yL_slot : MethodName := ⟨RL, "slot", "([J[IJI)I"⟩
abbrev cL_lay : ByteArray := method_6_code
def yL_lay : MethodName := ⟨RL, "lay", "([I[I[I[I[J[I[II[II)I"⟩
abbrev cL_act : ByteArray := method_7_code
def yL_act : MethodName := ⟨RL, "act", "(LCutStore;II[I[I[I[I[J[I[I)Z"⟩
abbrev cL_agree : ByteArray := method_8_code
def yL_agree : MethodName := ⟨RL, "agree", "(LCutStore;[I[I[I[I[I[I)Z"⟩
abbrev cL_law : ByteArray := code
def yL_law : MethodName := ⟨RL, "law", "([I)Z"⟩
abbrev vwCl : List vw_C := [(RX0, TX0, 2), (RX1, TX1, 7), (RX2, TX2, 2), (RX3, TX3, 1), (RX4, TX4, 3), (RX5, TX5, 5), (RX6, TX6, 7)]
end
section
theorem dX0_init_0 : decode cX0_init 0 = .ok (.aload_n 0, 1) := by decide +kernel
theorem dX0_init_1 : decode cX0_init 1 = .ok (.invokespecial 3, 3) := by decide +kernel
theorem dX0_init_4 : decode cX0_init 4 = .ok (.aload_n 0, 1) := by decide +kernel
theorem dX0_init_5 : decode cX0_init 5 = .ok (.bipush 60, 2) := by decide +kernel
theorem dX0_init_7 : decode cX0_init 7 = .ok (.newarray .int, 2) := by decide +kernel
theorem dX0_init_9 : decode cX0_init 9 = .ok (.putfield 9, 3) := by decide +kernel
theorem dX0_init_12 : decode cX0_init 12 = .ok (.aload_n 0, 1) := by decide +kernel
theorem dX0_init_13 : decode cX0_init 13 = .ok (.iconst 0, 1) := by decide +kernel
theorem dX0_init_14 : decode cX0_init 14 = .ok (.putfield 15, 3) := by decide +kernel
theorem dX0_init_17 : decode cX0_init 17 = .ok (.return_, 1) := by decide +kernel
theorem dX0_clear_0 : decode cX0_clear 0 = .ok (.aload_n 0, 1) := by decide +kernel
theorem dX0_clear_1 : decode cX0_clear 1 = .ok (.iconst 0, 1) := by decide +kernel
theorem dX0_clear_2 : decode cX0_clear 2 = .ok (.putfield 15, 3) := by decide +kernel
theorem dX0_clear_5 : decode cX0_clear 5 = .ok (.return_, 1) := by decide +kernel
theorem dX0_add_0 : decode cX0_add 0 = .ok (.aload_n 0, 1) := by decide +kernel
theorem dX0_add_1 : decode cX0_add 1 = .ok (.getfield 15, 3) := by decide +kernel
theorem dX0_add_4 : decode cX0_add 4 = .ok (.bipush 60, 2) := by decide +kernel
theorem dX0_add_6 : decode cX0_add 6 = .ok (.if_icmp .ge 23, 3) := by decide +kernel
theorem dX0_add_9 : decode cX0_add 9 = .ok (.aload_n 0, 1) := by decide +kernel
theorem dX0_add_10 : decode cX0_add 10 = .ok (.getfield 9, 3) := by decide +kernel
theorem dX0_add_13 : decode cX0_add 13 = .ok (.aload_n 0, 1) := by decide +kernel
theorem dX0_add_14 : decode cX0_add 14 = .ok (.getfield 15, 3) := by decide +kernel
theorem dX0_add_17 : decode cX0_add 17 = .ok (.iload_n 1, 1) := by decide +kernel
theorem dX0_add_18 : decode cX0_add 18 = .ok (.iastore, 1) := by decide +kernel
theorem dX0_add_19 : decode cX0_add 19 = .ok (.aload_n 0, 1) := by decide +kernel
theorem dX0_add_20 : decode cX0_add 20 = .ok (.dup, 1) := by decide +kernel
theorem dX0_add_21 : decode cX0_add 21 = .ok (.getfield 15, 3) := by decide +kernel
theorem dX0_add_24 : decode cX0_add 24 = .ok (.iconst 1, 1) := by decide +kernel
theorem dX0_add_25 : decode cX0_add 25 = .ok (.iadd, 1) := by decide +kernel
theorem dX0_add_26 : decode cX0_add 26 = .ok (.putfield 15, 3) := by decide +kernel
theorem dX0_add_29 : decode cX0_add 29 = .ok (.return_, 1) := by decide +kernel
theorem dX0_isLetter_0 : decode cX0_isLetter 0 = .ok (.iload_n 0, 1) := by decide +kernel
theorem dX0_isLetter_1 : decode cX0_isLetter 1 = .ok (.bipush 97, 2) := by decide +kernel
theorem dX0_isLetter_3 : decode cX0_isLetter 3 = .ok (.if_icmp .lt 13, 3) := by decide +kernel
theorem dX0_isLetter_6 : decode cX0_isLetter 6 = .ok (.iload_n 0, 1) := by decide +kernel
theorem dX0_isLetter_7 : decode cX0_isLetter 7 = .ok (.bipush 104, 2) := by decide +kernel
theorem dX0_isLetter_9 : decode cX0_isLetter 9 = .ok (.if_icmp .gt 7, 3) := by decide +kernel
theorem dX0_isLetter_12 : decode cX0_isLetter 12 = .ok (.iconst 1, 1) := by decide +kernel
theorem dX0_isLetter_13 : decode cX0_isLetter 13 = .ok (.goto 4, 3) := by decide +kernel
theorem dX0_isLetter_16 : decode cX0_isLetter 16 = .ok (.iconst 0, 1) := by decide +kernel
theorem dX0_isLetter_17 : decode cX0_isLetter 17 = .ok (.ireturn, 1) := by decide +kernel
theorem dX0_signsAddedAt_0 : decode cX0_signsAddedAt 0 = .ok (.aload_n 0, 1) := by decide +kernel
theorem dX0_signsAddedAt_1 : decode cX0_signsAddedAt 1 = .ok (.getfield 9, 3) := by decide +kernel
theorem dX0_signsAddedAt_4 : decode cX0_signsAddedAt 4 = .ok (.iload_n 1, 1) := by decide +kernel
theorem dX0_signsAddedAt_5 : decode cX0_signsAddedAt 5 = .ok (.iaload, 1) := by decide +kernel
theorem dX0_signsAddedAt_6 : decode cX0_signsAddedAt 6 = .ok (.istore_n 2, 1) := by decide +kernel
theorem dX0_signsAddedAt_7 : decode cX0_signsAddedAt 7 = .ok (.iload_n 2, 1) := by decide +kernel
theorem dX0_signsAddedAt_8 : decode cX0_signsAddedAt 8 = .ok (.invokestatic 19, 3) := by decide +kernel
theorem dX0_signsAddedAt_11 : decode cX0_signsAddedAt 11 = .ok (.ifCond .eq 5, 3) := by decide +kernel
theorem dX0_signsAddedAt_14 : decode cX0_signsAddedAt 14 = .ok (.iconst 1, 1) := by decide +kernel
theorem dX0_signsAddedAt_15 : decode cX0_signsAddedAt 15 = .ok (.ireturn, 1) := by decide +kernel
theorem dX0_signsAddedAt_16 : decode cX0_signsAddedAt 16 = .ok (.iload_n 2, 1) := by decide +kernel
theorem dX0_signsAddedAt_17 : decode cX0_signsAddedAt 17 = .ok (.bipush 50, 2) := by decide +kernel
theorem dX0_signsAddedAt_19 : decode cX0_signsAddedAt 19 = .ok (.if_icmp .lt 13, 3) := by decide +kernel
theorem dX0_signsAddedAt_22 : decode cX0_signsAddedAt 22 = .ok (.iload_n 2, 1) := by decide +kernel
theorem dX0_signsAddedAt_23 : decode cX0_signsAddedAt 23 = .ok (.bipush 57, 2) := by decide +kernel
theorem dX0_signsAddedAt_25 : decode cX0_signsAddedAt 25 = .ok (.if_icmp .gt 7, 3) := by decide +kernel
theorem dX0_signsAddedAt_28 : decode cX0_signsAddedAt 28 = .ok (.iconst 1, 1) := by decide +kernel
theorem dX0_signsAddedAt_29 : decode cX0_signsAddedAt 29 = .ok (.goto 4, 3) := by decide +kernel
theorem dX0_signsAddedAt_32 : decode cX0_signsAddedAt 32 = .ok (.iconst 0, 1) := by decide +kernel
theorem dX0_signsAddedAt_33 : decode cX0_signsAddedAt 33 = .ok (.istore_n 3, 1) := by decide +kernel
theorem dX0_signsAddedAt_34 : decode cX0_signsAddedAt 34 = .ok (.iload_n 3, 1) := by decide +kernel
theorem dX0_signsAddedAt_35 : decode cX0_signsAddedAt 35 = .ok (.ifCond .eq 28, 3) := by decide +kernel
theorem dX0_signsAddedAt_38 : decode cX0_signsAddedAt 38 = .ok (.iload_n 1, 1) := by decide +kernel
theorem dX0_signsAddedAt_39 : decode cX0_signsAddedAt 39 = .ok (.ifCond .le 24, 3) := by decide +kernel
theorem dX0_signsAddedAt_42 : decode cX0_signsAddedAt 42 = .ok (.aload_n 0, 1) := by decide +kernel
theorem dX0_signsAddedAt_43 : decode cX0_signsAddedAt 43 = .ok (.getfield 9, 3) := by decide +kernel
theorem dX0_signsAddedAt_46 : decode cX0_signsAddedAt 46 = .ok (.iload_n 1, 1) := by decide +kernel
theorem dX0_signsAddedAt_47 : decode cX0_signsAddedAt 47 = .ok (.iconst 1, 1) := by decide +kernel
theorem dX0_signsAddedAt_48 : decode cX0_signsAddedAt 48 = .ok (.isub, 1) := by decide +kernel
theorem dX0_signsAddedAt_49 : decode cX0_signsAddedAt 49 = .ok (.iaload, 1) := by decide +kernel
theorem dX0_signsAddedAt_50 : decode cX0_signsAddedAt 50 = .ok (.invokestatic 19, 3) := by decide +kernel
theorem dX0_signsAddedAt_53 : decode cX0_signsAddedAt 53 = .ok (.ifCond .eq 10, 3) := by decide +kernel
theorem dX0_signsAddedAt_56 : decode cX0_signsAddedAt 56 = .ok (.iload_n 2, 1) := by decide +kernel
theorem dX0_signsAddedAt_57 : decode cX0_signsAddedAt 57 = .ok (.bipush 49, 2) := by decide +kernel
theorem dX0_signsAddedAt_59 : decode cX0_signsAddedAt 59 = .ok (.isub, 1) := by decide +kernel
theorem dX0_signsAddedAt_60 : decode cX0_signsAddedAt 60 = .ok (.goto 4, 3) := by decide +kernel
theorem dX0_signsAddedAt_63 : decode cX0_signsAddedAt 63 = .ok (.iconst 0, 1) := by decide +kernel
theorem dX0_signsAddedAt_64 : decode cX0_signsAddedAt 64 = .ok (.ireturn, 1) := by decide +kernel
theorem dX0_errorIndex_0 : decode cX0_errorIndex 0 = .ok (.iconst 0, 1) := by decide +kernel
theorem dX0_errorIndex_1 : decode cX0_errorIndex 1 = .ok (.istore_n 1, 1) := by decide +kernel
theorem dX0_errorIndex_2 : decode cX0_errorIndex 2 = .ok (.iconst 0, 1) := by decide +kernel
theorem dX0_errorIndex_3 : decode cX0_errorIndex 3 = .ok (.istore_n 2, 1) := by decide +kernel
theorem dX0_errorIndex_4 : decode cX0_errorIndex 4 = .ok (.iload_n 2, 1) := by decide +kernel
theorem dX0_errorIndex_5 : decode cX0_errorIndex 5 = .ok (.aload_n 0, 1) := by decide +kernel
theorem dX0_errorIndex_6 : decode cX0_errorIndex 6 = .ok (.getfield 15, 3) := by decide +kernel
theorem dX0_errorIndex_9 : decode cX0_errorIndex 9 = .ok (.if_icmp .ge 31, 3) := by decide +kernel
theorem dX0_errorIndex_12 : decode cX0_errorIndex 12 = .ok (.aload_n 0, 1) := by decide +kernel
theorem dX0_errorIndex_13 : decode cX0_errorIndex 13 = .ok (.iload_n 2, 1) := by decide +kernel
theorem dX0_errorIndex_14 : decode cX0_errorIndex 14 = .ok (.invokevirtual 23, 3) := by decide +kernel
theorem dX0_errorIndex_17 : decode cX0_errorIndex 17 = .ok (.istore_n 3, 1) := by decide +kernel
theorem dX0_errorIndex_18 : decode cX0_errorIndex 18 = .ok (.iload_n 1, 1) := by decide +kernel
theorem dX0_errorIndex_19 : decode cX0_errorIndex 19 = .ok (.iload_n 3, 1) := by decide +kernel
theorem dX0_errorIndex_20 : decode cX0_errorIndex 20 = .ok (.iadd, 1) := by decide +kernel
theorem dX0_errorIndex_21 : decode cX0_errorIndex 21 = .ok (.istore_n 1, 1) := by decide +kernel
theorem dX0_errorIndex_22 : decode cX0_errorIndex 22 = .ok (.iload_n 3, 1) := by decide +kernel
theorem dX0_errorIndex_23 : decode cX0_errorIndex 23 = .ok (.ifCond .eq 9, 3) := by decide +kernel
theorem dX0_errorIndex_26 : decode cX0_errorIndex 26 = .ok (.iload_n 1, 1) := by decide +kernel
theorem dX0_errorIndex_27 : decode cX0_errorIndex 27 = .ok (.bipush 40, 2) := by decide +kernel
theorem dX0_errorIndex_29 : decode cX0_errorIndex 29 = .ok (.if_icmp .le 5, 3) := by decide +kernel
theorem dX0_errorIndex_32 : decode cX0_errorIndex 32 = .ok (.iload_n 2, 1) := by decide +kernel
theorem dX0_errorIndex_33 : decode cX0_errorIndex 33 = .ok (.ireturn, 1) := by decide +kernel
theorem dX0_errorIndex_34 : decode cX0_errorIndex 34 = .ok (.iinc 2 1, 3) := by decide +kernel
theorem dX0_errorIndex_37 : decode cX0_errorIndex 37 = .ok (.goto (-33), 3) := by decide +kernel
theorem dX0_errorIndex_40 : decode cX0_errorIndex 40 = .ok (.aload_n 0, 1) := by decide +kernel
theorem dX0_errorIndex_41 : decode cX0_errorIndex 41 = .ok (.getfield 15, 3) := by decide +kernel
theorem dX0_errorIndex_44 : decode cX0_errorIndex 44 = .ok (.ireturn, 1) := by decide +kernel
theorem dX0_isComplete_0 : decode cX0_isComplete 0 = .ok (.aload_n 0, 1) := by decide +kernel
theorem dX0_isComplete_1 : decode cX0_isComplete 1 = .ok (.getfield 15, 3) := by decide +kernel
theorem dX0_isComplete_4 : decode cX0_isComplete 4 = .ok (.ifCond .le 18, 3) := by decide +kernel
theorem dX0_isComplete_7 : decode cX0_isComplete 7 = .ok (.aload_n 0, 1) := by decide +kernel
theorem dX0_isComplete_8 : decode cX0_isComplete 8 = .ok (.invokevirtual 27, 3) := by decide +kernel
theorem dX0_isComplete_11 : decode cX0_isComplete 11 = .ok (.aload_n 0, 1) := by decide +kernel
theorem dX0_isComplete_12 : decode cX0_isComplete 12 = .ok (.getfield 15, 3) := by decide +kernel
theorem dX0_isComplete_15 : decode cX0_isComplete 15 = .ok (.if_icmp .ne 7, 3) := by decide +kernel
theorem dX0_isComplete_18 : decode cX0_isComplete 18 = .ok (.iconst 1, 1) := by decide +kernel
theorem dX0_isComplete_19 : decode cX0_isComplete 19 = .ok (.goto 4, 3) := by decide +kernel
theorem dX0_isComplete_22 : decode cX0_isComplete 22 = .ok (.iconst 0, 1) := by decide +kernel
theorem dX0_isComplete_23 : decode cX0_isComplete 23 = .ok (.ireturn, 1) := by decide +kernel
theorem dX0_readInto_0 : decode cX0_readInto 0 = .ok (.iconst 0, 1) := by decide +kernel
theorem dX0_readInto_1 : decode cX0_readInto 1 = .ok (.istore_n 2, 1) := by decide +kernel
theorem dX0_readInto_2 : decode cX0_readInto 2 = .ok (.iconst 0, 1) := by decide +kernel
theorem dX0_readInto_3 : decode cX0_readInto 3 = .ok (.istore_n 3, 1) := by decide +kernel
theorem dX0_readInto_4 : decode cX0_readInto 4 = .ok (.iload_n 3, 1) := by decide +kernel
theorem dX0_readInto_5 : decode cX0_readInto 5 = .ok (.aload_n 0, 1) := by decide +kernel
theorem dX0_readInto_6 : decode cX0_readInto 6 = .ok (.getfield 15, 3) := by decide +kernel
theorem dX0_readInto_9 : decode cX0_readInto 9 = .ok (.if_icmp .ge 61, 3) := by decide +kernel
theorem dX0_readInto_12 : decode cX0_readInto 12 = .ok (.aload_n 0, 1) := by decide +kernel
theorem dX0_readInto_13 : decode cX0_readInto 13 = .ok (.getfield 9, 3) := by decide +kernel
theorem dX0_readInto_16 : decode cX0_readInto 16 = .ok (.iload_n 3, 1) := by decide +kernel
theorem dX0_readInto_17 : decode cX0_readInto 17 = .ok (.iaload, 1) := by decide +kernel
theorem dX0_readInto_18 : decode cX0_readInto 18 = .ok (.invokestatic 19, 3) := by decide +kernel
theorem dX0_readInto_21 : decode cX0_readInto 21 = .ok (.ifCond .eq 15, 3) := by decide +kernel
theorem dX0_readInto_24 : decode cX0_readInto 24 = .ok (.aload_n 0, 1) := by decide +kernel
theorem dX0_readInto_25 : decode cX0_readInto 25 = .ok (.getfield 9, 3) := by decide +kernel
theorem dX0_readInto_28 : decode cX0_readInto 28 = .ok (.iload_n 3, 1) := by decide +kernel
theorem dX0_readInto_29 : decode cX0_readInto 29 = .ok (.iaload, 1) := by decide +kernel
theorem dX0_readInto_30 : decode cX0_readInto 30 = .ok (.bipush 97, 2) := by decide +kernel
theorem dX0_readInto_32 : decode cX0_readInto 32 = .ok (.isub, 1) := by decide +kernel
theorem dX0_readInto_33 : decode cX0_readInto 33 = .ok (.iconst 1, 1) := by decide +kernel
theorem dX0_readInto_34 : decode cX0_readInto 34 = .ok (.iadd, 1) := by decide +kernel
theorem dX0_readInto_35 : decode cX0_readInto 35 = .ok (.istore_n 2, 1) := by decide +kernel
theorem dX0_readInto_36 : decode cX0_readInto 36 = .ok (.aload_n 0, 1) := by decide +kernel
theorem dX0_readInto_37 : decode cX0_readInto 37 = .ok (.iload_n 3, 1) := by decide +kernel
theorem dX0_readInto_38 : decode cX0_readInto 38 = .ok (.invokevirtual 23, 3) := by decide +kernel
theorem dX0_readInto_41 : decode cX0_readInto 41 = .ok (.istore 4, 2) := by decide +kernel
theorem dX0_readInto_43 : decode cX0_readInto 43 = .ok (.iconst 0, 1) := by decide +kernel
theorem dX0_readInto_44 : decode cX0_readInto 44 = .ok (.istore 5, 2) := by decide +kernel
theorem dX0_readInto_46 : decode cX0_readInto 46 = .ok (.iload 5, 2) := by decide +kernel
theorem dX0_readInto_48 : decode cX0_readInto 48 = .ok (.iload 4, 2) := by decide +kernel
theorem dX0_readInto_50 : decode cX0_readInto 50 = .ok (.if_icmp .ge 14, 3) := by decide +kernel
theorem dX0_readInto_53 : decode cX0_readInto 53 = .ok (.aload_n 1, 1) := by decide +kernel
theorem dX0_readInto_54 : decode cX0_readInto 54 = .ok (.iload_n 2, 1) := by decide +kernel
theorem dX0_readInto_55 : decode cX0_readInto 55 = .ok (.invokevirtual 31, 3) := by decide +kernel
theorem dX0_readInto_58 : decode cX0_readInto 58 = .ok (.iinc 5 1, 3) := by decide +kernel
theorem dX0_readInto_61 : decode cX0_readInto 61 = .ok (.goto (-15), 3) := by decide +kernel
theorem dX0_readInto_64 : decode cX0_readInto 64 = .ok (.iinc 3 1, 3) := by decide +kernel
theorem dX0_readInto_67 : decode cX0_readInto 67 = .ok (.goto (-63), 3) := by decide +kernel
theorem dX0_readInto_70 : decode cX0_readInto 70 = .ok (.return_, 1) := by decide +kernel
theorem dX1_init_0 : decode cX1_init 0 = .ok (.aload_n 0, 1) := by decide +kernel
theorem dX1_init_1 : decode cX1_init 1 = .ok (.invokespecial 3, 3) := by decide +kernel
theorem dX1_init_4 : decode cX1_init 4 = .ok (.aload_n 0, 1) := by decide +kernel
theorem dX1_init_5 : decode cX1_init 5 = .ok (.bipush 40, 2) := by decide +kernel
theorem dX1_init_7 : decode cX1_init 7 = .ok (.newarray .int, 2) := by decide +kernel
theorem dX1_init_9 : decode cX1_init 9 = .ok (.putfield 9, 3) := by decide +kernel
theorem dX1_init_12 : decode cX1_init 12 = .ok (.aload_n 0, 1) := by decide +kernel
theorem dX1_init_13 : decode cX1_init 13 = .ok (.iconst 0, 1) := by decide +kernel
theorem dX1_init_14 : decode cX1_init 14 = .ok (.putfield 15, 3) := by decide +kernel
theorem dX1_init_17 : decode cX1_init 17 = .ok (.aload_n 0, 1) := by decide +kernel
theorem dX1_init_18 : decode cX1_init 18 = .ok (.bipush 40, 2) := by decide +kernel
theorem dX1_init_20 : decode cX1_init 20 = .ok (.newarray .int, 2) := by decide +kernel
theorem dX1_init_22 : decode cX1_init 22 = .ok (.putfield 19, 3) := by decide +kernel
theorem dX1_init_25 : decode cX1_init 25 = .ok (.aload_n 0, 1) := by decide +kernel
theorem dX1_init_26 : decode cX1_init 26 = .ok (.bipush 40, 2) := by decide +kernel
theorem dX1_init_28 : decode cX1_init 28 = .ok (.newarray .int, 2) := by decide +kernel
theorem dX1_init_30 : decode cX1_init 30 = .ok (.putfield 22, 3) := by decide +kernel
theorem dX1_init_33 : decode cX1_init 33 = .ok (.aload_n 0, 1) := by decide +kernel
theorem dX1_init_34 : decode cX1_init 34 = .ok (.bipush 40, 2) := by decide +kernel
theorem dX1_init_36 : decode cX1_init 36 = .ok (.newarray .int, 2) := by decide +kernel
theorem dX1_init_38 : decode cX1_init 38 = .ok (.putfield 25, 3) := by decide +kernel
theorem dX1_init_41 : decode cX1_init 41 = .ok (.aload_n 0, 1) := by decide +kernel
theorem dX1_init_42 : decode cX1_init 42 = .ok (.bipush 40, 2) := by decide +kernel
theorem dX1_init_44 : decode cX1_init 44 = .ok (.newarray .long, 2) := by decide +kernel
theorem dX1_init_46 : decode cX1_init 46 = .ok (.putfield 28, 3) := by decide +kernel
theorem dX1_init_49 : decode cX1_init 49 = .ok (.aload_n 0, 1) := by decide +kernel
theorem dX1_init_50 : decode cX1_init 50 = .ok (.iconst 0, 1) := by decide +kernel
theorem dX1_init_51 : decode cX1_init 51 = .ok (.putfield 32, 3) := by decide +kernel
theorem dX1_init_54 : decode cX1_init 54 = .ok (.return_, 1) := by decide +kernel
theorem dX1_clear_0 : decode cX1_clear 0 = .ok (.aload_n 0, 1) := by decide +kernel
theorem dX1_clear_1 : decode cX1_clear 1 = .ok (.iconst 0, 1) := by decide +kernel
theorem dX1_clear_2 : decode cX1_clear 2 = .ok (.putfield 15, 3) := by decide +kernel
theorem dX1_clear_5 : decode cX1_clear 5 = .ok (.aload_n 0, 1) := by decide +kernel
theorem dX1_clear_6 : decode cX1_clear 6 = .ok (.iconst 0, 1) := by decide +kernel
theorem dX1_clear_7 : decode cX1_clear 7 = .ok (.putfield 32, 3) := by decide +kernel
theorem dX1_clear_10 : decode cX1_clear 10 = .ok (.return_, 1) := by decide +kernel
theorem dX1_addSign_0 : decode cX1_addSign 0 = .ok (.aload_n 0, 1) := by decide +kernel
theorem dX1_addSign_1 : decode cX1_addSign 1 = .ok (.getfield 15, 3) := by decide +kernel
theorem dX1_addSign_4 : decode cX1_addSign 4 = .ok (.bipush 40, 2) := by decide +kernel
theorem dX1_addSign_6 : decode cX1_addSign 6 = .ok (.if_icmp .ge 23, 3) := by decide +kernel
theorem dX1_addSign_9 : decode cX1_addSign 9 = .ok (.aload_n 0, 1) := by decide +kernel
theorem dX1_addSign_10 : decode cX1_addSign 10 = .ok (.getfield 9, 3) := by decide +kernel
theorem dX1_addSign_13 : decode cX1_addSign 13 = .ok (.aload_n 0, 1) := by decide +kernel
theorem dX1_addSign_14 : decode cX1_addSign 14 = .ok (.getfield 15, 3) := by decide +kernel
theorem dX1_addSign_17 : decode cX1_addSign 17 = .ok (.iload_n 1, 1) := by decide +kernel
theorem dX1_addSign_18 : decode cX1_addSign 18 = .ok (.iastore, 1) := by decide +kernel
theorem dX1_addSign_19 : decode cX1_addSign 19 = .ok (.aload_n 0, 1) := by decide +kernel
theorem dX1_addSign_20 : decode cX1_addSign 20 = .ok (.dup, 1) := by decide +kernel
theorem dX1_addSign_21 : decode cX1_addSign 21 = .ok (.getfield 15, 3) := by decide +kernel
theorem dX1_addSign_24 : decode cX1_addSign 24 = .ok (.iconst 1, 1) := by decide +kernel
theorem dX1_addSign_25 : decode cX1_addSign 25 = .ok (.iadd, 1) := by decide +kernel
theorem dX1_addSign_26 : decode cX1_addSign 26 = .ok (.putfield 15, 3) := by decide +kernel
theorem dX1_addSign_29 : decode cX1_addSign 29 = .ok (.return_, 1) := by decide +kernel
theorem dX1_addSigns_0 : decode cX1_addSigns 0 = .ok (.iload_n 2, 1) := by decide +kernel
theorem dX1_addSigns_1 : decode cX1_addSigns 1 = .ok (.istore 4, 2) := by decide +kernel
theorem dX1_addSigns_3 : decode cX1_addSigns 3 = .ok (.iload 4, 2) := by decide +kernel
theorem dX1_addSigns_5 : decode cX1_addSigns 5 = .ok (.iload_n 3, 1) := by decide +kernel
theorem dX1_addSigns_6 : decode cX1_addSigns 6 = .ok (.if_icmp .ge 29, 3) := by decide +kernel
theorem dX1_addSigns_9 : decode cX1_addSigns 9 = .ok (.iload 4, 2) := by decide +kernel
theorem dX1_addSigns_11 : decode cX1_addSigns 11 = .ok (.aload_n 1, 1) := by decide +kernel
theorem dX1_addSigns_12 : decode cX1_addSigns 12 = .ok (.getfield 15, 3) := by decide +kernel
theorem dX1_addSigns_15 : decode cX1_addSigns 15 = .ok (.if_icmp .ge 20, 3) := by decide +kernel
theorem dX1_addSigns_18 : decode cX1_addSigns 18 = .ok (.aload_n 0, 1) := by decide +kernel
theorem dX1_addSigns_19 : decode cX1_addSigns 19 = .ok (.aload_n 1, 1) := by decide +kernel
theorem dX1_addSigns_20 : decode cX1_addSigns 20 = .ok (.getfield 9, 3) := by decide +kernel
theorem dX1_addSigns_23 : decode cX1_addSigns 23 = .ok (.iload 4, 2) := by decide +kernel
theorem dX1_addSigns_25 : decode cX1_addSigns 25 = .ok (.iaload, 1) := by decide +kernel
theorem dX1_addSigns_26 : decode cX1_addSigns 26 = .ok (.invokevirtual 35, 3) := by decide +kernel
theorem dX1_addSigns_29 : decode cX1_addSigns 29 = .ok (.iinc 4 1, 3) := by decide +kernel
theorem dX1_addSigns_32 : decode cX1_addSigns 32 = .ok (.goto (-29), 3) := by decide +kernel
theorem dX1_addSigns_35 : decode cX1_addSigns 35 = .ok (.return_, 1) := by decide +kernel
theorem dX1_becomeSignsOf_0 : decode cX1_becomeSignsOf 0 = .ok (.aload_n 0, 1) := by decide +kernel
theorem dX1_becomeSignsOf_1 : decode cX1_becomeSignsOf 1 = .ok (.invokevirtual 39, 3) := by decide +kernel
theorem dX1_becomeSignsOf_4 : decode cX1_becomeSignsOf 4 = .ok (.aload_n 0, 1) := by decide +kernel
theorem dX1_becomeSignsOf_5 : decode cX1_becomeSignsOf 5 = .ok (.aload_n 1, 1) := by decide +kernel
theorem dX1_becomeSignsOf_6 : decode cX1_becomeSignsOf 6 = .ok (.iconst 0, 1) := by decide +kernel
theorem dX1_becomeSignsOf_7 : decode cX1_becomeSignsOf 7 = .ok (.aload_n 1, 1) := by decide +kernel
theorem dX1_becomeSignsOf_8 : decode cX1_becomeSignsOf 8 = .ok (.getfield 15, 3) := by decide +kernel
theorem dX1_becomeSignsOf_11 : decode cX1_becomeSignsOf 11 = .ok (.invokevirtual 42, 3) := by decide +kernel
theorem dX1_becomeSignsOf_14 : decode cX1_becomeSignsOf 14 = .ok (.return_, 1) := by decide +kernel
theorem dX1_become_0 : decode cX1_become 0 = .ok (.aload_n 0, 1) := by decide +kernel
theorem dX1_become_1 : decode cX1_become 1 = .ok (.aload_n 1, 1) := by decide +kernel
theorem dX1_become_2 : decode cX1_become 2 = .ok (.getfield 15, 3) := by decide +kernel
theorem dX1_become_5 : decode cX1_become 5 = .ok (.putfield 15, 3) := by decide +kernel
theorem dX1_become_8 : decode cX1_become 8 = .ok (.aload_n 0, 1) := by decide +kernel
theorem dX1_become_9 : decode cX1_become 9 = .ok (.aload_n 1, 1) := by decide +kernel
theorem dX1_become_10 : decode cX1_become 10 = .ok (.getfield 32, 3) := by decide +kernel
theorem dX1_become_13 : decode cX1_become 13 = .ok (.putfield 32, 3) := by decide +kernel
theorem dX1_become_16 : decode cX1_become 16 = .ok (.aload_n 1, 1) := by decide +kernel
theorem dX1_become_17 : decode cX1_become 17 = .ok (.getfield 9, 3) := by decide +kernel
theorem dX1_become_20 : decode cX1_become 20 = .ok (.iconst 0, 1) := by decide +kernel
theorem dX1_become_21 : decode cX1_become 21 = .ok (.aload_n 0, 1) := by decide +kernel
theorem dX1_become_22 : decode cX1_become 22 = .ok (.getfield 9, 3) := by decide +kernel
theorem dX1_become_25 : decode cX1_become 25 = .ok (.iconst 0, 1) := by decide +kernel
theorem dX1_become_26 : decode cX1_become 26 = .ok (.bipush 40, 2) := by decide +kernel
theorem dX1_become_28 : decode cX1_become 28 = .ok (.invokestatic 46, 3) := by decide +kernel
theorem dX1_become_31 : decode cX1_become 31 = .ok (.aload_n 1, 1) := by decide +kernel
theorem dX1_become_32 : decode cX1_become 32 = .ok (.getfield 19, 3) := by decide +kernel
theorem dX1_become_35 : decode cX1_become 35 = .ok (.iconst 0, 1) := by decide +kernel
theorem dX1_become_36 : decode cX1_become 36 = .ok (.aload_n 0, 1) := by decide +kernel
theorem dX1_become_37 : decode cX1_become 37 = .ok (.getfield 19, 3) := by decide +kernel
theorem dX1_become_40 : decode cX1_become 40 = .ok (.iconst 0, 1) := by decide +kernel
theorem dX1_become_41 : decode cX1_become 41 = .ok (.bipush 40, 2) := by decide +kernel
theorem dX1_become_43 : decode cX1_become 43 = .ok (.invokestatic 46, 3) := by decide +kernel
theorem dX1_become_46 : decode cX1_become 46 = .ok (.aload_n 1, 1) := by decide +kernel
theorem dX1_become_47 : decode cX1_become 47 = .ok (.getfield 22, 3) := by decide +kernel
theorem dX1_become_50 : decode cX1_become 50 = .ok (.iconst 0, 1) := by decide +kernel
theorem dX1_become_51 : decode cX1_become 51 = .ok (.aload_n 0, 1) := by decide +kernel
theorem dX1_become_52 : decode cX1_become 52 = .ok (.getfield 22, 3) := by decide +kernel
theorem dX1_become_55 : decode cX1_become 55 = .ok (.iconst 0, 1) := by decide +kernel
theorem dX1_become_56 : decode cX1_become 56 = .ok (.bipush 40, 2) := by decide +kernel
theorem dX1_become_58 : decode cX1_become 58 = .ok (.invokestatic 46, 3) := by decide +kernel
theorem dX1_become_61 : decode cX1_become 61 = .ok (.aload_n 1, 1) := by decide +kernel
theorem dX1_become_62 : decode cX1_become 62 = .ok (.getfield 25, 3) := by decide +kernel
theorem dX1_become_65 : decode cX1_become 65 = .ok (.iconst 0, 1) := by decide +kernel
theorem dX1_become_66 : decode cX1_become 66 = .ok (.aload_n 0, 1) := by decide +kernel
theorem dX1_become_67 : decode cX1_become 67 = .ok (.getfield 25, 3) := by decide +kernel
theorem dX1_become_70 : decode cX1_become 70 = .ok (.iconst 0, 1) := by decide +kernel
theorem dX1_become_71 : decode cX1_become 71 = .ok (.bipush 40, 2) := by decide +kernel
theorem dX1_become_73 : decode cX1_become 73 = .ok (.invokestatic 46, 3) := by decide +kernel
theorem dX1_become_76 : decode cX1_become 76 = .ok (.aload_n 1, 1) := by decide +kernel
theorem dX1_become_77 : decode cX1_become 77 = .ok (.getfield 28, 3) := by decide +kernel
theorem dX1_become_80 : decode cX1_become 80 = .ok (.iconst 0, 1) := by decide +kernel
theorem dX1_become_81 : decode cX1_become 81 = .ok (.aload_n 0, 1) := by decide +kernel
theorem dX1_become_82 : decode cX1_become 82 = .ok (.getfield 28, 3) := by decide +kernel
theorem dX1_become_85 : decode cX1_become 85 = .ok (.iconst 0, 1) := by decide +kernel
theorem dX1_become_86 : decode cX1_become 86 = .ok (.bipush 40, 2) := by decide +kernel
theorem dX1_become_88 : decode cX1_become 88 = .ok (.invokestatic 46, 3) := by decide +kernel
theorem dX1_become_91 : decode cX1_become 91 = .ok (.return_, 1) := by decide +kernel
theorem dX1_cutBy_0 : decode cX1_cutBy 0 = .ok (.aload_n 0, 1) := by decide +kernel
theorem dX1_cutBy_1 : decode cX1_cutBy 1 = .ok (.iconst 0, 1) := by decide +kernel
theorem dX1_cutBy_2 : decode cX1_cutBy 2 = .ok (.putfield 32, 3) := by decide +kernel
theorem dX1_cutBy_5 : decode cX1_cutBy 5 = .ok (.iconst 0, 1) := by decide +kernel
theorem dX1_cutBy_6 : decode cX1_cutBy 6 = .ok (.istore_n 2, 1) := by decide +kernel
theorem dX1_cutBy_7 : decode cX1_cutBy 7 = .ok (.iconst 0, 1) := by decide +kernel
theorem dX1_cutBy_8 : decode cX1_cutBy 8 = .ok (.istore_n 3, 1) := by decide +kernel
theorem dX1_cutBy_9 : decode cX1_cutBy 9 = .ok (.iload_n 3, 1) := by decide +kernel
theorem dX1_cutBy_10 : decode cX1_cutBy 10 = .ok (.aload_n 0, 1) := by decide +kernel
theorem dX1_cutBy_11 : decode cX1_cutBy 11 = .ok (.getfield 15, 3) := by decide +kernel
theorem dX1_cutBy_14 : decode cX1_cutBy 14 = .ok (.if_icmp .ge 107, 3) := by decide +kernel
theorem dX1_cutBy_17 : decode cX1_cutBy 17 = .ok (.iload_n 3, 1) := by decide +kernel
theorem dX1_cutBy_18 : decode cX1_cutBy 18 = .ok (.iload_n 2, 1) := by decide +kernel
theorem dX1_cutBy_19 : decode cX1_cutBy 19 = .ok (.isub, 1) := by decide +kernel
theorem dX1_cutBy_20 : decode cX1_cutBy 20 = .ok (.iconst 1, 1) := by decide +kernel
theorem dX1_cutBy_21 : decode cX1_cutBy 21 = .ok (.iadd, 1) := by decide +kernel
theorem dX1_cutBy_22 : decode cX1_cutBy 22 = .ok (.istore 4, 2) := by decide +kernel
theorem dX1_cutBy_24 : decode cX1_cutBy 24 = .ok (.iload 4, 2) := by decide +kernel
theorem dX1_cutBy_26 : decode cX1_cutBy 26 = .ok (.aload_n 1, 1) := by decide +kernel
theorem dX1_cutBy_27 : decode cX1_cutBy 27 = .ok (.getfield 52, 3) := by decide +kernel
theorem dX1_cutBy_30 : decode cX1_cutBy 30 = .ok (.iconst 3, 1) := by decide +kernel
theorem dX1_cutBy_31 : decode cX1_cutBy 31 = .ok (.iaload, 1) := by decide +kernel
theorem dX1_cutBy_32 : decode cX1_cutBy 32 = .ok (.if_icmp .lt 16, 3) := by decide +kernel
theorem dX1_cutBy_35 : decode cX1_cutBy 35 = .ok (.aload_n 1, 1) := by decide +kernel
theorem dX1_cutBy_36 : decode cX1_cutBy 36 = .ok (.aload_n 0, 1) := by decide +kernel
theorem dX1_cutBy_37 : decode cX1_cutBy 37 = .ok (.iload_n 3, 1) := by decide +kernel
theorem dX1_cutBy_38 : decode cX1_cutBy 38 = .ok (.invokevirtual 57, 3) := by decide +kernel
theorem dX1_cutBy_41 : decode cX1_cutBy 41 = .ok (.ifCond .eq 7, 3) := by decide +kernel
theorem dX1_cutBy_44 : decode cX1_cutBy 44 = .ok (.iconst 1, 1) := by decide +kernel
theorem dX1_cutBy_45 : decode cX1_cutBy 45 = .ok (.goto 4, 3) := by decide +kernel
theorem dX1_cutBy_48 : decode cX1_cutBy 48 = .ok (.iconst 0, 1) := by decide +kernel
theorem dX1_cutBy_49 : decode cX1_cutBy 49 = .ok (.istore 5, 2) := by decide +kernel
theorem dX1_cutBy_51 : decode cX1_cutBy 51 = .ok (.iload 4, 2) := by decide +kernel
theorem dX1_cutBy_53 : decode cX1_cutBy 53 = .ok (.aload_n 1, 1) := by decide +kernel
theorem dX1_cutBy_54 : decode cX1_cutBy 54 = .ok (.getfield 52, 3) := by decide +kernel
theorem dX1_cutBy_57 : decode cX1_cutBy 57 = .ok (.iconst 4, 1) := by decide +kernel
theorem dX1_cutBy_58 : decode cX1_cutBy 58 = .ok (.iaload, 1) := by decide +kernel
theorem dX1_cutBy_59 : decode cX1_cutBy 59 = .ok (.if_icmp .lt 7, 3) := by decide +kernel
theorem dX1_cutBy_62 : decode cX1_cutBy 62 = .ok (.iconst 1, 1) := by decide +kernel
theorem dX1_cutBy_63 : decode cX1_cutBy 63 = .ok (.goto 4, 3) := by decide +kernel
theorem dX1_cutBy_66 : decode cX1_cutBy 66 = .ok (.iconst 0, 1) := by decide +kernel
theorem dX1_cutBy_67 : decode cX1_cutBy 67 = .ok (.istore 6, 2) := by decide +kernel
theorem dX1_cutBy_69 : decode cX1_cutBy 69 = .ok (.iload 5, 2) := by decide +kernel
theorem dX1_cutBy_71 : decode cX1_cutBy 71 = .ok (.ifCond .ne 18, 3) := by decide +kernel
theorem dX1_cutBy_74 : decode cX1_cutBy 74 = .ok (.iload 6, 2) := by decide +kernel
theorem dX1_cutBy_76 : decode cX1_cutBy 76 = .ok (.ifCond .ne 13, 3) := by decide +kernel
theorem dX1_cutBy_79 : decode cX1_cutBy 79 = .ok (.iload_n 3, 1) := by decide +kernel
theorem dX1_cutBy_80 : decode cX1_cutBy 80 = .ok (.aload_n 0, 1) := by decide +kernel
theorem dX1_cutBy_81 : decode cX1_cutBy 81 = .ok (.getfield 15, 3) := by decide +kernel
theorem dX1_cutBy_84 : decode cX1_cutBy 84 = .ok (.iconst 1, 1) := by decide +kernel
theorem dX1_cutBy_85 : decode cX1_cutBy 85 = .ok (.isub, 1) := by decide +kernel
theorem dX1_cutBy_86 : decode cX1_cutBy 86 = .ok (.if_icmp .ne 29, 3) := by decide +kernel
theorem dX1_cutBy_89 : decode cX1_cutBy 89 = .ok (.aload_n 0, 1) := by decide +kernel
theorem dX1_cutBy_90 : decode cX1_cutBy 90 = .ok (.iload_n 2, 1) := by decide +kernel
theorem dX1_cutBy_91 : decode cX1_cutBy 91 = .ok (.iload 4, 2) := by decide +kernel
theorem dX1_cutBy_93 : decode cX1_cutBy 93 = .ok (.iload 6, 2) := by decide +kernel
theorem dX1_cutBy_95 : decode cX1_cutBy 95 = .ok (.ifCond .eq 12, 3) := by decide +kernel
theorem dX1_cutBy_98 : decode cX1_cutBy 98 = .ok (.iload 5, 2) := by decide +kernel
theorem dX1_cutBy_100 : decode cX1_cutBy 100 = .ok (.ifCond .ne 7, 3) := by decide +kernel
theorem dX1_cutBy_103 : decode cX1_cutBy 103 = .ok (.iconst 1, 1) := by decide +kernel
theorem dX1_cutBy_104 : decode cX1_cutBy 104 = .ok (.goto 4, 3) := by decide +kernel
theorem dX1_cutBy_107 : decode cX1_cutBy 107 = .ok (.iconst 0, 1) := by decide +kernel
theorem dX1_cutBy_108 : decode cX1_cutBy 108 = .ok (.invokevirtual 61, 3) := by decide +kernel
theorem dX1_cutBy_111 : decode cX1_cutBy 111 = .ok (.iload_n 3, 1) := by decide +kernel
theorem dX1_cutBy_112 : decode cX1_cutBy 112 = .ok (.iconst 1, 1) := by decide +kernel
theorem dX1_cutBy_113 : decode cX1_cutBy 113 = .ok (.iadd, 1) := by decide +kernel
theorem dX1_cutBy_114 : decode cX1_cutBy 114 = .ok (.istore_n 2, 1) := by decide +kernel
theorem dX1_cutBy_115 : decode cX1_cutBy 115 = .ok (.iinc 3 1, 3) := by decide +kernel
theorem dX1_cutBy_118 : decode cX1_cutBy 118 = .ok (.goto (-109), 3) := by decide +kernel
theorem dX1_cutBy_121 : decode cX1_cutBy 121 = .ok (.return_, 1) := by decide +kernel
theorem dX1_addPiece_0 : decode cX1_addPiece 0 = .ok (.aload_n 0, 1) := by decide +kernel
theorem dX1_addPiece_1 : decode cX1_addPiece 1 = .ok (.getfield 32, 3) := by decide +kernel
theorem dX1_addPiece_4 : decode cX1_addPiece 4 = .ok (.bipush 40, 2) := by decide +kernel
theorem dX1_addPiece_6 : decode cX1_addPiece 6 = .ok (.if_icmp .ge 66, 3) := by decide +kernel
theorem dX1_addPiece_9 : decode cX1_addPiece 9 = .ok (.aload_n 0, 1) := by decide +kernel
theorem dX1_addPiece_10 : decode cX1_addPiece 10 = .ok (.getfield 19, 3) := by decide +kernel
theorem dX1_addPiece_13 : decode cX1_addPiece 13 = .ok (.aload_n 0, 1) := by decide +kernel
theorem dX1_addPiece_14 : decode cX1_addPiece 14 = .ok (.getfield 32, 3) := by decide +kernel
theorem dX1_addPiece_17 : decode cX1_addPiece 17 = .ok (.iload_n 1, 1) := by decide +kernel
theorem dX1_addPiece_18 : decode cX1_addPiece 18 = .ok (.iastore, 1) := by decide +kernel
theorem dX1_addPiece_19 : decode cX1_addPiece 19 = .ok (.aload_n 0, 1) := by decide +kernel
theorem dX1_addPiece_20 : decode cX1_addPiece 20 = .ok (.getfield 22, 3) := by decide +kernel
theorem dX1_addPiece_23 : decode cX1_addPiece 23 = .ok (.aload_n 0, 1) := by decide +kernel
theorem dX1_addPiece_24 : decode cX1_addPiece 24 = .ok (.getfield 32, 3) := by decide +kernel
theorem dX1_addPiece_27 : decode cX1_addPiece 27 = .ok (.iload_n 2, 1) := by decide +kernel
theorem dX1_addPiece_28 : decode cX1_addPiece 28 = .ok (.iastore, 1) := by decide +kernel
theorem dX1_addPiece_29 : decode cX1_addPiece 29 = .ok (.aload_n 0, 1) := by decide +kernel
theorem dX1_addPiece_30 : decode cX1_addPiece 30 = .ok (.getfield 25, 3) := by decide +kernel
theorem dX1_addPiece_33 : decode cX1_addPiece 33 = .ok (.aload_n 0, 1) := by decide +kernel
theorem dX1_addPiece_34 : decode cX1_addPiece 34 = .ok (.getfield 32, 3) := by decide +kernel
theorem dX1_addPiece_37 : decode cX1_addPiece 37 = .ok (.iload_n 3, 1) := by decide +kernel
theorem dX1_addPiece_38 : decode cX1_addPiece 38 = .ok (.ifCond .eq 7, 3) := by decide +kernel
theorem dX1_addPiece_41 : decode cX1_addPiece 41 = .ok (.iconst 1, 1) := by decide +kernel
theorem dX1_addPiece_42 : decode cX1_addPiece 42 = .ok (.goto 4, 3) := by decide +kernel
theorem dX1_addPiece_45 : decode cX1_addPiece 45 = .ok (.iconst 0, 1) := by decide +kernel
theorem dX1_addPiece_46 : decode cX1_addPiece 46 = .ok (.iastore, 1) := by decide +kernel
theorem dX1_addPiece_47 : decode cX1_addPiece 47 = .ok (.aload_n 0, 1) := by decide +kernel
theorem dX1_addPiece_48 : decode cX1_addPiece 48 = .ok (.getfield 28, 3) := by decide +kernel
theorem dX1_addPiece_51 : decode cX1_addPiece 51 = .ok (.aload_n 0, 1) := by decide +kernel
theorem dX1_addPiece_52 : decode cX1_addPiece 52 = .ok (.getfield 32, 3) := by decide +kernel
theorem dX1_addPiece_55 : decode cX1_addPiece 55 = .ok (.aload_n 0, 1) := by decide +kernel
theorem dX1_addPiece_56 : decode cX1_addPiece 56 = .ok (.iload_n 1, 1) := by decide +kernel
theorem dX1_addPiece_57 : decode cX1_addPiece 57 = .ok (.iload_n 2, 1) := by decide +kernel
theorem dX1_addPiece_58 : decode cX1_addPiece 58 = .ok (.invokevirtual 65, 3) := by decide +kernel
theorem dX1_addPiece_61 : decode cX1_addPiece 61 = .ok (.lastore, 1) := by decide +kernel
theorem dX1_addPiece_62 : decode cX1_addPiece 62 = .ok (.aload_n 0, 1) := by decide +kernel
theorem dX1_addPiece_63 : decode cX1_addPiece 63 = .ok (.dup, 1) := by decide +kernel
theorem dX1_addPiece_64 : decode cX1_addPiece 64 = .ok (.getfield 32, 3) := by decide +kernel
theorem dX1_addPiece_67 : decode cX1_addPiece 67 = .ok (.iconst 1, 1) := by decide +kernel
theorem dX1_addPiece_68 : decode cX1_addPiece 68 = .ok (.iadd, 1) := by decide +kernel
theorem dX1_addPiece_69 : decode cX1_addPiece 69 = .ok (.putfield 32, 3) := by decide +kernel
theorem dX1_addPiece_72 : decode cX1_addPiece 72 = .ok (.return_, 1) := by decide +kernel
theorem dX1_packed_0 : decode cX1_packed 0 = .ok (.lconst 1, 1) := by decide +kernel
theorem dX1_packed_1 : decode cX1_packed 1 = .ok (.lstore_n 3, 1) := by decide +kernel
theorem dX1_packed_2 : decode cX1_packed 2 = .ok (.iload_n 1, 1) := by decide +kernel
theorem dX1_packed_3 : decode cX1_packed 3 = .ok (.istore 5, 2) := by decide +kernel
theorem dX1_packed_5 : decode cX1_packed 5 = .ok (.iload 5, 2) := by decide +kernel
theorem dX1_packed_7 : decode cX1_packed 7 = .ok (.iload_n 1, 1) := by decide +kernel
theorem dX1_packed_8 : decode cX1_packed 8 = .ok (.iload_n 2, 1) := by decide +kernel
theorem dX1_packed_9 : decode cX1_packed 9 = .ok (.iadd, 1) := by decide +kernel
theorem dX1_packed_10 : decode cX1_packed 10 = .ok (.if_icmp .ge 24, 3) := by decide +kernel
theorem dX1_packed_13 : decode cX1_packed 13 = .ok (.lload_n 3, 1) := by decide +kernel
theorem dX1_packed_14 : decode cX1_packed 14 = .ok (.iconst 3, 1) := by decide +kernel
theorem dX1_packed_15 : decode cX1_packed 15 = .ok (.lshl, 1) := by decide +kernel
theorem dX1_packed_16 : decode cX1_packed 16 = .ok (.aload_n 0, 1) := by decide +kernel
theorem dX1_packed_17 : decode cX1_packed 17 = .ok (.getfield 9, 3) := by decide +kernel
theorem dX1_packed_20 : decode cX1_packed 20 = .ok (.iload 5, 2) := by decide +kernel
theorem dX1_packed_22 : decode cX1_packed 22 = .ok (.iaload, 1) := by decide +kernel
theorem dX1_packed_23 : decode cX1_packed 23 = .ok (.iconst 1, 1) := by decide +kernel
theorem dX1_packed_24 : decode cX1_packed 24 = .ok (.isub, 1) := by decide +kernel
theorem dX1_packed_25 : decode cX1_packed 25 = .ok (.i2l, 1) := by decide +kernel
theorem dX1_packed_26 : decode cX1_packed 26 = .ok (.lor, 1) := by decide +kernel
theorem dX1_packed_27 : decode cX1_packed 27 = .ok (.lstore_n 3, 1) := by decide +kernel
theorem dX1_packed_28 : decode cX1_packed 28 = .ok (.iinc 5 1, 3) := by decide +kernel
theorem dX1_packed_31 : decode cX1_packed 31 = .ok (.goto (-26), 3) := by decide +kernel
theorem dX1_packed_34 : decode cX1_packed 34 = .ok (.lload_n 3, 1) := by decide +kernel
theorem dX1_packed_35 : decode cX1_packed 35 = .ok (.lreturn, 1) := by decide +kernel
theorem dX1_pieceAt_0 : decode cX1_pieceAt 0 = .ok (.iconst 0, 1) := by decide +kernel
theorem dX1_pieceAt_1 : decode cX1_pieceAt 1 = .ok (.istore_n 2, 1) := by decide +kernel
theorem dX1_pieceAt_2 : decode cX1_pieceAt 2 = .ok (.iload_n 2, 1) := by decide +kernel
theorem dX1_pieceAt_3 : decode cX1_pieceAt 3 = .ok (.aload_n 0, 1) := by decide +kernel
theorem dX1_pieceAt_4 : decode cX1_pieceAt 4 = .ok (.getfield 32, 3) := by decide +kernel
theorem dX1_pieceAt_7 : decode cX1_pieceAt 7 = .ok (.iconst 1, 1) := by decide +kernel
theorem dX1_pieceAt_8 : decode cX1_pieceAt 8 = .ok (.isub, 1) := by decide +kernel
theorem dX1_pieceAt_9 : decode cX1_pieceAt 9 = .ok (.if_icmp .ge 26, 3) := by decide +kernel
theorem dX1_pieceAt_12 : decode cX1_pieceAt 12 = .ok (.iload_n 1, 1) := by decide +kernel
theorem dX1_pieceAt_13 : decode cX1_pieceAt 13 = .ok (.aload_n 0, 1) := by decide +kernel
theorem dX1_pieceAt_14 : decode cX1_pieceAt 14 = .ok (.getfield 19, 3) := by decide +kernel
theorem dX1_pieceAt_17 : decode cX1_pieceAt 17 = .ok (.iload_n 2, 1) := by decide +kernel
theorem dX1_pieceAt_18 : decode cX1_pieceAt 18 = .ok (.iaload, 1) := by decide +kernel
theorem dX1_pieceAt_19 : decode cX1_pieceAt 19 = .ok (.aload_n 0, 1) := by decide +kernel
theorem dX1_pieceAt_20 : decode cX1_pieceAt 20 = .ok (.getfield 22, 3) := by decide +kernel
theorem dX1_pieceAt_23 : decode cX1_pieceAt 23 = .ok (.iload_n 2, 1) := by decide +kernel
theorem dX1_pieceAt_24 : decode cX1_pieceAt 24 = .ok (.iaload, 1) := by decide +kernel
theorem dX1_pieceAt_25 : decode cX1_pieceAt 25 = .ok (.iadd, 1) := by decide +kernel
theorem dX1_pieceAt_26 : decode cX1_pieceAt 26 = .ok (.if_icmp .lt 9, 3) := by decide +kernel
theorem dX1_pieceAt_29 : decode cX1_pieceAt 29 = .ok (.iinc 2 1, 3) := by decide +kernel
theorem dX1_pieceAt_32 : decode cX1_pieceAt 32 = .ok (.goto (-30), 3) := by decide +kernel
theorem dX1_pieceAt_35 : decode cX1_pieceAt 35 = .ok (.iload_n 2, 1) := by decide +kernel
theorem dX1_pieceAt_36 : decode cX1_pieceAt 36 = .ok (.ireturn, 1) := by decide +kernel
theorem dX1_endsBehind_0 : decode cX1_endsBehind 0 = .ok (.aload_n 0, 1) := by decide +kernel
theorem dX1_endsBehind_1 : decode cX1_endsBehind 1 = .ok (.iload_n 1, 1) := by decide +kernel
theorem dX1_endsBehind_2 : decode cX1_endsBehind 2 = .ok (.invokevirtual 69, 3) := by decide +kernel
theorem dX1_endsBehind_5 : decode cX1_endsBehind 5 = .ok (.istore_n 2, 1) := by decide +kernel
theorem dX1_endsBehind_6 : decode cX1_endsBehind 6 = .ok (.iload_n 2, 1) := by decide +kernel
theorem dX1_endsBehind_7 : decode cX1_endsBehind 7 = .ok (.aload_n 0, 1) := by decide +kernel
theorem dX1_endsBehind_8 : decode cX1_endsBehind 8 = .ok (.getfield 32, 3) := by decide +kernel
theorem dX1_endsBehind_11 : decode cX1_endsBehind 11 = .ok (.if_icmp .ge 26, 3) := by decide +kernel
theorem dX1_endsBehind_14 : decode cX1_endsBehind 14 = .ok (.iload_n 1, 1) := by decide +kernel
theorem dX1_endsBehind_15 : decode cX1_endsBehind 15 = .ok (.aload_n 0, 1) := by decide +kernel
theorem dX1_endsBehind_16 : decode cX1_endsBehind 16 = .ok (.getfield 19, 3) := by decide +kernel
theorem dX1_endsBehind_19 : decode cX1_endsBehind 19 = .ok (.iload_n 2, 1) := by decide +kernel
theorem dX1_endsBehind_20 : decode cX1_endsBehind 20 = .ok (.iaload, 1) := by decide +kernel
theorem dX1_endsBehind_21 : decode cX1_endsBehind 21 = .ok (.aload_n 0, 1) := by decide +kernel
theorem dX1_endsBehind_22 : decode cX1_endsBehind 22 = .ok (.getfield 22, 3) := by decide +kernel
theorem dX1_endsBehind_25 : decode cX1_endsBehind 25 = .ok (.iload_n 2, 1) := by decide +kernel
theorem dX1_endsBehind_26 : decode cX1_endsBehind 26 = .ok (.iaload, 1) := by decide +kernel
theorem dX1_endsBehind_27 : decode cX1_endsBehind 27 = .ok (.iadd, 1) := by decide +kernel
theorem dX1_endsBehind_28 : decode cX1_endsBehind 28 = .ok (.iconst 1, 1) := by decide +kernel
theorem dX1_endsBehind_29 : decode cX1_endsBehind 29 = .ok (.isub, 1) := by decide +kernel
theorem dX1_endsBehind_30 : decode cX1_endsBehind 30 = .ok (.if_icmp .ne 7, 3) := by decide +kernel
theorem dX1_endsBehind_33 : decode cX1_endsBehind 33 = .ok (.iconst 1, 1) := by decide +kernel
theorem dX1_endsBehind_34 : decode cX1_endsBehind 34 = .ok (.goto 4, 3) := by decide +kernel
theorem dX1_endsBehind_37 : decode cX1_endsBehind 37 = .ok (.iconst 0, 1) := by decide +kernel
theorem dX1_endsBehind_38 : decode cX1_endsBehind 38 = .ok (.ireturn, 1) := by decide +kernel
theorem dX1_has_0 : decode cX1_has 0 = .ok (.aload_n 0, 1) := by decide +kernel
theorem dX1_has_1 : decode cX1_has 1 = .ok (.aload_n 0, 1) := by decide +kernel
theorem dX1_has_2 : decode cX1_has 2 = .ok (.getfield 32, 3) := by decide +kernel
theorem dX1_has_5 : decode cX1_has 5 = .ok (.lload_n 1, 1) := by decide +kernel
theorem dX1_has_6 : decode cX1_has 6 = .ok (.invokevirtual 73, 3) := by decide +kernel
theorem dX1_has_9 : decode cX1_has 9 = .ok (.ireturn, 1) := by decide +kernel
theorem dX1_hasAheadOf_0 : decode cX1_hasAheadOf 0 = .ok (.iconst 0, 1) := by decide +kernel
theorem dX1_hasAheadOf_1 : decode cX1_hasAheadOf 1 = .ok (.istore 4, 2) := by decide +kernel
theorem dX1_hasAheadOf_3 : decode cX1_hasAheadOf 3 = .ok (.iload 4, 2) := by decide +kernel
theorem dX1_hasAheadOf_5 : decode cX1_hasAheadOf 5 = .ok (.iload_n 1, 1) := by decide +kernel
theorem dX1_hasAheadOf_6 : decode cX1_hasAheadOf 6 = .ok (.if_icmp .ge 32, 3) := by decide +kernel
theorem dX1_hasAheadOf_9 : decode cX1_hasAheadOf 9 = .ok (.iload 4, 2) := by decide +kernel
theorem dX1_hasAheadOf_11 : decode cX1_hasAheadOf 11 = .ok (.aload_n 0, 1) := by decide +kernel
theorem dX1_hasAheadOf_12 : decode cX1_hasAheadOf 12 = .ok (.getfield 32, 3) := by decide +kernel
theorem dX1_hasAheadOf_15 : decode cX1_hasAheadOf 15 = .ok (.if_icmp .ge 23, 3) := by decide +kernel
theorem dX1_hasAheadOf_18 : decode cX1_hasAheadOf 18 = .ok (.aload_n 0, 1) := by decide +kernel
theorem dX1_hasAheadOf_19 : decode cX1_hasAheadOf 19 = .ok (.getfield 28, 3) := by decide +kernel
theorem dX1_hasAheadOf_22 : decode cX1_hasAheadOf 22 = .ok (.iload 4, 2) := by decide +kernel
theorem dX1_hasAheadOf_24 : decode cX1_hasAheadOf 24 = .ok (.laload, 1) := by decide +kernel
theorem dX1_hasAheadOf_25 : decode cX1_hasAheadOf 25 = .ok (.lload_n 2, 1) := by decide +kernel
theorem dX1_hasAheadOf_26 : decode cX1_hasAheadOf 26 = .ok (.lcmp, 1) := by decide +kernel
theorem dX1_hasAheadOf_27 : decode cX1_hasAheadOf 27 = .ok (.ifCond .ne 5, 3) := by decide +kernel
theorem dX1_hasAheadOf_30 : decode cX1_hasAheadOf 30 = .ok (.iconst 1, 1) := by decide +kernel
theorem dX1_hasAheadOf_31 : decode cX1_hasAheadOf 31 = .ok (.ireturn, 1) := by decide +kernel
theorem dX1_hasAheadOf_32 : decode cX1_hasAheadOf 32 = .ok (.iinc 4 1, 3) := by decide +kernel
theorem dX1_hasAheadOf_35 : decode cX1_hasAheadOf 35 = .ok (.goto (-32), 3) := by decide +kernel
theorem dX1_hasAheadOf_38 : decode cX1_hasAheadOf 38 = .ok (.iconst 0, 1) := by decide +kernel
theorem dX1_hasAheadOf_39 : decode cX1_hasAheadOf 39 = .ok (.ireturn, 1) := by decide +kernel
theorem dX1_unlikePieces_0 : decode cX1_unlikePieces 0 = .ok (.aload_n 0, 1) := by decide +kernel
theorem dX1_unlikePieces_1 : decode cX1_unlikePieces 1 = .ok (.aload_n 0, 1) := by decide +kernel
theorem dX1_unlikePieces_2 : decode cX1_unlikePieces 2 = .ok (.invokevirtual 77, 3) := by decide +kernel
theorem dX1_unlikePieces_5 : decode cX1_unlikePieces 5 = .ok (.ireturn, 1) := by decide +kernel
theorem dX1_unlikePiecesAlsoIn_0 : decode cX1_unlikePiecesAlsoIn 0 = .ok (.iconst 0, 1) := by decide +kernel
theorem dX1_unlikePiecesAlsoIn_1 : decode cX1_unlikePiecesAlsoIn 1 = .ok (.istore_n 2, 1) := by decide +kernel
theorem dX1_unlikePiecesAlsoIn_2 : decode cX1_unlikePiecesAlsoIn 2 = .ok (.iconst 0, 1) := by decide +kernel
theorem dX1_unlikePiecesAlsoIn_3 : decode cX1_unlikePiecesAlsoIn 3 = .ok (.istore_n 3, 1) := by decide +kernel
theorem dX1_unlikePiecesAlsoIn_4 : decode cX1_unlikePiecesAlsoIn 4 = .ok (.iload_n 3, 1) := by decide +kernel
theorem dX1_unlikePiecesAlsoIn_5 : decode cX1_unlikePiecesAlsoIn 5 = .ok (.aload_n 0, 1) := by decide +kernel
theorem dX1_unlikePiecesAlsoIn_6 : decode cX1_unlikePiecesAlsoIn 6 = .ok (.getfield 32, 3) := by decide +kernel
theorem dX1_unlikePiecesAlsoIn_9 : decode cX1_unlikePiecesAlsoIn 9 = .ok (.if_icmp .ge 39, 3) := by decide +kernel
theorem dX1_unlikePiecesAlsoIn_12 : decode cX1_unlikePiecesAlsoIn 12 = .ok (.aload_n 0, 1) := by decide +kernel
theorem dX1_unlikePiecesAlsoIn_13 : decode cX1_unlikePiecesAlsoIn 13 = .ok (.iload_n 3, 1) := by decide +kernel
theorem dX1_unlikePiecesAlsoIn_14 : decode cX1_unlikePiecesAlsoIn 14 = .ok (.aload_n 0, 1) := by decide +kernel
theorem dX1_unlikePiecesAlsoIn_15 : decode cX1_unlikePiecesAlsoIn 15 = .ok (.getfield 28, 3) := by decide +kernel
theorem dX1_unlikePiecesAlsoIn_18 : decode cX1_unlikePiecesAlsoIn 18 = .ok (.iload_n 3, 1) := by decide +kernel
theorem dX1_unlikePiecesAlsoIn_19 : decode cX1_unlikePiecesAlsoIn 19 = .ok (.laload, 1) := by decide +kernel
theorem dX1_unlikePiecesAlsoIn_20 : decode cX1_unlikePiecesAlsoIn 20 = .ok (.invokevirtual 73, 3) := by decide +kernel
theorem dX1_unlikePiecesAlsoIn_23 : decode cX1_unlikePiecesAlsoIn 23 = .ok (.ifCond .ne 19, 3) := by decide +kernel
theorem dX1_unlikePiecesAlsoIn_26 : decode cX1_unlikePiecesAlsoIn 26 = .ok (.aload_n 1, 1) := by decide +kernel
theorem dX1_unlikePiecesAlsoIn_27 : decode cX1_unlikePiecesAlsoIn 27 = .ok (.aload_n 0, 1) := by decide +kernel
theorem dX1_unlikePiecesAlsoIn_28 : decode cX1_unlikePiecesAlsoIn 28 = .ok (.getfield 28, 3) := by decide +kernel
theorem dX1_unlikePiecesAlsoIn_31 : decode cX1_unlikePiecesAlsoIn 31 = .ok (.iload_n 3, 1) := by decide +kernel
theorem dX1_unlikePiecesAlsoIn_32 : decode cX1_unlikePiecesAlsoIn 32 = .ok (.laload, 1) := by decide +kernel
theorem dX1_unlikePiecesAlsoIn_33 : decode cX1_unlikePiecesAlsoIn 33 = .ok (.invokevirtual 81, 3) := by decide +kernel
theorem dX1_unlikePiecesAlsoIn_36 : decode cX1_unlikePiecesAlsoIn 36 = .ok (.ifCond .eq 6, 3) := by decide +kernel
theorem dX1_unlikePiecesAlsoIn_39 : decode cX1_unlikePiecesAlsoIn 39 = .ok (.iinc 2 1, 3) := by decide +kernel
theorem dX1_unlikePiecesAlsoIn_42 : decode cX1_unlikePiecesAlsoIn 42 = .ok (.iinc 3 1, 3) := by decide +kernel
theorem dX1_unlikePiecesAlsoIn_45 : decode cX1_unlikePiecesAlsoIn 45 = .ok (.goto (-41), 3) := by decide +kernel
theorem dX1_unlikePiecesAlsoIn_48 : decode cX1_unlikePiecesAlsoIn 48 = .ok (.iload_n 2, 1) := by decide +kernel
theorem dX1_unlikePiecesAlsoIn_49 : decode cX1_unlikePiecesAlsoIn 49 = .ok (.ireturn, 1) := by decide +kernel
theorem dX1_forcedPieces_0 : decode cX1_forcedPieces 0 = .ok (.iconst 0, 1) := by decide +kernel
theorem dX1_forcedPieces_1 : decode cX1_forcedPieces 1 = .ok (.istore_n 1, 1) := by decide +kernel
theorem dX1_forcedPieces_2 : decode cX1_forcedPieces 2 = .ok (.iconst 0, 1) := by decide +kernel
theorem dX1_forcedPieces_3 : decode cX1_forcedPieces 3 = .ok (.istore_n 2, 1) := by decide +kernel
theorem dX1_forcedPieces_4 : decode cX1_forcedPieces 4 = .ok (.iload_n 2, 1) := by decide +kernel
theorem dX1_forcedPieces_5 : decode cX1_forcedPieces 5 = .ok (.aload_n 0, 1) := by decide +kernel
theorem dX1_forcedPieces_6 : decode cX1_forcedPieces 6 = .ok (.getfield 32, 3) := by decide +kernel
theorem dX1_forcedPieces_9 : decode cX1_forcedPieces 9 = .ok (.if_icmp .ge 18, 3) := by decide +kernel
theorem dX1_forcedPieces_12 : decode cX1_forcedPieces 12 = .ok (.iload_n 1, 1) := by decide +kernel
theorem dX1_forcedPieces_13 : decode cX1_forcedPieces 13 = .ok (.aload_n 0, 1) := by decide +kernel
theorem dX1_forcedPieces_14 : decode cX1_forcedPieces 14 = .ok (.getfield 25, 3) := by decide +kernel
theorem dX1_forcedPieces_17 : decode cX1_forcedPieces 17 = .ok (.iload_n 2, 1) := by decide +kernel
theorem dX1_forcedPieces_18 : decode cX1_forcedPieces 18 = .ok (.iaload, 1) := by decide +kernel
theorem dX1_forcedPieces_19 : decode cX1_forcedPieces 19 = .ok (.iadd, 1) := by decide +kernel
theorem dX1_forcedPieces_20 : decode cX1_forcedPieces 20 = .ok (.istore_n 1, 1) := by decide +kernel
theorem dX1_forcedPieces_21 : decode cX1_forcedPieces 21 = .ok (.iinc 2 1, 3) := by decide +kernel
theorem dX1_forcedPieces_24 : decode cX1_forcedPieces 24 = .ok (.goto (-20), 3) := by decide +kernel
theorem dX1_forcedPieces_27 : decode cX1_forcedPieces 27 = .ok (.iload_n 1, 1) := by decide +kernel
theorem dX1_forcedPieces_28 : decode cX1_forcedPieces 28 = .ok (.ireturn, 1) := by decide +kernel
theorem dX1_longestPiece_0 : decode cX1_longestPiece 0 = .ok (.iconst 0, 1) := by decide +kernel
theorem dX1_longestPiece_1 : decode cX1_longestPiece 1 = .ok (.istore_n 1, 1) := by decide +kernel
theorem dX1_longestPiece_2 : decode cX1_longestPiece 2 = .ok (.iconst 0, 1) := by decide +kernel
theorem dX1_longestPiece_3 : decode cX1_longestPiece 3 = .ok (.istore_n 2, 1) := by decide +kernel
theorem dX1_longestPiece_4 : decode cX1_longestPiece 4 = .ok (.iload_n 2, 1) := by decide +kernel
theorem dX1_longestPiece_5 : decode cX1_longestPiece 5 = .ok (.aload_n 0, 1) := by decide +kernel
theorem dX1_longestPiece_6 : decode cX1_longestPiece 6 = .ok (.getfield 32, 3) := by decide +kernel
theorem dX1_longestPiece_9 : decode cX1_longestPiece 9 = .ok (.if_icmp .ge 20, 3) := by decide +kernel
theorem dX1_longestPiece_12 : decode cX1_longestPiece 12 = .ok (.iload_n 1, 1) := by decide +kernel
theorem dX1_longestPiece_13 : decode cX1_longestPiece 13 = .ok (.aload_n 0, 1) := by decide +kernel
theorem dX1_longestPiece_14 : decode cX1_longestPiece 14 = .ok (.getfield 22, 3) := by decide +kernel
theorem dX1_longestPiece_17 : decode cX1_longestPiece 17 = .ok (.iload_n 2, 1) := by decide +kernel
theorem dX1_longestPiece_18 : decode cX1_longestPiece 18 = .ok (.iaload, 1) := by decide +kernel
theorem dX1_longestPiece_19 : decode cX1_longestPiece 19 = .ok (.invokestatic 85, 3) := by decide +kernel
theorem dX1_longestPiece_22 : decode cX1_longestPiece 22 = .ok (.istore_n 1, 1) := by decide +kernel
theorem dX1_longestPiece_23 : decode cX1_longestPiece 23 = .ok (.iinc 2 1, 3) := by decide +kernel
theorem dX1_longestPiece_26 : decode cX1_longestPiece 26 = .ok (.goto (-22), 3) := by decide +kernel
theorem dX1_longestPiece_29 : decode cX1_longestPiece 29 = .ok (.iload_n 1, 1) := by decide +kernel
theorem dX1_longestPiece_30 : decode cX1_longestPiece 30 = .ok (.ireturn, 1) := by decide +kernel
theorem dX2_init_0 : decode cX2_init 0 = .ok (.aload_n 0, 1) := by decide +kernel
theorem dX2_init_1 : decode cX2_init 1 = .ok (.invokespecial 3, 3) := by decide +kernel
theorem dX2_init_4 : decode cX2_init 4 = .ok (.aload_n 0, 1) := by decide +kernel
theorem dX2_init_5 : decode cX2_init 5 = .ok (.bipush 6, 2) := by decide +kernel
theorem dX2_init_7 : decode cX2_init 7 = .ok (.anewarray 9, 3) := by decide +kernel
theorem dX2_init_10 : decode cX2_init 10 = .ok (.putfield 11, 3) := by decide +kernel
theorem dX2_init_13 : decode cX2_init 13 = .ok (.aload_n 0, 1) := by decide +kernel
theorem dX2_init_14 : decode cX2_init 14 = .ok (.iconst 0, 1) := by decide +kernel
theorem dX2_init_15 : decode cX2_init 15 = .ok (.putfield 17, 3) := by decide +kernel
theorem dX2_init_18 : decode cX2_init 18 = .ok (.iconst 0, 1) := by decide +kernel
theorem dX2_init_19 : decode cX2_init 19 = .ok (.istore_n 1, 1) := by decide +kernel
theorem dX2_init_20 : decode cX2_init 20 = .ok (.iload_n 1, 1) := by decide +kernel
theorem dX2_init_21 : decode cX2_init 21 = .ok (.bipush 6, 2) := by decide +kernel
theorem dX2_init_23 : decode cX2_init 23 = .ok (.if_icmp .ge 22, 3) := by decide +kernel
theorem dX2_init_26 : decode cX2_init 26 = .ok (.aload_n 0, 1) := by decide +kernel
theorem dX2_init_27 : decode cX2_init 27 = .ok (.getfield 11, 3) := by decide +kernel
theorem dX2_init_30 : decode cX2_init 30 = .ok (.iload_n 1, 1) := by decide +kernel
theorem dX2_init_31 : decode cX2_init 31 = .ok (.new 9, 3) := by decide +kernel
theorem dX2_init_34 : decode cX2_init 34 = .ok (.dup, 1) := by decide +kernel
theorem dX2_init_35 : decode cX2_init 35 = .ok (.invokespecial 21, 3) := by decide +kernel
theorem dX2_init_38 : decode cX2_init 38 = .ok (.aastore, 1) := by decide +kernel
theorem dX2_init_39 : decode cX2_init 39 = .ok (.iinc 1 1, 3) := by decide +kernel
theorem dX2_init_42 : decode cX2_init 42 = .ok (.goto (-22), 3) := by decide +kernel
theorem dX2_init_45 : decode cX2_init 45 = .ok (.return_, 1) := by decide +kernel
theorem dX2_push_0 : decode cX2_push 0 = .ok (.aload_n 0, 1) := by decide +kernel
theorem dX2_push_1 : decode cX2_push 1 = .ok (.getfield 17, 3) := by decide +kernel
theorem dX2_push_4 : decode cX2_push 4 = .ok (.bipush 6, 2) := by decide +kernel
theorem dX2_push_6 : decode cX2_push 6 = .ok (.if_icmp .lt 7, 3) := by decide +kernel
theorem dX2_push_9 : decode cX2_push 9 = .ok (.aload_n 0, 1) := by decide +kernel
theorem dX2_push_10 : decode cX2_push 10 = .ok (.invokevirtual 22, 3) := by decide +kernel
theorem dX2_push_13 : decode cX2_push 13 = .ok (.aload_n 0, 1) := by decide +kernel
theorem dX2_push_14 : decode cX2_push 14 = .ok (.getfield 11, 3) := by decide +kernel
theorem dX2_push_17 : decode cX2_push 17 = .ok (.aload_n 0, 1) := by decide +kernel
theorem dX2_push_18 : decode cX2_push 18 = .ok (.getfield 17, 3) := by decide +kernel
theorem dX2_push_21 : decode cX2_push 21 = .ok (.aaload, 1) := by decide +kernel
theorem dX2_push_22 : decode cX2_push 22 = .ok (.aload_n 1, 1) := by decide +kernel
theorem dX2_push_23 : decode cX2_push 23 = .ok (.invokevirtual 25, 3) := by decide +kernel
theorem dX2_push_26 : decode cX2_push 26 = .ok (.aload_n 0, 1) := by decide +kernel
theorem dX2_push_27 : decode cX2_push 27 = .ok (.dup, 1) := by decide +kernel
theorem dX2_push_28 : decode cX2_push 28 = .ok (.getfield 17, 3) := by decide +kernel
theorem dX2_push_31 : decode cX2_push 31 = .ok (.iconst 1, 1) := by decide +kernel
theorem dX2_push_32 : decode cX2_push 32 = .ok (.iadd, 1) := by decide +kernel
theorem dX2_push_33 : decode cX2_push 33 = .ok (.putfield 17, 3) := by decide +kernel
theorem dX2_push_36 : decode cX2_push 36 = .ok (.return_, 1) := by decide +kernel
theorem dX2_dropOldest_0 : decode cX2_dropOldest 0 = .ok (.aload_n 0, 1) := by decide +kernel
theorem dX2_dropOldest_1 : decode cX2_dropOldest 1 = .ok (.getfield 11, 3) := by decide +kernel
theorem dX2_dropOldest_4 : decode cX2_dropOldest 4 = .ok (.iconst 0, 1) := by decide +kernel
theorem dX2_dropOldest_5 : decode cX2_dropOldest 5 = .ok (.aaload, 1) := by decide +kernel
theorem dX2_dropOldest_6 : decode cX2_dropOldest 6 = .ok (.astore_n 1, 1) := by decide +kernel
theorem dX2_dropOldest_7 : decode cX2_dropOldest 7 = .ok (.iconst 1, 1) := by decide +kernel
theorem dX2_dropOldest_8 : decode cX2_dropOldest 8 = .ok (.istore_n 2, 1) := by decide +kernel
theorem dX2_dropOldest_9 : decode cX2_dropOldest 9 = .ok (.iload_n 2, 1) := by decide +kernel
theorem dX2_dropOldest_10 : decode cX2_dropOldest 10 = .ok (.bipush 6, 2) := by decide +kernel
theorem dX2_dropOldest_12 : decode cX2_dropOldest 12 = .ok (.if_icmp .ge 23, 3) := by decide +kernel
theorem dX2_dropOldest_15 : decode cX2_dropOldest 15 = .ok (.aload_n 0, 1) := by decide +kernel
theorem dX2_dropOldest_16 : decode cX2_dropOldest 16 = .ok (.getfield 11, 3) := by decide +kernel
theorem dX2_dropOldest_19 : decode cX2_dropOldest 19 = .ok (.iload_n 2, 1) := by decide +kernel
theorem dX2_dropOldest_20 : decode cX2_dropOldest 20 = .ok (.iconst 1, 1) := by decide +kernel
theorem dX2_dropOldest_21 : decode cX2_dropOldest 21 = .ok (.isub, 1) := by decide +kernel
theorem dX2_dropOldest_22 : decode cX2_dropOldest 22 = .ok (.aload_n 0, 1) := by decide +kernel
theorem dX2_dropOldest_23 : decode cX2_dropOldest 23 = .ok (.getfield 11, 3) := by decide +kernel
theorem dX2_dropOldest_26 : decode cX2_dropOldest 26 = .ok (.iload_n 2, 1) := by decide +kernel
theorem dX2_dropOldest_27 : decode cX2_dropOldest 27 = .ok (.aaload, 1) := by decide +kernel
theorem dX2_dropOldest_28 : decode cX2_dropOldest 28 = .ok (.aastore, 1) := by decide +kernel
theorem dX2_dropOldest_29 : decode cX2_dropOldest 29 = .ok (.iinc 2 1, 3) := by decide +kernel
theorem dX2_dropOldest_32 : decode cX2_dropOldest 32 = .ok (.goto (-23), 3) := by decide +kernel
theorem dX2_dropOldest_35 : decode cX2_dropOldest 35 = .ok (.aload_n 0, 1) := by decide +kernel
theorem dX2_dropOldest_36 : decode cX2_dropOldest 36 = .ok (.getfield 11, 3) := by decide +kernel
theorem dX2_dropOldest_39 : decode cX2_dropOldest 39 = .ok (.iconst 5, 1) := by decide +kernel
theorem dX2_dropOldest_40 : decode cX2_dropOldest 40 = .ok (.aload_n 1, 1) := by decide +kernel
theorem dX2_dropOldest_41 : decode cX2_dropOldest 41 = .ok (.aastore, 1) := by decide +kernel
theorem dX2_dropOldest_42 : decode cX2_dropOldest 42 = .ok (.aload_n 0, 1) := by decide +kernel
theorem dX2_dropOldest_43 : decode cX2_dropOldest 43 = .ok (.iconst 5, 1) := by decide +kernel
theorem dX2_dropOldest_44 : decode cX2_dropOldest 44 = .ok (.putfield 17, 3) := by decide +kernel
theorem dX2_dropOldest_47 : decode cX2_dropOldest 47 = .ok (.return_, 1) := by decide +kernel
theorem dX3_init_0 : decode cX3_init 0 = .ok (.aload_n 0, 1) := by decide +kernel
theorem dX3_init_1 : decode cX3_init 1 = .ok (.invokespecial 3, 3) := by decide +kernel
theorem dX3_init_4 : decode cX3_init 4 = .ok (.aload_n 0, 1) := by decide +kernel
theorem dX3_init_5 : decode cX3_init 5 = .ok (.getstatic 9, 3) := by decide +kernel
theorem dX3_init_8 : decode cX3_init 8 = .ok (.invokevirtual 13, 3) := by decide +kernel
theorem dX3_init_11 : decode cX3_init 11 = .ok (.checkcast 14, 3) := by decide +kernel
theorem dX3_init_14 : decode cX3_init 14 = .ok (.putfield 18, 3) := by decide +kernel
theorem dX3_init_17 : decode cX3_init 17 = .ok (.return_, 1) := by decide +kernel
theorem dX3_become_0 : decode cX3_become 0 = .ok (.aload_n 1, 1) := by decide +kernel
theorem dX3_become_1 : decode cX3_become 1 = .ok (.getfield 18, 3) := by decide +kernel
theorem dX3_become_4 : decode cX3_become 4 = .ok (.iconst 0, 1) := by decide +kernel
theorem dX3_become_5 : decode cX3_become 5 = .ok (.aload_n 0, 1) := by decide +kernel
theorem dX3_become_6 : decode cX3_become 6 = .ok (.getfield 18, 3) := by decide +kernel
theorem dX3_become_9 : decode cX3_become 9 = .ok (.iconst 0, 1) := by decide +kernel
theorem dX3_become_10 : decode cX3_become 10 = .ok (.iconst 5, 1) := by decide +kernel
theorem dX3_become_11 : decode cX3_become 11 = .ok (.invokestatic 23, 3) := by decide +kernel
theorem dX3_become_14 : decode cX3_become 14 = .ok (.return_, 1) := by decide +kernel
theorem dX3_sumAt_0 : decode cX3_sumAt 0 = .ok (.iconst 0, 1) := by decide +kernel
theorem dX3_sumAt_1 : decode cX3_sumAt 1 = .ok (.istore_n 3, 1) := by decide +kernel
theorem dX3_sumAt_2 : decode cX3_sumAt 2 = .ok (.iconst 0, 1) := by decide +kernel
theorem dX3_sumAt_3 : decode cX3_sumAt 3 = .ok (.istore 4, 2) := by decide +kernel
theorem dX3_sumAt_5 : decode cX3_sumAt 5 = .ok (.iload 4, 2) := by decide +kernel
theorem dX3_sumAt_7 : decode cX3_sumAt 7 = .ok (.aload_n 0, 1) := by decide +kernel
theorem dX3_sumAt_8 : decode cX3_sumAt 8 = .ok (.getfield 18, 3) := by decide +kernel
theorem dX3_sumAt_11 : decode cX3_sumAt 11 = .ok (.iconst 0, 1) := by decide +kernel
theorem dX3_sumAt_12 : decode cX3_sumAt 12 = .ok (.iaload, 1) := by decide +kernel
theorem dX3_sumAt_13 : decode cX3_sumAt 13 = .ok (.if_icmp .ge 32, 3) := by decide +kernel
theorem dX3_sumAt_16 : decode cX3_sumAt 16 = .ok (.iload 4, 2) := by decide +kernel
theorem dX3_sumAt_18 : decode cX3_sumAt 18 = .ok (.iload_n 2, 1) := by decide +kernel
theorem dX3_sumAt_19 : decode cX3_sumAt 19 = .ok (.if_icmp .gt 26, 3) := by decide +kernel
theorem dX3_sumAt_22 : decode cX3_sumAt 22 = .ok (.iload_n 3, 1) := by decide +kernel
theorem dX3_sumAt_23 : decode cX3_sumAt 23 = .ok (.aload_n 1, 1) := by decide +kernel
theorem dX3_sumAt_24 : decode cX3_sumAt 24 = .ok (.getfield 29, 3) := by decide +kernel
theorem dX3_sumAt_27 : decode cX3_sumAt 27 = .ok (.iload_n 2, 1) := by decide +kernel
theorem dX3_sumAt_28 : decode cX3_sumAt 28 = .ok (.iload 4, 2) := by decide +kernel
theorem dX3_sumAt_30 : decode cX3_sumAt 30 = .ok (.isub, 1) := by decide +kernel
theorem dX3_sumAt_31 : decode cX3_sumAt 31 = .ok (.iaload, 1) := by decide +kernel
theorem dX3_sumAt_32 : decode cX3_sumAt 32 = .ok (.iload 4, 2) := by decide +kernel
theorem dX3_sumAt_34 : decode cX3_sumAt 34 = .ok (.iconst 1, 1) := by decide +kernel
theorem dX3_sumAt_35 : decode cX3_sumAt 35 = .ok (.iadd, 1) := by decide +kernel
theorem dX3_sumAt_36 : decode cX3_sumAt 36 = .ok (.imul, 1) := by decide +kernel
theorem dX3_sumAt_37 : decode cX3_sumAt 37 = .ok (.iadd, 1) := by decide +kernel
theorem dX3_sumAt_38 : decode cX3_sumAt 38 = .ok (.istore_n 3, 1) := by decide +kernel
theorem dX3_sumAt_39 : decode cX3_sumAt 39 = .ok (.iinc 4 1, 3) := by decide +kernel
theorem dX3_sumAt_42 : decode cX3_sumAt 42 = .ok (.goto (-37), 3) := by decide +kernel
theorem dX3_sumAt_45 : decode cX3_sumAt 45 = .ok (.iload_n 3, 1) := by decide +kernel
theorem dX3_sumAt_46 : decode cX3_sumAt 46 = .ok (.ireturn, 1) := by decide +kernel
theorem dX3_endPieceAt_0 : decode cX3_endPieceAt 0 = .ok (.aload_n 0, 1) := by decide +kernel
theorem dX3_endPieceAt_1 : decode cX3_endPieceAt 1 = .ok (.getfield 18, 3) := by decide +kernel
theorem dX3_endPieceAt_4 : decode cX3_endPieceAt 4 = .ok (.iconst 1, 1) := by decide +kernel
theorem dX3_endPieceAt_5 : decode cX3_endPieceAt 5 = .ok (.iaload, 1) := by decide +kernel
theorem dX3_endPieceAt_6 : decode cX3_endPieceAt 6 = .ok (.istore_n 3, 1) := by decide +kernel
theorem dX3_endPieceAt_7 : decode cX3_endPieceAt 7 = .ok (.iload_n 3, 1) := by decide +kernel
theorem dX3_endPieceAt_8 : decode cX3_endPieceAt 8 = .ok (.ifCond .le 24, 3) := by decide +kernel
theorem dX3_endPieceAt_11 : decode cX3_endPieceAt 11 = .ok (.aload_n 0, 1) := by decide +kernel
theorem dX3_endPieceAt_12 : decode cX3_endPieceAt 12 = .ok (.aload_n 1, 1) := by decide +kernel
theorem dX3_endPieceAt_13 : decode cX3_endPieceAt 13 = .ok (.iload_n 2, 1) := by decide +kernel
theorem dX3_endPieceAt_14 : decode cX3_endPieceAt 14 = .ok (.invokevirtual 34, 3) := by decide +kernel
theorem dX3_endPieceAt_17 : decode cX3_endPieceAt 17 = .ok (.iload_n 3, 1) := by decide +kernel
theorem dX3_endPieceAt_18 : decode cX3_endPieceAt 18 = .ok (.irem, 1) := by decide +kernel
theorem dX3_endPieceAt_19 : decode cX3_endPieceAt 19 = .ok (.aload_n 0, 1) := by decide +kernel
theorem dX3_endPieceAt_20 : decode cX3_endPieceAt 20 = .ok (.getfield 18, 3) := by decide +kernel
theorem dX3_endPieceAt_23 : decode cX3_endPieceAt 23 = .ok (.iconst 2, 1) := by decide +kernel
theorem dX3_endPieceAt_24 : decode cX3_endPieceAt 24 = .ok (.iaload, 1) := by decide +kernel
theorem dX3_endPieceAt_25 : decode cX3_endPieceAt 25 = .ok (.if_icmp .ne 7, 3) := by decide +kernel
theorem dX3_endPieceAt_28 : decode cX3_endPieceAt 28 = .ok (.iconst 1, 1) := by decide +kernel
theorem dX3_endPieceAt_29 : decode cX3_endPieceAt 29 = .ok (.goto 4, 3) := by decide +kernel
theorem dX3_endPieceAt_32 : decode cX3_endPieceAt 32 = .ok (.iconst 0, 1) := by decide +kernel
theorem dX3_endPieceAt_33 : decode cX3_endPieceAt 33 = .ok (.ireturn, 1) := by decide +kernel
theorem dX4_init_0 : decode cX4_init 0 = .ok (.aload_n 0, 1) := by decide +kernel
theorem dX4_init_1 : decode cX4_init 1 = .ok (.invokespecial 3, 3) := by decide +kernel
theorem dX4_init_4 : decode cX4_init 4 = .ok (.aload_n 0, 1) := by decide +kernel
theorem dX4_init_5 : decode cX4_init 5 = .ok (.iconst 4, 1) := by decide +kernel
theorem dX4_init_6 : decode cX4_init 6 = .ok (.anewarray 9, 3) := by decide +kernel
theorem dX4_init_9 : decode cX4_init 9 = .ok (.putfield 11, 3) := by decide +kernel
theorem dX4_init_12 : decode cX4_init 12 = .ok (.aload_n 0, 1) := by decide +kernel
theorem dX4_init_13 : decode cX4_init 13 = .ok (.new 17, 3) := by decide +kernel
theorem dX4_init_16 : decode cX4_init 16 = .ok (.dup, 1) := by decide +kernel
theorem dX4_init_17 : decode cX4_init 17 = .ok (.invokespecial 19, 3) := by decide +kernel
theorem dX4_init_20 : decode cX4_init 20 = .ok (.putfield 20, 3) := by decide +kernel
theorem dX4_init_23 : decode cX4_init 23 = .ok (.aload_n 0, 1) := by decide +kernel
theorem dX4_init_24 : decode cX4_init 24 = .ok (.new 24, 3) := by decide +kernel
theorem dX4_init_27 : decode cX4_init 27 = .ok (.dup, 1) := by decide +kernel
theorem dX4_init_28 : decode cX4_init 28 = .ok (.invokespecial 26, 3) := by decide +kernel
theorem dX4_init_31 : decode cX4_init 31 = .ok (.putfield 27, 3) := by decide +kernel
theorem dX4_init_34 : decode cX4_init 34 = .ok (.iconst 0, 1) := by decide +kernel
theorem dX4_init_35 : decode cX4_init 35 = .ok (.istore_n 1, 1) := by decide +kernel
theorem dX4_init_36 : decode cX4_init 36 = .ok (.iload_n 1, 1) := by decide +kernel
theorem dX4_init_37 : decode cX4_init 37 = .ok (.iconst 4, 1) := by decide +kernel
theorem dX4_init_38 : decode cX4_init 38 = .ok (.if_icmp .ge 22, 3) := by decide +kernel
theorem dX4_init_41 : decode cX4_init 41 = .ok (.aload_n 0, 1) := by decide +kernel
theorem dX4_init_42 : decode cX4_init 42 = .ok (.getfield 11, 3) := by decide +kernel
theorem dX4_init_45 : decode cX4_init 45 = .ok (.iload_n 1, 1) := by decide +kernel
theorem dX4_init_46 : decode cX4_init 46 = .ok (.new 9, 3) := by decide +kernel
theorem dX4_init_49 : decode cX4_init 49 = .ok (.dup, 1) := by decide +kernel
theorem dX4_init_50 : decode cX4_init 50 = .ok (.invokespecial 31, 3) := by decide +kernel
theorem dX4_init_53 : decode cX4_init 53 = .ok (.aastore, 1) := by decide +kernel
theorem dX4_init_54 : decode cX4_init 54 = .ok (.iinc 1 1, 3) := by decide +kernel
theorem dX4_init_57 : decode cX4_init 57 = .ok (.goto (-21), 3) := by decide +kernel
theorem dX4_init_60 : decode cX4_init 60 = .ok (.return_, 1) := by decide +kernel
theorem dX4_become_0 : decode cX4_become 0 = .ok (.iconst 0, 1) := by decide +kernel
theorem dX4_become_1 : decode cX4_become 1 = .ok (.istore_n 2, 1) := by decide +kernel
theorem dX4_become_2 : decode cX4_become 2 = .ok (.iload_n 2, 1) := by decide +kernel
theorem dX4_become_3 : decode cX4_become 3 = .ok (.iconst 4, 1) := by decide +kernel
theorem dX4_become_4 : decode cX4_become 4 = .ok (.if_icmp .ge 24, 3) := by decide +kernel
theorem dX4_become_7 : decode cX4_become 7 = .ok (.aload_n 0, 1) := by decide +kernel
theorem dX4_become_8 : decode cX4_become 8 = .ok (.getfield 11, 3) := by decide +kernel
theorem dX4_become_11 : decode cX4_become 11 = .ok (.iload_n 2, 1) := by decide +kernel
theorem dX4_become_12 : decode cX4_become 12 = .ok (.aaload, 1) := by decide +kernel
theorem dX4_become_13 : decode cX4_become 13 = .ok (.aload_n 1, 1) := by decide +kernel
theorem dX4_become_14 : decode cX4_become 14 = .ok (.getfield 11, 3) := by decide +kernel
theorem dX4_become_17 : decode cX4_become 17 = .ok (.iload_n 2, 1) := by decide +kernel
theorem dX4_become_18 : decode cX4_become 18 = .ok (.aaload, 1) := by decide +kernel
theorem dX4_become_19 : decode cX4_become 19 = .ok (.invokevirtual 32, 3) := by decide +kernel
theorem dX4_become_22 : decode cX4_become 22 = .ok (.iinc 2 1, 3) := by decide +kernel
theorem dX4_become_25 : decode cX4_become 25 = .ok (.goto (-23), 3) := by decide +kernel
theorem dX4_become_28 : decode cX4_become 28 = .ok (.aload_n 0, 1) := by decide +kernel
theorem dX4_become_29 : decode cX4_become 29 = .ok (.getfield 20, 3) := by decide +kernel
theorem dX4_become_32 : decode cX4_become 32 = .ok (.aload_n 1, 1) := by decide +kernel
theorem dX4_become_33 : decode cX4_become 33 = .ok (.getfield 20, 3) := by decide +kernel
theorem dX4_become_36 : decode cX4_become 36 = .ok (.invokevirtual 36, 3) := by decide +kernel
theorem dX4_become_39 : decode cX4_become 39 = .ok (.aload_n 0, 1) := by decide +kernel
theorem dX4_become_40 : decode cX4_become 40 = .ok (.getfield 27, 3) := by decide +kernel
theorem dX4_become_43 : decode cX4_become 43 = .ok (.aload_n 1, 1) := by decide +kernel
theorem dX4_become_44 : decode cX4_become 44 = .ok (.getfield 27, 3) := by decide +kernel
theorem dX4_become_47 : decode cX4_become 47 = .ok (.invokevirtual 39, 3) := by decide +kernel
theorem dX4_become_50 : decode cX4_become 50 = .ok (.return_, 1) := by decide +kernel
theorem dX4_becomeChanged_0 : decode cX4_becomeChanged 0 = .ok (.aload_n 0, 1) := by decide +kernel
theorem dX4_becomeChanged_1 : decode cX4_becomeChanged 1 = .ok (.aload_n 1, 1) := by decide +kernel
theorem dX4_becomeChanged_2 : decode cX4_becomeChanged 2 = .ok (.invokevirtual 42, 3) := by decide +kernel
theorem dX4_becomeChanged_5 : decode cX4_becomeChanged 5 = .ok (.aload_n 0, 1) := by decide +kernel
theorem dX4_becomeChanged_6 : decode cX4_becomeChanged 6 = .ok (.getfield 20, 3) := by decide +kernel
theorem dX4_becomeChanged_9 : decode cX4_becomeChanged 9 = .ok (.aload_n 0, 1) := by decide +kernel
theorem dX4_becomeChanged_10 : decode cX4_becomeChanged 10 = .ok (.getfield 11, 3) := by decide +kernel
theorem dX4_becomeChanged_13 : decode cX4_becomeChanged 13 = .ok (.iload_n 2, 1) := by decide +kernel
theorem dX4_becomeChanged_14 : decode cX4_becomeChanged 14 = .ok (.aaload, 1) := by decide +kernel
theorem dX4_becomeChanged_15 : decode cX4_becomeChanged 15 = .ok (.invokevirtual 45, 3) := by decide +kernel
theorem dX4_becomeChanged_18 : decode cX4_becomeChanged 18 = .ok (.aload_n 0, 1) := by decide +kernel
theorem dX4_becomeChanged_19 : decode cX4_becomeChanged 19 = .ok (.getfield 20, 3) := by decide +kernel
theorem dX4_becomeChanged_22 : decode cX4_becomeChanged 22 = .ok (.aload_n 3, 1) := by decide +kernel
theorem dX4_becomeChanged_23 : decode cX4_becomeChanged 23 = .ok (.invokevirtual 48, 3) := by decide +kernel
theorem dX4_becomeChanged_26 : decode cX4_becomeChanged 26 = .ok (.ifCond .ne 12, 3) := by decide +kernel
theorem dX4_becomeChanged_29 : decode cX4_becomeChanged 29 = .ok (.aload_n 0, 1) := by decide +kernel
theorem dX4_becomeChanged_30 : decode cX4_becomeChanged 30 = .ok (.getfield 20, 3) := by decide +kernel
theorem dX4_becomeChanged_33 : decode cX4_becomeChanged 33 = .ok (.aload_n 3, 1) := by decide +kernel
theorem dX4_becomeChanged_34 : decode cX4_becomeChanged 34 = .ok (.invokevirtual 52, 3) := by decide +kernel
theorem dX4_becomeChanged_37 : decode cX4_becomeChanged 37 = .ok (.pop, 1) := by decide +kernel
theorem dX4_becomeChanged_38 : decode cX4_becomeChanged 38 = .ok (.aload_n 0, 1) := by decide +kernel
theorem dX4_becomeChanged_39 : decode cX4_becomeChanged 39 = .ok (.getfield 20, 3) := by decide +kernel
theorem dX4_becomeChanged_42 : decode cX4_becomeChanged 42 = .ok (.aload_n 3, 1) := by decide +kernel
theorem dX4_becomeChanged_43 : decode cX4_becomeChanged 43 = .ok (.invokevirtual 48, 3) := by decide +kernel
theorem dX4_becomeChanged_46 : decode cX4_becomeChanged 46 = .ok (.ifCond .ne 5, 3) := by decide +kernel
theorem dX4_becomeChanged_49 : decode cX4_becomeChanged 49 = .ok (.iconst 0, 1) := by decide +kernel
theorem dX4_becomeChanged_50 : decode cX4_becomeChanged 50 = .ok (.ireturn, 1) := by decide +kernel
theorem dX4_becomeChanged_51 : decode cX4_becomeChanged 51 = .ok (.aload_n 0, 1) := by decide +kernel
theorem dX4_becomeChanged_52 : decode cX4_becomeChanged 52 = .ok (.getfield 20, 3) := by decide +kernel
theorem dX4_becomeChanged_55 : decode cX4_becomeChanged 55 = .ok (.aload_n 3, 1) := by decide +kernel
theorem dX4_becomeChanged_56 : decode cX4_becomeChanged 56 = .ok (.invokevirtual 56, 3) := by decide +kernel
theorem dX4_becomeChanged_59 : decode cX4_becomeChanged 59 = .ok (.aload_n 0, 1) := by decide +kernel
theorem dX4_becomeChanged_60 : decode cX4_becomeChanged 60 = .ok (.getfield 11, 3) := by decide +kernel
theorem dX4_becomeChanged_63 : decode cX4_becomeChanged 63 = .ok (.iload_n 2, 1) := by decide +kernel
theorem dX4_becomeChanged_64 : decode cX4_becomeChanged 64 = .ok (.aaload, 1) := by decide +kernel
theorem dX4_becomeChanged_65 : decode cX4_becomeChanged 65 = .ok (.aload_n 3, 1) := by decide +kernel
theorem dX4_becomeChanged_66 : decode cX4_becomeChanged 66 = .ok (.invokevirtual 32, 3) := by decide +kernel
theorem dX4_becomeChanged_69 : decode cX4_becomeChanged 69 = .ok (.iconst 1, 1) := by decide +kernel
theorem dX4_becomeChanged_70 : decode cX4_becomeChanged 70 = .ok (.ireturn, 1) := by decide +kernel
theorem dX4_textsWith_0 : decode cX4_textsWith 0 = .ok (.iconst 0, 1) := by decide +kernel
theorem dX4_textsWith_1 : decode cX4_textsWith 1 = .ok (.istore_n 3, 1) := by decide +kernel
theorem dX4_textsWith_2 : decode cX4_textsWith 2 = .ok (.iconst 0, 1) := by decide +kernel
theorem dX4_textsWith_3 : decode cX4_textsWith 3 = .ok (.istore 4, 2) := by decide +kernel
theorem dX4_textsWith_5 : decode cX4_textsWith 5 = .ok (.iload 4, 2) := by decide +kernel
theorem dX4_textsWith_7 : decode cX4_textsWith 7 = .ok (.iconst 4, 1) := by decide +kernel
theorem dX4_textsWith_8 : decode cX4_textsWith 8 = .ok (.if_icmp .ge 30, 3) := by decide +kernel
theorem dX4_textsWith_11 : decode cX4_textsWith 11 = .ok (.aload_n 0, 1) := by decide +kernel
theorem dX4_textsWith_12 : decode cX4_textsWith 12 = .ok (.getfield 11, 3) := by decide +kernel
theorem dX4_textsWith_15 : decode cX4_textsWith 15 = .ok (.iload 4, 2) := by decide +kernel
theorem dX4_textsWith_17 : decode cX4_textsWith 17 = .ok (.aaload, 1) := by decide +kernel
theorem dX4_textsWith_18 : decode cX4_textsWith 18 = .ok (.lload_n 1, 1) := by decide +kernel
theorem dX4_textsWith_19 : decode cX4_textsWith 19 = .ok (.invokevirtual 59, 3) := by decide +kernel
theorem dX4_textsWith_22 : decode cX4_textsWith 22 = .ok (.ifCond .eq 10, 3) := by decide +kernel
theorem dX4_textsWith_25 : decode cX4_textsWith 25 = .ok (.iload_n 3, 1) := by decide +kernel
theorem dX4_textsWith_26 : decode cX4_textsWith 26 = .ok (.iconst 1, 1) := by decide +kernel
theorem dX4_textsWith_27 : decode cX4_textsWith 27 = .ok (.iload 4, 2) := by decide +kernel
theorem dX4_textsWith_29 : decode cX4_textsWith 29 = .ok (.ishl, 1) := by decide +kernel
theorem dX4_textsWith_30 : decode cX4_textsWith 30 = .ok (.ior, 1) := by decide +kernel
theorem dX4_textsWith_31 : decode cX4_textsWith 31 = .ok (.istore_n 3, 1) := by decide +kernel
theorem dX4_textsWith_32 : decode cX4_textsWith 32 = .ok (.iinc 4 1, 3) := by decide +kernel
theorem dX4_textsWith_35 : decode cX4_textsWith 35 = .ok (.goto (-30), 3) := by decide +kernel
theorem dX4_textsWith_38 : decode cX4_textsWith 38 = .ok (.iload_n 3, 1) := by decide +kernel
theorem dX4_textsWith_39 : decode cX4_textsWith 39 = .ok (.ireturn, 1) := by decide +kernel
theorem dX4_signsOwnedAlone_0 : decode cX4_signsOwnedAlone 0 = .ok (.aload_n 0, 1) := by decide +kernel
theorem dX4_signsOwnedAlone_1 : decode cX4_signsOwnedAlone 1 = .ok (.getfield 11, 3) := by decide +kernel
theorem dX4_signsOwnedAlone_4 : decode cX4_signsOwnedAlone 4 = .ok (.iload_n 1, 1) := by decide +kernel
theorem dX4_signsOwnedAlone_5 : decode cX4_signsOwnedAlone 5 = .ok (.aaload, 1) := by decide +kernel
theorem dX4_signsOwnedAlone_6 : decode cX4_signsOwnedAlone 6 = .ok (.astore_n 2, 1) := by decide +kernel
theorem dX4_signsOwnedAlone_7 : decode cX4_signsOwnedAlone 7 = .ok (.iconst 0, 1) := by decide +kernel
theorem dX4_signsOwnedAlone_8 : decode cX4_signsOwnedAlone 8 = .ok (.istore_n 3, 1) := by decide +kernel
theorem dX4_signsOwnedAlone_9 : decode cX4_signsOwnedAlone 9 = .ok (.iconst 0, 1) := by decide +kernel
theorem dX4_signsOwnedAlone_10 : decode cX4_signsOwnedAlone 10 = .ok (.istore 4, 2) := by decide +kernel
theorem dX4_signsOwnedAlone_12 : decode cX4_signsOwnedAlone 12 = .ok (.iload 4, 2) := by decide +kernel
theorem dX4_signsOwnedAlone_14 : decode cX4_signsOwnedAlone 14 = .ok (.aload_n 2, 1) := by decide +kernel
theorem dX4_signsOwnedAlone_15 : decode cX4_signsOwnedAlone 15 = .ok (.getfield 63, 3) := by decide +kernel
theorem dX4_signsOwnedAlone_18 : decode cX4_signsOwnedAlone 18 = .ok (.if_icmp .ge 36, 3) := by decide +kernel
theorem dX4_signsOwnedAlone_21 : decode cX4_signsOwnedAlone 21 = .ok (.aload_n 0, 1) := by decide +kernel
theorem dX4_signsOwnedAlone_22 : decode cX4_signsOwnedAlone 22 = .ok (.aload_n 2, 1) := by decide +kernel
theorem dX4_signsOwnedAlone_23 : decode cX4_signsOwnedAlone 23 = .ok (.getfield 67, 3) := by decide +kernel
theorem dX4_signsOwnedAlone_26 : decode cX4_signsOwnedAlone 26 = .ok (.iload 4, 2) := by decide +kernel
theorem dX4_signsOwnedAlone_28 : decode cX4_signsOwnedAlone 28 = .ok (.laload, 1) := by decide +kernel
theorem dX4_signsOwnedAlone_29 : decode cX4_signsOwnedAlone 29 = .ok (.invokevirtual 71, 3) := by decide +kernel
theorem dX4_signsOwnedAlone_32 : decode cX4_signsOwnedAlone 32 = .ok (.iconst 1, 1) := by decide +kernel
theorem dX4_signsOwnedAlone_33 : decode cX4_signsOwnedAlone 33 = .ok (.iload_n 1, 1) := by decide +kernel
theorem dX4_signsOwnedAlone_34 : decode cX4_signsOwnedAlone 34 = .ok (.ishl, 1) := by decide +kernel
theorem dX4_signsOwnedAlone_35 : decode cX4_signsOwnedAlone 35 = .ok (.if_icmp .ne 13, 3) := by decide +kernel
theorem dX4_signsOwnedAlone_38 : decode cX4_signsOwnedAlone 38 = .ok (.iload_n 3, 1) := by decide +kernel
theorem dX4_signsOwnedAlone_39 : decode cX4_signsOwnedAlone 39 = .ok (.aload_n 2, 1) := by decide +kernel
theorem dX4_signsOwnedAlone_40 : decode cX4_signsOwnedAlone 40 = .ok (.getfield 75, 3) := by decide +kernel
theorem dX4_signsOwnedAlone_43 : decode cX4_signsOwnedAlone 43 = .ok (.iload 4, 2) := by decide +kernel
theorem dX4_signsOwnedAlone_45 : decode cX4_signsOwnedAlone 45 = .ok (.iaload, 1) := by decide +kernel
theorem dX4_signsOwnedAlone_46 : decode cX4_signsOwnedAlone 46 = .ok (.iadd, 1) := by decide +kernel
theorem dX4_signsOwnedAlone_47 : decode cX4_signsOwnedAlone 47 = .ok (.istore_n 3, 1) := by decide +kernel
theorem dX4_signsOwnedAlone_48 : decode cX4_signsOwnedAlone 48 = .ok (.iinc 4 1, 3) := by decide +kernel
theorem dX4_signsOwnedAlone_51 : decode cX4_signsOwnedAlone 51 = .ok (.goto (-39), 3) := by decide +kernel
theorem dX4_signsOwnedAlone_54 : decode cX4_signsOwnedAlone 54 = .ok (.iload_n 3, 1) := by decide +kernel
theorem dX4_signsOwnedAlone_55 : decode cX4_signsOwnedAlone 55 = .ok (.ireturn, 1) := by decide +kernel
theorem dX4_signs_0 : decode cX4_signs 0 = .ok (.iconst 0, 1) := by decide +kernel
theorem dX4_signs_1 : decode cX4_signs 1 = .ok (.istore_n 1, 1) := by decide +kernel
theorem dX4_signs_2 : decode cX4_signs 2 = .ok (.iconst 0, 1) := by decide +kernel
theorem dX4_signs_3 : decode cX4_signs 3 = .ok (.istore_n 2, 1) := by decide +kernel
theorem dX4_signs_4 : decode cX4_signs 4 = .ok (.iload_n 2, 1) := by decide +kernel
theorem dX4_signs_5 : decode cX4_signs 5 = .ok (.iconst 4, 1) := by decide +kernel
theorem dX4_signs_6 : decode cX4_signs 6 = .ok (.if_icmp .ge 21, 3) := by decide +kernel
theorem dX4_signs_9 : decode cX4_signs 9 = .ok (.iload_n 1, 1) := by decide +kernel
theorem dX4_signs_10 : decode cX4_signs 10 = .ok (.aload_n 0, 1) := by decide +kernel
theorem dX4_signs_11 : decode cX4_signs 11 = .ok (.getfield 11, 3) := by decide +kernel
theorem dX4_signs_14 : decode cX4_signs 14 = .ok (.iload_n 2, 1) := by decide +kernel
theorem dX4_signs_15 : decode cX4_signs 15 = .ok (.aaload, 1) := by decide +kernel
theorem dX4_signs_16 : decode cX4_signs 16 = .ok (.getfield 79, 3) := by decide +kernel
theorem dX4_signs_19 : decode cX4_signs 19 = .ok (.iadd, 1) := by decide +kernel
theorem dX4_signs_20 : decode cX4_signs 20 = .ok (.istore_n 1, 1) := by decide +kernel
theorem dX4_signs_21 : decode cX4_signs 21 = .ok (.iinc 2 1, 3) := by decide +kernel
theorem dX4_signs_24 : decode cX4_signs 24 = .ok (.goto (-20), 3) := by decide +kernel
theorem dX4_signs_27 : decode cX4_signs 27 = .ok (.iload_n 1, 1) := by decide +kernel
theorem dX4_signs_28 : decode cX4_signs 28 = .ok (.ireturn, 1) := by decide +kernel
theorem dX4_pieces_0 : decode cX4_pieces 0 = .ok (.iconst 0, 1) := by decide +kernel
theorem dX4_pieces_1 : decode cX4_pieces 1 = .ok (.istore_n 1, 1) := by decide +kernel
theorem dX4_pieces_2 : decode cX4_pieces 2 = .ok (.iconst 0, 1) := by decide +kernel
theorem dX4_pieces_3 : decode cX4_pieces 3 = .ok (.istore_n 2, 1) := by decide +kernel
theorem dX4_pieces_4 : decode cX4_pieces 4 = .ok (.iload_n 2, 1) := by decide +kernel
theorem dX4_pieces_5 : decode cX4_pieces 5 = .ok (.iconst 4, 1) := by decide +kernel
theorem dX4_pieces_6 : decode cX4_pieces 6 = .ok (.if_icmp .ge 21, 3) := by decide +kernel
theorem dX4_pieces_9 : decode cX4_pieces 9 = .ok (.iload_n 1, 1) := by decide +kernel
theorem dX4_pieces_10 : decode cX4_pieces 10 = .ok (.aload_n 0, 1) := by decide +kernel
theorem dX4_pieces_11 : decode cX4_pieces 11 = .ok (.getfield 11, 3) := by decide +kernel
theorem dX4_pieces_14 : decode cX4_pieces 14 = .ok (.iload_n 2, 1) := by decide +kernel
theorem dX4_pieces_15 : decode cX4_pieces 15 = .ok (.aaload, 1) := by decide +kernel
theorem dX4_pieces_16 : decode cX4_pieces 16 = .ok (.getfield 63, 3) := by decide +kernel
theorem dX4_pieces_19 : decode cX4_pieces 19 = .ok (.iadd, 1) := by decide +kernel
theorem dX4_pieces_20 : decode cX4_pieces 20 = .ok (.istore_n 1, 1) := by decide +kernel
theorem dX4_pieces_21 : decode cX4_pieces 21 = .ok (.iinc 2 1, 3) := by decide +kernel
theorem dX4_pieces_24 : decode cX4_pieces 24 = .ok (.goto (-20), 3) := by decide +kernel
theorem dX4_pieces_27 : decode cX4_pieces 27 = .ok (.iload_n 1, 1) := by decide +kernel
theorem dX4_pieces_28 : decode cX4_pieces 28 = .ok (.ireturn, 1) := by decide +kernel
theorem dX5_init_0 : decode cX5_init 0 = .ok (.aload_n 0, 1) := by decide +kernel
theorem dX5_init_1 : decode cX5_init 1 = .ok (.invokespecial 3, 3) := by decide +kernel
theorem dX5_init_4 : decode cX5_init 4 = .ok (.aload_n 0, 1) := by decide +kernel
theorem dX5_init_5 : decode cX5_init 5 = .ok (.bipush 60, 2) := by decide +kernel
theorem dX5_init_7 : decode cX5_init 7 = .ok (.newarray .long, 2) := by decide +kernel
theorem dX5_init_9 : decode cX5_init 9 = .ok (.putfield 9, 3) := by decide +kernel
theorem dX5_init_12 : decode cX5_init 12 = .ok (.aload_n 0, 1) := by decide +kernel
theorem dX5_init_13 : decode cX5_init 13 = .ok (.bipush 60, 2) := by decide +kernel
theorem dX5_init_15 : decode cX5_init 15 = .ok (.newarray .int, 2) := by decide +kernel
theorem dX5_init_17 : decode cX5_init 17 = .ok (.putfield 15, 3) := by decide +kernel
theorem dX5_init_20 : decode cX5_init 20 = .ok (.aload_n 0, 1) := by decide +kernel
theorem dX5_init_21 : decode cX5_init 21 = .ok (.bipush 60, 2) := by decide +kernel
theorem dX5_init_23 : decode cX5_init 23 = .ok (.newarray .int, 2) := by decide +kernel
theorem dX5_init_25 : decode cX5_init 25 = .ok (.putfield 19, 3) := by decide +kernel
theorem dX5_init_28 : decode cX5_init 28 = .ok (.aload_n 0, 1) := by decide +kernel
theorem dX5_init_29 : decode cX5_init 29 = .ok (.iconst 0, 1) := by decide +kernel
theorem dX5_init_30 : decode cX5_init 30 = .ok (.putfield 22, 3) := by decide +kernel
theorem dX5_init_33 : decode cX5_init 33 = .ok (.aload_n 0, 1) := by decide +kernel
theorem dX5_init_34 : decode cX5_init 34 = .ok (.iconst 0, 1) := by decide +kernel
theorem dX5_init_35 : decode cX5_init 35 = .ok (.putfield 26, 3) := by decide +kernel
theorem dX5_init_38 : decode cX5_init 38 = .ok (.return_, 1) := by decide +kernel
theorem dX5_become_0 : decode cX5_become 0 = .ok (.aload_n 1, 1) := by decide +kernel
theorem dX5_become_1 : decode cX5_become 1 = .ok (.getfield 9, 3) := by decide +kernel
theorem dX5_become_4 : decode cX5_become 4 = .ok (.iconst 0, 1) := by decide +kernel
theorem dX5_become_5 : decode cX5_become 5 = .ok (.aload_n 0, 1) := by decide +kernel
theorem dX5_become_6 : decode cX5_become 6 = .ok (.getfield 9, 3) := by decide +kernel
theorem dX5_become_9 : decode cX5_become 9 = .ok (.iconst 0, 1) := by decide +kernel
theorem dX5_become_10 : decode cX5_become 10 = .ok (.bipush 60, 2) := by decide +kernel
theorem dX5_become_12 : decode cX5_become 12 = .ok (.invokestatic 29, 3) := by decide +kernel
theorem dX5_become_15 : decode cX5_become 15 = .ok (.aload_n 1, 1) := by decide +kernel
theorem dX5_become_16 : decode cX5_become 16 = .ok (.getfield 15, 3) := by decide +kernel
theorem dX5_become_19 : decode cX5_become 19 = .ok (.iconst 0, 1) := by decide +kernel
theorem dX5_become_20 : decode cX5_become 20 = .ok (.aload_n 0, 1) := by decide +kernel
theorem dX5_become_21 : decode cX5_become 21 = .ok (.getfield 15, 3) := by decide +kernel
theorem dX5_become_24 : decode cX5_become 24 = .ok (.iconst 0, 1) := by decide +kernel
theorem dX5_become_25 : decode cX5_become 25 = .ok (.bipush 60, 2) := by decide +kernel
theorem dX5_become_27 : decode cX5_become 27 = .ok (.invokestatic 29, 3) := by decide +kernel
theorem dX5_become_30 : decode cX5_become 30 = .ok (.aload_n 1, 1) := by decide +kernel
theorem dX5_become_31 : decode cX5_become 31 = .ok (.getfield 19, 3) := by decide +kernel
theorem dX5_become_34 : decode cX5_become 34 = .ok (.iconst 0, 1) := by decide +kernel
theorem dX5_become_35 : decode cX5_become 35 = .ok (.aload_n 0, 1) := by decide +kernel
theorem dX5_become_36 : decode cX5_become 36 = .ok (.getfield 19, 3) := by decide +kernel
theorem dX5_become_39 : decode cX5_become 39 = .ok (.iconst 0, 1) := by decide +kernel
theorem dX5_become_40 : decode cX5_become 40 = .ok (.bipush 60, 2) := by decide +kernel
theorem dX5_become_42 : decode cX5_become 42 = .ok (.invokestatic 29, 3) := by decide +kernel
theorem dX5_become_45 : decode cX5_become 45 = .ok (.aload_n 0, 1) := by decide +kernel
theorem dX5_become_46 : decode cX5_become 46 = .ok (.aload_n 1, 1) := by decide +kernel
theorem dX5_become_47 : decode cX5_become 47 = .ok (.getfield 22, 3) := by decide +kernel
theorem dX5_become_50 : decode cX5_become 50 = .ok (.putfield 22, 3) := by decide +kernel
theorem dX5_become_53 : decode cX5_become 53 = .ok (.aload_n 0, 1) := by decide +kernel
theorem dX5_become_54 : decode cX5_become 54 = .ok (.aload_n 1, 1) := by decide +kernel
theorem dX5_become_55 : decode cX5_become 55 = .ok (.getfield 26, 3) := by decide +kernel
theorem dX5_become_58 : decode cX5_become 58 = .ok (.putfield 26, 3) := by decide +kernel
theorem dX5_become_61 : decode cX5_become 61 = .ok (.return_, 1) := by decide +kernel
theorem dX5_isFree_0 : decode cX5_isFree 0 = .ok (.aload_n 0, 1) := by decide +kernel
theorem dX5_isFree_1 : decode cX5_isFree 1 = .ok (.getfield 9, 3) := by decide +kernel
theorem dX5_isFree_4 : decode cX5_isFree 4 = .ok (.iload_n 1, 1) := by decide +kernel
theorem dX5_isFree_5 : decode cX5_isFree 5 = .ok (.laload, 1) := by decide +kernel
theorem dX5_isFree_6 : decode cX5_isFree 6 = .ok (.lconst 0, 1) := by decide +kernel
theorem dX5_isFree_7 : decode cX5_isFree 7 = .ok (.lcmp, 1) := by decide +kernel
theorem dX5_isFree_8 : decode cX5_isFree 8 = .ok (.ifCond .ne 7, 3) := by decide +kernel
theorem dX5_isFree_11 : decode cX5_isFree 11 = .ok (.iconst 1, 1) := by decide +kernel
theorem dX5_isFree_12 : decode cX5_isFree 12 = .ok (.goto 4, 3) := by decide +kernel
theorem dX5_isFree_15 : decode cX5_isFree 15 = .ok (.iconst 0, 1) := by decide +kernel
theorem dX5_isFree_16 : decode cX5_isFree 16 = .ok (.ireturn, 1) := by decide +kernel
theorem dX5_isUnowned_0 : decode cX5_isUnowned 0 = .ok (.aload_n 0, 1) := by decide +kernel
theorem dX5_isUnowned_1 : decode cX5_isUnowned 1 = .ok (.getfield 9, 3) := by decide +kernel
theorem dX5_isUnowned_4 : decode cX5_isUnowned 4 = .ok (.iload_n 1, 1) := by decide +kernel
theorem dX5_isUnowned_5 : decode cX5_isUnowned 5 = .ok (.laload, 1) := by decide +kernel
theorem dX5_isUnowned_6 : decode cX5_isUnowned 6 = .ok (.lconst 0, 1) := by decide +kernel
theorem dX5_isUnowned_7 : decode cX5_isUnowned 7 = .ok (.lcmp, 1) := by decide +kernel
theorem dX5_isUnowned_8 : decode cX5_isUnowned 8 = .ok (.ifCond .eq 16, 3) := by decide +kernel
theorem dX5_isUnowned_11 : decode cX5_isUnowned 11 = .ok (.aload_n 0, 1) := by decide +kernel
theorem dX5_isUnowned_12 : decode cX5_isUnowned 12 = .ok (.getfield 19, 3) := by decide +kernel
theorem dX5_isUnowned_15 : decode cX5_isUnowned 15 = .ok (.iload_n 1, 1) := by decide +kernel
theorem dX5_isUnowned_16 : decode cX5_isUnowned 16 = .ok (.iaload, 1) := by decide +kernel
theorem dX5_isUnowned_17 : decode cX5_isUnowned 17 = .ok (.ifCond .ne 7, 3) := by decide +kernel
theorem dX5_isUnowned_20 : decode cX5_isUnowned 20 = .ok (.iconst 1, 1) := by decide +kernel
theorem dX5_isUnowned_21 : decode cX5_isUnowned 21 = .ok (.goto 4, 3) := by decide +kernel
theorem dX5_isUnowned_24 : decode cX5_isUnowned 24 = .ok (.iconst 0, 1) := by decide +kernel
theorem dX5_isUnowned_25 : decode cX5_isUnowned 25 = .ok (.ireturn, 1) := by decide +kernel
theorem dX5_slotOf_0 : decode cX5_slotOf 0 = .ok (.iconst 0, 1) := by decide +kernel
theorem dX5_slotOf_1 : decode cX5_slotOf 1 = .ok (.istore_n 3, 1) := by decide +kernel
theorem dX5_slotOf_2 : decode cX5_slotOf 2 = .ok (.iload_n 3, 1) := by decide +kernel
theorem dX5_slotOf_3 : decode cX5_slotOf 3 = .ok (.bipush 60, 2) := by decide +kernel
theorem dX5_slotOf_5 : decode cX5_slotOf 5 = .ok (.if_icmp .ge 22, 3) := by decide +kernel
theorem dX5_slotOf_8 : decode cX5_slotOf 8 = .ok (.aload_n 0, 1) := by decide +kernel
theorem dX5_slotOf_9 : decode cX5_slotOf 9 = .ok (.getfield 9, 3) := by decide +kernel
theorem dX5_slotOf_12 : decode cX5_slotOf 12 = .ok (.iload_n 3, 1) := by decide +kernel
theorem dX5_slotOf_13 : decode cX5_slotOf 13 = .ok (.laload, 1) := by decide +kernel
theorem dX5_slotOf_14 : decode cX5_slotOf 14 = .ok (.lload_n 1, 1) := by decide +kernel
theorem dX5_slotOf_15 : decode cX5_slotOf 15 = .ok (.lcmp, 1) := by decide +kernel
theorem dX5_slotOf_16 : decode cX5_slotOf 16 = .ok (.ifCond .ne 5, 3) := by decide +kernel
theorem dX5_slotOf_19 : decode cX5_slotOf 19 = .ok (.iload_n 3, 1) := by decide +kernel
theorem dX5_slotOf_20 : decode cX5_slotOf 20 = .ok (.ireturn, 1) := by decide +kernel
theorem dX5_slotOf_21 : decode cX5_slotOf 21 = .ok (.iinc 3 1, 3) := by decide +kernel
theorem dX5_slotOf_24 : decode cX5_slotOf 24 = .ok (.goto (-22), 3) := by decide +kernel
theorem dX5_slotOf_27 : decode cX5_slotOf 27 = .ok (.iconst (-1), 1) := by decide +kernel
theorem dX5_slotOf_28 : decode cX5_slotOf 28 = .ok (.ireturn, 1) := by decide +kernel
theorem dX5_firstSign_0 : decode cX5_firstSign 0 = .ok (.aload_n 0, 1) := by decide +kernel
theorem dX5_firstSign_1 : decode cX5_firstSign 1 = .ok (.getfield 9, 3) := by decide +kernel
theorem dX5_firstSign_4 : decode cX5_firstSign 4 = .ok (.iload_n 1, 1) := by decide +kernel
theorem dX5_firstSign_5 : decode cX5_firstSign 5 = .ok (.laload, 1) := by decide +kernel
theorem dX5_firstSign_6 : decode cX5_firstSign 6 = .ok (.iconst 3, 1) := by decide +kernel
theorem dX5_firstSign_7 : decode cX5_firstSign 7 = .ok (.aload_n 0, 1) := by decide +kernel
theorem dX5_firstSign_8 : decode cX5_firstSign 8 = .ok (.getfield 15, 3) := by decide +kernel
theorem dX5_firstSign_11 : decode cX5_firstSign 11 = .ok (.iload_n 1, 1) := by decide +kernel
theorem dX5_firstSign_12 : decode cX5_firstSign 12 = .ok (.iaload, 1) := by decide +kernel
theorem dX5_firstSign_13 : decode cX5_firstSign 13 = .ok (.iconst 1, 1) := by decide +kernel
theorem dX5_firstSign_14 : decode cX5_firstSign 14 = .ok (.isub, 1) := by decide +kernel
theorem dX5_firstSign_15 : decode cX5_firstSign 15 = .ok (.imul, 1) := by decide +kernel
theorem dX5_firstSign_16 : decode cX5_firstSign 16 = .ok (.lshr, 1) := by decide +kernel
theorem dX5_firstSign_17 : decode cX5_firstSign 17 = .ok (.ldc2_w 35, 3) := by decide +kernel
theorem dX5_firstSign_20 : decode cX5_firstSign 20 = .ok (.land, 1) := by decide +kernel
theorem dX5_firstSign_21 : decode cX5_firstSign 21 = .ok (.l2i, 1) := by decide +kernel
theorem dX5_firstSign_22 : decode cX5_firstSign 22 = .ok (.iconst 1, 1) := by decide +kernel
theorem dX5_firstSign_23 : decode cX5_firstSign 23 = .ok (.iadd, 1) := by decide +kernel
theorem dX5_firstSign_24 : decode cX5_firstSign 24 = .ok (.ireturn, 1) := by decide +kernel
theorem dX5_lastSign_0 : decode cX5_lastSign 0 = .ok (.aload_n 0, 1) := by decide +kernel
theorem dX5_lastSign_1 : decode cX5_lastSign 1 = .ok (.getfield 9, 3) := by decide +kernel
theorem dX5_lastSign_4 : decode cX5_lastSign 4 = .ok (.iload_n 1, 1) := by decide +kernel
theorem dX5_lastSign_5 : decode cX5_lastSign 5 = .ok (.laload, 1) := by decide +kernel
theorem dX5_lastSign_6 : decode cX5_lastSign 6 = .ok (.ldc2_w 35, 3) := by decide +kernel
theorem dX5_lastSign_9 : decode cX5_lastSign 9 = .ok (.land, 1) := by decide +kernel
theorem dX5_lastSign_10 : decode cX5_lastSign 10 = .ok (.l2i, 1) := by decide +kernel
theorem dX5_lastSign_11 : decode cX5_lastSign 11 = .ok (.iconst 1, 1) := by decide +kernel
theorem dX5_lastSign_12 : decode cX5_lastSign 12 = .ok (.iadd, 1) := by decide +kernel
theorem dX5_lastSign_13 : decode cX5_lastSign 13 = .ok (.ireturn, 1) := by decide +kernel
theorem dX5_loseOwner_0 : decode cX5_loseOwner 0 = .ok (.iconst 0, 1) := by decide +kernel
theorem dX5_loseOwner_1 : decode cX5_loseOwner 1 = .ok (.istore_n 2, 1) := by decide +kernel
theorem dX5_loseOwner_2 : decode cX5_loseOwner 2 = .ok (.iload_n 2, 1) := by decide +kernel
theorem dX5_loseOwner_3 : decode cX5_loseOwner 3 = .ok (.aload_n 1, 1) := by decide +kernel
theorem dX5_loseOwner_4 : decode cX5_loseOwner 4 = .ok (.getfield 37, 3) := by decide +kernel
theorem dX5_loseOwner_7 : decode cX5_loseOwner 7 = .ok (.if_icmp .ge 35, 3) := by decide +kernel
theorem dX5_loseOwner_10 : decode cX5_loseOwner 10 = .ok (.aload_n 0, 1) := by decide +kernel
theorem dX5_loseOwner_11 : decode cX5_loseOwner 11 = .ok (.aload_n 1, 1) := by decide +kernel
theorem dX5_loseOwner_12 : decode cX5_loseOwner 12 = .ok (.getfield 42, 3) := by decide +kernel
theorem dX5_loseOwner_15 : decode cX5_loseOwner 15 = .ok (.iload_n 2, 1) := by decide +kernel
theorem dX5_loseOwner_16 : decode cX5_loseOwner 16 = .ok (.laload, 1) := by decide +kernel
theorem dX5_loseOwner_17 : decode cX5_loseOwner 17 = .ok (.invokevirtual 43, 3) := by decide +kernel
theorem dX5_loseOwner_20 : decode cX5_loseOwner 20 = .ok (.istore_n 3, 1) := by decide +kernel
theorem dX5_loseOwner_21 : decode cX5_loseOwner 21 = .ok (.iload_n 3, 1) := by decide +kernel
theorem dX5_loseOwner_22 : decode cX5_loseOwner 22 = .ok (.iconst (-1), 1) := by decide +kernel
theorem dX5_loseOwner_23 : decode cX5_loseOwner 23 = .ok (.if_icmp .eq 13, 3) := by decide +kernel
theorem dX5_loseOwner_26 : decode cX5_loseOwner 26 = .ok (.aload_n 0, 1) := by decide +kernel
theorem dX5_loseOwner_27 : decode cX5_loseOwner 27 = .ok (.getfield 19, 3) := by decide +kernel
theorem dX5_loseOwner_30 : decode cX5_loseOwner 30 = .ok (.iload_n 3, 1) := by decide +kernel
theorem dX5_loseOwner_31 : decode cX5_loseOwner 31 = .ok (.dup2, 1) := by decide +kernel
theorem dX5_loseOwner_32 : decode cX5_loseOwner 32 = .ok (.iaload, 1) := by decide +kernel
theorem dX5_loseOwner_33 : decode cX5_loseOwner 33 = .ok (.iconst 1, 1) := by decide +kernel
theorem dX5_loseOwner_34 : decode cX5_loseOwner 34 = .ok (.isub, 1) := by decide +kernel
theorem dX5_loseOwner_35 : decode cX5_loseOwner 35 = .ok (.iastore, 1) := by decide +kernel
theorem dX5_loseOwner_36 : decode cX5_loseOwner 36 = .ok (.iinc 2 1, 3) := by decide +kernel
theorem dX5_loseOwner_39 : decode cX5_loseOwner 39 = .ok (.goto (-37), 3) := by decide +kernel
theorem dX5_loseOwner_42 : decode cX5_loseOwner 42 = .ok (.return_, 1) := by decide +kernel
theorem dX5_getOwner_0 : decode cX5_getOwner 0 = .ok (.iconst 0, 1) := by decide +kernel
theorem dX5_getOwner_1 : decode cX5_getOwner 1 = .ok (.istore_n 2, 1) := by decide +kernel
theorem dX5_getOwner_2 : decode cX5_getOwner 2 = .ok (.iload_n 2, 1) := by decide +kernel
theorem dX5_getOwner_3 : decode cX5_getOwner 3 = .ok (.aload_n 1, 1) := by decide +kernel
theorem dX5_getOwner_4 : decode cX5_getOwner 4 = .ok (.getfield 37, 3) := by decide +kernel
theorem dX5_getOwner_7 : decode cX5_getOwner 7 = .ok (.if_icmp .ge 57, 3) := by decide +kernel
theorem dX5_getOwner_10 : decode cX5_getOwner 10 = .ok (.aload_n 0, 1) := by decide +kernel
theorem dX5_getOwner_11 : decode cX5_getOwner 11 = .ok (.aload_n 1, 1) := by decide +kernel
theorem dX5_getOwner_12 : decode cX5_getOwner 12 = .ok (.getfield 42, 3) := by decide +kernel
theorem dX5_getOwner_15 : decode cX5_getOwner 15 = .ok (.iload_n 2, 1) := by decide +kernel
theorem dX5_getOwner_16 : decode cX5_getOwner 16 = .ok (.laload, 1) := by decide +kernel
theorem dX5_getOwner_17 : decode cX5_getOwner 17 = .ok (.invokevirtual 43, 3) := by decide +kernel
theorem dX5_getOwner_20 : decode cX5_getOwner 20 = .ok (.istore_n 3, 1) := by decide +kernel
theorem dX5_getOwner_21 : decode cX5_getOwner 21 = .ok (.iload_n 3, 1) := by decide +kernel
theorem dX5_getOwner_22 : decode cX5_getOwner 22 = .ok (.iconst (-1), 1) := by decide +kernel
theorem dX5_getOwner_23 : decode cX5_getOwner 23 = .ok (.if_icmp .ne 20, 3) := by decide +kernel
theorem dX5_getOwner_26 : decode cX5_getOwner 26 = .ok (.aload_n 0, 1) := by decide +kernel
theorem dX5_getOwner_27 : decode cX5_getOwner 27 = .ok (.aload_n 1, 1) := by decide +kernel
theorem dX5_getOwner_28 : decode cX5_getOwner 28 = .ok (.getfield 42, 3) := by decide +kernel
theorem dX5_getOwner_31 : decode cX5_getOwner 31 = .ok (.iload_n 2, 1) := by decide +kernel
theorem dX5_getOwner_32 : decode cX5_getOwner 32 = .ok (.laload, 1) := by decide +kernel
theorem dX5_getOwner_33 : decode cX5_getOwner 33 = .ok (.aload_n 1, 1) := by decide +kernel
theorem dX5_getOwner_34 : decode cX5_getOwner 34 = .ok (.getfield 47, 3) := by decide +kernel
theorem dX5_getOwner_37 : decode cX5_getOwner 37 = .ok (.iload_n 2, 1) := by decide +kernel
theorem dX5_getOwner_38 : decode cX5_getOwner 38 = .ok (.iaload, 1) := by decide +kernel
theorem dX5_getOwner_39 : decode cX5_getOwner 39 = .ok (.invokevirtual 48, 3) := by decide +kernel
theorem dX5_getOwner_42 : decode cX5_getOwner 42 = .ok (.istore_n 3, 1) := by decide +kernel
theorem dX5_getOwner_43 : decode cX5_getOwner 43 = .ok (.iload_n 3, 1) := by decide +kernel
theorem dX5_getOwner_44 : decode cX5_getOwner 44 = .ok (.iconst (-1), 1) := by decide +kernel
theorem dX5_getOwner_45 : decode cX5_getOwner 45 = .ok (.if_icmp .eq 13, 3) := by decide +kernel
theorem dX5_getOwner_48 : decode cX5_getOwner 48 = .ok (.aload_n 0, 1) := by decide +kernel
theorem dX5_getOwner_49 : decode cX5_getOwner 49 = .ok (.getfield 19, 3) := by decide +kernel
theorem dX5_getOwner_52 : decode cX5_getOwner 52 = .ok (.iload_n 3, 1) := by decide +kernel
theorem dX5_getOwner_53 : decode cX5_getOwner 53 = .ok (.dup2, 1) := by decide +kernel
theorem dX5_getOwner_54 : decode cX5_getOwner 54 = .ok (.iaload, 1) := by decide +kernel
theorem dX5_getOwner_55 : decode cX5_getOwner 55 = .ok (.iconst 1, 1) := by decide +kernel
theorem dX5_getOwner_56 : decode cX5_getOwner 56 = .ok (.iadd, 1) := by decide +kernel
theorem dX5_getOwner_57 : decode cX5_getOwner 57 = .ok (.iastore, 1) := by decide +kernel
theorem dX5_getOwner_58 : decode cX5_getOwner 58 = .ok (.iinc 2 1, 3) := by decide +kernel
theorem dX5_getOwner_61 : decode cX5_getOwner 61 = .ok (.goto (-59), 3) := by decide +kernel
theorem dX5_getOwner_64 : decode cX5_getOwner 64 = .ok (.return_, 1) := by decide +kernel
theorem dX5_takeIn_0 : decode cX5_takeIn 0 = .ok (.aload_n 0, 1) := by decide +kernel
theorem dX5_takeIn_1 : decode cX5_takeIn 1 = .ok (.lconst 0, 1) := by decide +kernel
theorem dX5_takeIn_2 : decode cX5_takeIn 2 = .ok (.invokevirtual 43, 3) := by decide +kernel
theorem dX5_takeIn_5 : decode cX5_takeIn 5 = .ok (.istore 4, 2) := by decide +kernel
theorem dX5_takeIn_7 : decode cX5_takeIn 7 = .ok (.iload 4, 2) := by decide +kernel
theorem dX5_takeIn_9 : decode cX5_takeIn 9 = .ok (.iconst (-1), 1) := by decide +kernel
theorem dX5_takeIn_10 : decode cX5_takeIn 10 = .ok (.if_icmp .eq 37, 3) := by decide +kernel
theorem dX5_takeIn_13 : decode cX5_takeIn 13 = .ok (.aload_n 0, 1) := by decide +kernel
theorem dX5_takeIn_14 : decode cX5_takeIn 14 = .ok (.getfield 9, 3) := by decide +kernel
theorem dX5_takeIn_17 : decode cX5_takeIn 17 = .ok (.iload 4, 2) := by decide +kernel
theorem dX5_takeIn_19 : decode cX5_takeIn 19 = .ok (.lload_n 1, 1) := by decide +kernel
theorem dX5_takeIn_20 : decode cX5_takeIn 20 = .ok (.lastore, 1) := by decide +kernel
theorem dX5_takeIn_21 : decode cX5_takeIn 21 = .ok (.aload_n 0, 1) := by decide +kernel
theorem dX5_takeIn_22 : decode cX5_takeIn 22 = .ok (.getfield 15, 3) := by decide +kernel
theorem dX5_takeIn_25 : decode cX5_takeIn 25 = .ok (.iload 4, 2) := by decide +kernel
theorem dX5_takeIn_27 : decode cX5_takeIn 27 = .ok (.iload_n 3, 1) := by decide +kernel
theorem dX5_takeIn_28 : decode cX5_takeIn 28 = .ok (.iastore, 1) := by decide +kernel
theorem dX5_takeIn_29 : decode cX5_takeIn 29 = .ok (.aload_n 0, 1) := by decide +kernel
theorem dX5_takeIn_30 : decode cX5_takeIn 30 = .ok (.getfield 19, 3) := by decide +kernel
theorem dX5_takeIn_33 : decode cX5_takeIn 33 = .ok (.iload 4, 2) := by decide +kernel
theorem dX5_takeIn_35 : decode cX5_takeIn 35 = .ok (.iconst 0, 1) := by decide +kernel
theorem dX5_takeIn_36 : decode cX5_takeIn 36 = .ok (.iastore, 1) := by decide +kernel
theorem dX5_takeIn_37 : decode cX5_takeIn 37 = .ok (.aload_n 0, 1) := by decide +kernel
theorem dX5_takeIn_38 : decode cX5_takeIn 38 = .ok (.dup, 1) := by decide +kernel
theorem dX5_takeIn_39 : decode cX5_takeIn 39 = .ok (.getfield 22, 3) := by decide +kernel
theorem dX5_takeIn_42 : decode cX5_takeIn 42 = .ok (.iconst 1, 1) := by decide +kernel
theorem dX5_takeIn_43 : decode cX5_takeIn 43 = .ok (.iadd, 1) := by decide +kernel
theorem dX5_takeIn_44 : decode cX5_takeIn 44 = .ok (.putfield 22, 3) := by decide +kernel
theorem dX5_takeIn_47 : decode cX5_takeIn 47 = .ok (.iload 4, 2) := by decide +kernel
theorem dX5_takeIn_49 : decode cX5_takeIn 49 = .ok (.ireturn, 1) := by decide +kernel
theorem dX5_removeUnownedBut_0 : decode cX5_removeUnownedBut 0 = .ok (.iconst 0, 1) := by decide +kernel
theorem dX5_removeUnownedBut_1 : decode cX5_removeUnownedBut 1 = .ok (.istore_n 2, 1) := by decide +kernel
theorem dX5_removeUnownedBut_2 : decode cX5_removeUnownedBut 2 = .ok (.iconst 0, 1) := by decide +kernel
theorem dX5_removeUnownedBut_3 : decode cX5_removeUnownedBut 3 = .ok (.istore_n 3, 1) := by decide +kernel
theorem dX5_removeUnownedBut_4 : decode cX5_removeUnownedBut 4 = .ok (.iload_n 3, 1) := by decide +kernel
theorem dX5_removeUnownedBut_5 : decode cX5_removeUnownedBut 5 = .ok (.bipush 60, 2) := by decide +kernel
theorem dX5_removeUnownedBut_7 : decode cX5_removeUnownedBut 7 = .ok (.if_icmp .ge 40, 3) := by decide +kernel
theorem dX5_removeUnownedBut_10 : decode cX5_removeUnownedBut 10 = .ok (.aload_n 0, 1) := by decide +kernel
theorem dX5_removeUnownedBut_11 : decode cX5_removeUnownedBut 11 = .ok (.iload_n 3, 1) := by decide +kernel
theorem dX5_removeUnownedBut_12 : decode cX5_removeUnownedBut 12 = .ok (.invokevirtual 52, 3) := by decide +kernel
theorem dX5_removeUnownedBut_15 : decode cX5_removeUnownedBut 15 = .ok (.ifCond .eq 26, 3) := by decide +kernel
theorem dX5_removeUnownedBut_18 : decode cX5_removeUnownedBut 18 = .ok (.aload_n 1, 1) := by decide +kernel
theorem dX5_removeUnownedBut_19 : decode cX5_removeUnownedBut 19 = .ok (.aload_n 0, 1) := by decide +kernel
theorem dX5_removeUnownedBut_20 : decode cX5_removeUnownedBut 20 = .ok (.getfield 9, 3) := by decide +kernel
theorem dX5_removeUnownedBut_23 : decode cX5_removeUnownedBut 23 = .ok (.iload_n 3, 1) := by decide +kernel
theorem dX5_removeUnownedBut_24 : decode cX5_removeUnownedBut 24 = .ok (.laload, 1) := by decide +kernel
theorem dX5_removeUnownedBut_25 : decode cX5_removeUnownedBut 25 = .ok (.invokevirtual 56, 3) := by decide +kernel
theorem dX5_removeUnownedBut_28 : decode cX5_removeUnownedBut 28 = .ok (.ifCond .ne 13, 3) := by decide +kernel
theorem dX5_removeUnownedBut_31 : decode cX5_removeUnownedBut 31 = .ok (.aload_n 0, 1) := by decide +kernel
theorem dX5_removeUnownedBut_32 : decode cX5_removeUnownedBut 32 = .ok (.getfield 9, 3) := by decide +kernel
theorem dX5_removeUnownedBut_35 : decode cX5_removeUnownedBut 35 = .ok (.iload_n 3, 1) := by decide +kernel
theorem dX5_removeUnownedBut_36 : decode cX5_removeUnownedBut 36 = .ok (.lconst 0, 1) := by decide +kernel
theorem dX5_removeUnownedBut_37 : decode cX5_removeUnownedBut 37 = .ok (.lastore, 1) := by decide +kernel
theorem dX5_removeUnownedBut_38 : decode cX5_removeUnownedBut 38 = .ok (.iinc 2 1, 3) := by decide +kernel
theorem dX5_removeUnownedBut_41 : decode cX5_removeUnownedBut 41 = .ok (.iinc 3 1, 3) := by decide +kernel
theorem dX5_removeUnownedBut_44 : decode cX5_removeUnownedBut 44 = .ok (.goto (-40), 3) := by decide +kernel
theorem dX5_removeUnownedBut_47 : decode cX5_removeUnownedBut 47 = .ok (.aload_n 0, 1) := by decide +kernel
theorem dX5_removeUnownedBut_48 : decode cX5_removeUnownedBut 48 = .ok (.dup, 1) := by decide +kernel
theorem dX5_removeUnownedBut_49 : decode cX5_removeUnownedBut 49 = .ok (.getfield 26, 3) := by decide +kernel
theorem dX5_removeUnownedBut_52 : decode cX5_removeUnownedBut 52 = .ok (.iload_n 2, 1) := by decide +kernel
theorem dX5_removeUnownedBut_53 : decode cX5_removeUnownedBut 53 = .ok (.iadd, 1) := by decide +kernel
theorem dX5_removeUnownedBut_54 : decode cX5_removeUnownedBut 54 = .ok (.putfield 26, 3) := by decide +kernel
theorem dX5_removeUnownedBut_57 : decode cX5_removeUnownedBut 57 = .ok (.iload_n 2, 1) := by decide +kernel
theorem dX5_removeUnownedBut_58 : decode cX5_removeUnownedBut 58 = .ok (.ireturn, 1) := by decide +kernel
theorem dX5_hasRoomFor_0 : decode cX5_hasRoomFor 0 = .ok (.aload_n 0, 1) := by decide +kernel
theorem dX5_hasRoomFor_1 : decode cX5_hasRoomFor 1 = .ok (.aload_n 1, 1) := by decide +kernel
theorem dX5_hasRoomFor_2 : decode cX5_hasRoomFor 2 = .ok (.invokevirtual 60, 3) := by decide +kernel
theorem dX5_hasRoomFor_5 : decode cX5_hasRoomFor 5 = .ok (.bipush 60, 2) := by decide +kernel
theorem dX5_hasRoomFor_7 : decode cX5_hasRoomFor 7 = .ok (.aload_n 0, 1) := by decide +kernel
theorem dX5_hasRoomFor_8 : decode cX5_hasRoomFor 8 = .ok (.invokevirtual 64, 3) := by decide +kernel
theorem dX5_hasRoomFor_11 : decode cX5_hasRoomFor 11 = .ok (.isub, 1) := by decide +kernel
theorem dX5_hasRoomFor_12 : decode cX5_hasRoomFor 12 = .ok (.if_icmp .gt 23, 3) := by decide +kernel
theorem dX5_hasRoomFor_15 : decode cX5_hasRoomFor 15 = .ok (.aload_n 0, 1) := by decide +kernel
theorem dX5_hasRoomFor_16 : decode cX5_hasRoomFor 16 = .ok (.aload_n 1, 1) := by decide +kernel
theorem dX5_hasRoomFor_17 : decode cX5_hasRoomFor 17 = .ok (.invokevirtual 67, 3) := by decide +kernel
theorem dX5_hasRoomFor_20 : decode cX5_hasRoomFor 20 = .ok (.sipush 150, 3) := by decide +kernel
theorem dX5_hasRoomFor_23 : decode cX5_hasRoomFor 23 = .ok (.aload_n 0, 1) := by decide +kernel
theorem dX5_hasRoomFor_24 : decode cX5_hasRoomFor 24 = .ok (.invokevirtual 70, 3) := by decide +kernel
theorem dX5_hasRoomFor_27 : decode cX5_hasRoomFor 27 = .ok (.isub, 1) := by decide +kernel
theorem dX5_hasRoomFor_28 : decode cX5_hasRoomFor 28 = .ok (.if_icmp .gt 7, 3) := by decide +kernel
theorem dX5_hasRoomFor_31 : decode cX5_hasRoomFor 31 = .ok (.iconst 1, 1) := by decide +kernel
theorem dX5_hasRoomFor_32 : decode cX5_hasRoomFor 32 = .ok (.goto 4, 3) := by decide +kernel
theorem dX5_hasRoomFor_35 : decode cX5_hasRoomFor 35 = .ok (.iconst 0, 1) := by decide +kernel
theorem dX5_hasRoomFor_36 : decode cX5_hasRoomFor 36 = .ok (.ireturn, 1) := by decide +kernel
theorem dX5_slotsNeededBy_0 : decode cX5_slotsNeededBy 0 = .ok (.iconst 0, 1) := by decide +kernel
theorem dX5_slotsNeededBy_1 : decode cX5_slotsNeededBy 1 = .ok (.istore_n 2, 1) := by decide +kernel
theorem dX5_slotsNeededBy_2 : decode cX5_slotsNeededBy 2 = .ok (.iconst 0, 1) := by decide +kernel
theorem dX5_slotsNeededBy_3 : decode cX5_slotsNeededBy 3 = .ok (.istore_n 3, 1) := by decide +kernel
theorem dX5_slotsNeededBy_4 : decode cX5_slotsNeededBy 4 = .ok (.iload_n 3, 1) := by decide +kernel
theorem dX5_slotsNeededBy_5 : decode cX5_slotsNeededBy 5 = .ok (.aload_n 1, 1) := by decide +kernel
theorem dX5_slotsNeededBy_6 : decode cX5_slotsNeededBy 6 = .ok (.getfield 37, 3) := by decide +kernel
theorem dX5_slotsNeededBy_9 : decode cX5_slotsNeededBy 9 = .ok (.if_icmp .ge 40, 3) := by decide +kernel
theorem dX5_slotsNeededBy_12 : decode cX5_slotsNeededBy 12 = .ok (.aload_n 1, 1) := by decide +kernel
theorem dX5_slotsNeededBy_13 : decode cX5_slotsNeededBy 13 = .ok (.iload_n 3, 1) := by decide +kernel
theorem dX5_slotsNeededBy_14 : decode cX5_slotsNeededBy 14 = .ok (.aload_n 1, 1) := by decide +kernel
theorem dX5_slotsNeededBy_15 : decode cX5_slotsNeededBy 15 = .ok (.getfield 42, 3) := by decide +kernel
end
section
theorem dX5_slotsNeededBy_18 : decode cX5_slotsNeededBy 18 = .ok (.iload_n 3, 1) := by decide +kernel
theorem dX5_slotsNeededBy_19 : decode cX5_slotsNeededBy 19 = .ok (.laload, 1) := by decide +kernel
theorem dX5_slotsNeededBy_20 : decode cX5_slotsNeededBy 20 = .ok (.invokevirtual 73, 3) := by decide +kernel
theorem dX5_slotsNeededBy_23 : decode cX5_slotsNeededBy 23 = .ok (.ifCond .ne 20, 3) := by decide +kernel
theorem dX5_slotsNeededBy_26 : decode cX5_slotsNeededBy 26 = .ok (.aload_n 0, 1) := by decide +kernel
theorem dX5_slotsNeededBy_27 : decode cX5_slotsNeededBy 27 = .ok (.aload_n 1, 1) := by decide +kernel
theorem dX5_slotsNeededBy_28 : decode cX5_slotsNeededBy 28 = .ok (.getfield 42, 3) := by decide +kernel
theorem dX5_slotsNeededBy_31 : decode cX5_slotsNeededBy 31 = .ok (.iload_n 3, 1) := by decide +kernel
theorem dX5_slotsNeededBy_32 : decode cX5_slotsNeededBy 32 = .ok (.laload, 1) := by decide +kernel
theorem dX5_slotsNeededBy_33 : decode cX5_slotsNeededBy 33 = .ok (.invokevirtual 43, 3) := by decide +kernel
theorem dX5_slotsNeededBy_36 : decode cX5_slotsNeededBy 36 = .ok (.iconst (-1), 1) := by decide +kernel
theorem dX5_slotsNeededBy_37 : decode cX5_slotsNeededBy 37 = .ok (.if_icmp .ne 6, 3) := by decide +kernel
theorem dX5_slotsNeededBy_40 : decode cX5_slotsNeededBy 40 = .ok (.iinc 2 1, 3) := by decide +kernel
theorem dX5_slotsNeededBy_43 : decode cX5_slotsNeededBy 43 = .ok (.iinc 3 1, 3) := by decide +kernel
theorem dX5_slotsNeededBy_46 : decode cX5_slotsNeededBy 46 = .ok (.goto (-42), 3) := by decide +kernel
theorem dX5_slotsNeededBy_49 : decode cX5_slotsNeededBy 49 = .ok (.iload_n 2, 1) := by decide +kernel
theorem dX5_slotsNeededBy_50 : decode cX5_slotsNeededBy 50 = .ok (.ireturn, 1) := by decide +kernel
theorem dX5_roomNeededBy_0 : decode cX5_roomNeededBy 0 = .ok (.iconst 0, 1) := by decide +kernel
theorem dX5_roomNeededBy_1 : decode cX5_roomNeededBy 1 = .ok (.istore_n 2, 1) := by decide +kernel
theorem dX5_roomNeededBy_2 : decode cX5_roomNeededBy 2 = .ok (.iconst 0, 1) := by decide +kernel
theorem dX5_roomNeededBy_3 : decode cX5_roomNeededBy 3 = .ok (.istore_n 3, 1) := by decide +kernel
theorem dX5_roomNeededBy_4 : decode cX5_roomNeededBy 4 = .ok (.iload_n 3, 1) := by decide +kernel
theorem dX5_roomNeededBy_5 : decode cX5_roomNeededBy 5 = .ok (.aload_n 1, 1) := by decide +kernel
theorem dX5_roomNeededBy_6 : decode cX5_roomNeededBy 6 = .ok (.getfield 37, 3) := by decide +kernel
theorem dX5_roomNeededBy_9 : decode cX5_roomNeededBy 9 = .ok (.if_icmp .ge 46, 3) := by decide +kernel
theorem dX5_roomNeededBy_12 : decode cX5_roomNeededBy 12 = .ok (.aload_n 1, 1) := by decide +kernel
theorem dX5_roomNeededBy_13 : decode cX5_roomNeededBy 13 = .ok (.iload_n 3, 1) := by decide +kernel
theorem dX5_roomNeededBy_14 : decode cX5_roomNeededBy 14 = .ok (.aload_n 1, 1) := by decide +kernel
theorem dX5_roomNeededBy_15 : decode cX5_roomNeededBy 15 = .ok (.getfield 42, 3) := by decide +kernel
theorem dX5_roomNeededBy_18 : decode cX5_roomNeededBy 18 = .ok (.iload_n 3, 1) := by decide +kernel
theorem dX5_roomNeededBy_19 : decode cX5_roomNeededBy 19 = .ok (.laload, 1) := by decide +kernel
theorem dX5_roomNeededBy_20 : decode cX5_roomNeededBy 20 = .ok (.invokevirtual 73, 3) := by decide +kernel
theorem dX5_roomNeededBy_23 : decode cX5_roomNeededBy 23 = .ok (.ifCond .ne 26, 3) := by decide +kernel
theorem dX5_roomNeededBy_26 : decode cX5_roomNeededBy 26 = .ok (.aload_n 0, 1) := by decide +kernel
theorem dX5_roomNeededBy_27 : decode cX5_roomNeededBy 27 = .ok (.aload_n 1, 1) := by decide +kernel
theorem dX5_roomNeededBy_28 : decode cX5_roomNeededBy 28 = .ok (.getfield 42, 3) := by decide +kernel
theorem dX5_roomNeededBy_31 : decode cX5_roomNeededBy 31 = .ok (.iload_n 3, 1) := by decide +kernel
theorem dX5_roomNeededBy_32 : decode cX5_roomNeededBy 32 = .ok (.laload, 1) := by decide +kernel
theorem dX5_roomNeededBy_33 : decode cX5_roomNeededBy 33 = .ok (.invokevirtual 43, 3) := by decide +kernel
theorem dX5_roomNeededBy_36 : decode cX5_roomNeededBy 36 = .ok (.iconst (-1), 1) := by decide +kernel
theorem dX5_roomNeededBy_37 : decode cX5_roomNeededBy 37 = .ok (.if_icmp .ne 12, 3) := by decide +kernel
theorem dX5_roomNeededBy_40 : decode cX5_roomNeededBy 40 = .ok (.iload_n 2, 1) := by decide +kernel
theorem dX5_roomNeededBy_41 : decode cX5_roomNeededBy 41 = .ok (.aload_n 1, 1) := by decide +kernel
theorem dX5_roomNeededBy_42 : decode cX5_roomNeededBy 42 = .ok (.getfield 47, 3) := by decide +kernel
theorem dX5_roomNeededBy_45 : decode cX5_roomNeededBy 45 = .ok (.iload_n 3, 1) := by decide +kernel
theorem dX5_roomNeededBy_46 : decode cX5_roomNeededBy 46 = .ok (.iaload, 1) := by decide +kernel
theorem dX5_roomNeededBy_47 : decode cX5_roomNeededBy 47 = .ok (.iadd, 1) := by decide +kernel
theorem dX5_roomNeededBy_48 : decode cX5_roomNeededBy 48 = .ok (.istore_n 2, 1) := by decide +kernel
theorem dX5_roomNeededBy_49 : decode cX5_roomNeededBy 49 = .ok (.iinc 3 1, 3) := by decide +kernel
theorem dX5_roomNeededBy_52 : decode cX5_roomNeededBy 52 = .ok (.goto (-48), 3) := by decide +kernel
theorem dX5_roomNeededBy_55 : decode cX5_roomNeededBy 55 = .ok (.iload_n 2, 1) := by decide +kernel
theorem dX5_roomNeededBy_56 : decode cX5_roomNeededBy 56 = .ok (.ireturn, 1) := by decide +kernel
theorem dX5_pieces_0 : decode cX5_pieces 0 = .ok (.iconst 0, 1) := by decide +kernel
theorem dX5_pieces_1 : decode cX5_pieces 1 = .ok (.istore_n 1, 1) := by decide +kernel
theorem dX5_pieces_2 : decode cX5_pieces 2 = .ok (.iconst 0, 1) := by decide +kernel
theorem dX5_pieces_3 : decode cX5_pieces 3 = .ok (.istore_n 2, 1) := by decide +kernel
theorem dX5_pieces_4 : decode cX5_pieces 4 = .ok (.iload_n 2, 1) := by decide +kernel
theorem dX5_pieces_5 : decode cX5_pieces 5 = .ok (.bipush 60, 2) := by decide +kernel
theorem dX5_pieces_7 : decode cX5_pieces 7 = .ok (.if_icmp .ge 20, 3) := by decide +kernel
theorem dX5_pieces_10 : decode cX5_pieces 10 = .ok (.aload_n 0, 1) := by decide +kernel
theorem dX5_pieces_11 : decode cX5_pieces 11 = .ok (.iload_n 2, 1) := by decide +kernel
theorem dX5_pieces_12 : decode cX5_pieces 12 = .ok (.invokevirtual 77, 3) := by decide +kernel
theorem dX5_pieces_15 : decode cX5_pieces 15 = .ok (.ifCond .ne 6, 3) := by decide +kernel
theorem dX5_pieces_18 : decode cX5_pieces 18 = .ok (.iinc 1 1, 3) := by decide +kernel
theorem dX5_pieces_21 : decode cX5_pieces 21 = .ok (.iinc 2 1, 3) := by decide +kernel
theorem dX5_pieces_24 : decode cX5_pieces 24 = .ok (.goto (-20), 3) := by decide +kernel
theorem dX5_pieces_27 : decode cX5_pieces 27 = .ok (.iload_n 1, 1) := by decide +kernel
theorem dX5_pieces_28 : decode cX5_pieces 28 = .ok (.ireturn, 1) := by decide +kernel
theorem dX5_size_0 : decode cX5_size 0 = .ok (.iconst 0, 1) := by decide +kernel
theorem dX5_size_1 : decode cX5_size 1 = .ok (.istore_n 1, 1) := by decide +kernel
theorem dX5_size_2 : decode cX5_size 2 = .ok (.iconst 0, 1) := by decide +kernel
theorem dX5_size_3 : decode cX5_size 3 = .ok (.istore_n 2, 1) := by decide +kernel
theorem dX5_size_4 : decode cX5_size 4 = .ok (.iload_n 2, 1) := by decide +kernel
theorem dX5_size_5 : decode cX5_size 5 = .ok (.bipush 60, 2) := by decide +kernel
theorem dX5_size_7 : decode cX5_size 7 = .ok (.if_icmp .ge 26, 3) := by decide +kernel
theorem dX5_size_10 : decode cX5_size 10 = .ok (.aload_n 0, 1) := by decide +kernel
theorem dX5_size_11 : decode cX5_size 11 = .ok (.iload_n 2, 1) := by decide +kernel
theorem dX5_size_12 : decode cX5_size 12 = .ok (.invokevirtual 77, 3) := by decide +kernel
theorem dX5_size_15 : decode cX5_size 15 = .ok (.ifCond .ne 12, 3) := by decide +kernel
theorem dX5_size_18 : decode cX5_size 18 = .ok (.iload_n 1, 1) := by decide +kernel
theorem dX5_size_19 : decode cX5_size 19 = .ok (.aload_n 0, 1) := by decide +kernel
theorem dX5_size_20 : decode cX5_size 20 = .ok (.getfield 15, 3) := by decide +kernel
theorem dX5_size_23 : decode cX5_size 23 = .ok (.iload_n 2, 1) := by decide +kernel
theorem dX5_size_24 : decode cX5_size 24 = .ok (.iaload, 1) := by decide +kernel
theorem dX5_size_25 : decode cX5_size 25 = .ok (.iadd, 1) := by decide +kernel
theorem dX5_size_26 : decode cX5_size 26 = .ok (.istore_n 1, 1) := by decide +kernel
theorem dX5_size_27 : decode cX5_size 27 = .ok (.iinc 2 1, 3) := by decide +kernel
theorem dX5_size_30 : decode cX5_size 30 = .ok (.goto (-26), 3) := by decide +kernel
theorem dX5_size_33 : decode cX5_size 33 = .ok (.iload_n 1, 1) := by decide +kernel
theorem dX5_size_34 : decode cX5_size 34 = .ok (.ireturn, 1) := by decide +kernel
theorem dX5_unownedPieces_0 : decode cX5_unownedPieces 0 = .ok (.iconst 0, 1) := by decide +kernel
theorem dX5_unownedPieces_1 : decode cX5_unownedPieces 1 = .ok (.istore_n 1, 1) := by decide +kernel
theorem dX5_unownedPieces_2 : decode cX5_unownedPieces 2 = .ok (.iconst 0, 1) := by decide +kernel
theorem dX5_unownedPieces_3 : decode cX5_unownedPieces 3 = .ok (.istore_n 2, 1) := by decide +kernel
theorem dX5_unownedPieces_4 : decode cX5_unownedPieces 4 = .ok (.iload_n 2, 1) := by decide +kernel
theorem dX5_unownedPieces_5 : decode cX5_unownedPieces 5 = .ok (.bipush 60, 2) := by decide +kernel
theorem dX5_unownedPieces_7 : decode cX5_unownedPieces 7 = .ok (.if_icmp .ge 20, 3) := by decide +kernel
theorem dX5_unownedPieces_10 : decode cX5_unownedPieces 10 = .ok (.aload_n 0, 1) := by decide +kernel
theorem dX5_unownedPieces_11 : decode cX5_unownedPieces 11 = .ok (.iload_n 2, 1) := by decide +kernel
theorem dX5_unownedPieces_12 : decode cX5_unownedPieces 12 = .ok (.invokevirtual 52, 3) := by decide +kernel
theorem dX5_unownedPieces_15 : decode cX5_unownedPieces 15 = .ok (.ifCond .eq 6, 3) := by decide +kernel
theorem dX5_unownedPieces_18 : decode cX5_unownedPieces 18 = .ok (.iinc 1 1, 3) := by decide +kernel
theorem dX5_unownedPieces_21 : decode cX5_unownedPieces 21 = .ok (.iinc 2 1, 3) := by decide +kernel
theorem dX5_unownedPieces_24 : decode cX5_unownedPieces 24 = .ok (.goto (-20), 3) := by decide +kernel
theorem dX5_unownedPieces_27 : decode cX5_unownedPieces 27 = .ok (.iload_n 1, 1) := by decide +kernel
theorem dX5_unownedPieces_28 : decode cX5_unownedPieces 28 = .ok (.ireturn, 1) := by decide +kernel
theorem dX5_unownedSize_0 : decode cX5_unownedSize 0 = .ok (.iconst 0, 1) := by decide +kernel
theorem dX5_unownedSize_1 : decode cX5_unownedSize 1 = .ok (.istore_n 1, 1) := by decide +kernel
theorem dX5_unownedSize_2 : decode cX5_unownedSize 2 = .ok (.iconst 0, 1) := by decide +kernel
theorem dX5_unownedSize_3 : decode cX5_unownedSize 3 = .ok (.istore_n 2, 1) := by decide +kernel
theorem dX5_unownedSize_4 : decode cX5_unownedSize 4 = .ok (.iload_n 2, 1) := by decide +kernel
theorem dX5_unownedSize_5 : decode cX5_unownedSize 5 = .ok (.bipush 60, 2) := by decide +kernel
theorem dX5_unownedSize_7 : decode cX5_unownedSize 7 = .ok (.if_icmp .ge 26, 3) := by decide +kernel
theorem dX5_unownedSize_10 : decode cX5_unownedSize 10 = .ok (.aload_n 0, 1) := by decide +kernel
theorem dX5_unownedSize_11 : decode cX5_unownedSize 11 = .ok (.iload_n 2, 1) := by decide +kernel
theorem dX5_unownedSize_12 : decode cX5_unownedSize 12 = .ok (.invokevirtual 52, 3) := by decide +kernel
theorem dX5_unownedSize_15 : decode cX5_unownedSize 15 = .ok (.ifCond .eq 12, 3) := by decide +kernel
theorem dX5_unownedSize_18 : decode cX5_unownedSize 18 = .ok (.iload_n 1, 1) := by decide +kernel
theorem dX5_unownedSize_19 : decode cX5_unownedSize 19 = .ok (.aload_n 0, 1) := by decide +kernel
theorem dX5_unownedSize_20 : decode cX5_unownedSize 20 = .ok (.getfield 15, 3) := by decide +kernel
theorem dX5_unownedSize_23 : decode cX5_unownedSize 23 = .ok (.iload_n 2, 1) := by decide +kernel
theorem dX5_unownedSize_24 : decode cX5_unownedSize 24 = .ok (.iaload, 1) := by decide +kernel
theorem dX5_unownedSize_25 : decode cX5_unownedSize 25 = .ok (.iadd, 1) := by decide +kernel
theorem dX5_unownedSize_26 : decode cX5_unownedSize 26 = .ok (.istore_n 1, 1) := by decide +kernel
theorem dX5_unownedSize_27 : decode cX5_unownedSize 27 = .ok (.iinc 2 1, 3) := by decide +kernel
theorem dX5_unownedSize_30 : decode cX5_unownedSize 30 = .ok (.goto (-26), 3) := by decide +kernel
theorem dX5_unownedSize_33 : decode cX5_unownedSize 33 = .ok (.iload_n 1, 1) := by decide +kernel
theorem dX5_unownedSize_34 : decode cX5_unownedSize 34 = .ok (.ireturn, 1) := by decide +kernel
theorem dX5_mostOwners_0 : decode cX5_mostOwners 0 = .ok (.iconst 0, 1) := by decide +kernel
theorem dX5_mostOwners_1 : decode cX5_mostOwners 1 = .ok (.istore_n 1, 1) := by decide +kernel
theorem dX5_mostOwners_2 : decode cX5_mostOwners 2 = .ok (.iconst 0, 1) := by decide +kernel
theorem dX5_mostOwners_3 : decode cX5_mostOwners 3 = .ok (.istore_n 2, 1) := by decide +kernel
theorem dX5_mostOwners_4 : decode cX5_mostOwners 4 = .ok (.iload_n 2, 1) := by decide +kernel
theorem dX5_mostOwners_5 : decode cX5_mostOwners 5 = .ok (.bipush 60, 2) := by decide +kernel
theorem dX5_mostOwners_7 : decode cX5_mostOwners 7 = .ok (.if_icmp .ge 28, 3) := by decide +kernel
theorem dX5_mostOwners_10 : decode cX5_mostOwners 10 = .ok (.aload_n 0, 1) := by decide +kernel
theorem dX5_mostOwners_11 : decode cX5_mostOwners 11 = .ok (.iload_n 2, 1) := by decide +kernel
theorem dX5_mostOwners_12 : decode cX5_mostOwners 12 = .ok (.invokevirtual 77, 3) := by decide +kernel
theorem dX5_mostOwners_15 : decode cX5_mostOwners 15 = .ok (.ifCond .ne 14, 3) := by decide +kernel
theorem dX5_mostOwners_18 : decode cX5_mostOwners 18 = .ok (.iload_n 1, 1) := by decide +kernel
theorem dX5_mostOwners_19 : decode cX5_mostOwners 19 = .ok (.aload_n 0, 1) := by decide +kernel
theorem dX5_mostOwners_20 : decode cX5_mostOwners 20 = .ok (.getfield 19, 3) := by decide +kernel
theorem dX5_mostOwners_23 : decode cX5_mostOwners 23 = .ok (.iload_n 2, 1) := by decide +kernel
theorem dX5_mostOwners_24 : decode cX5_mostOwners 24 = .ok (.iaload, 1) := by decide +kernel
theorem dX5_mostOwners_25 : decode cX5_mostOwners 25 = .ok (.invokestatic 80, 3) := by decide +kernel
theorem dX5_mostOwners_28 : decode cX5_mostOwners 28 = .ok (.istore_n 1, 1) := by decide +kernel
theorem dX5_mostOwners_29 : decode cX5_mostOwners 29 = .ok (.iinc 2 1, 3) := by decide +kernel
theorem dX5_mostOwners_32 : decode cX5_mostOwners 32 = .ok (.goto (-28), 3) := by decide +kernel
theorem dX5_mostOwners_35 : decode cX5_mostOwners 35 = .ok (.iload_n 1, 1) := by decide +kernel
theorem dX5_mostOwners_36 : decode cX5_mostOwners 36 = .ok (.ireturn, 1) := by decide +kernel
theorem dX6_init_0 : decode cX6_init 0 = .ok (.aload_n 0, 1) := by decide +kernel
theorem dX6_init_1 : decode cX6_init 1 = .ok (.invokespecial 1, 3) := by decide +kernel
theorem dX6_init_4 : decode cX6_init 4 = .ok (.aload_n 0, 1) := by decide +kernel
theorem dX6_init_5 : decode cX6_init 5 = .ok (.new 7, 3) := by decide +kernel
theorem dX6_init_8 : decode cX6_init 8 = .ok (.dup, 1) := by decide +kernel
theorem dX6_init_9 : decode cX6_init 9 = .ok (.invokespecial 9, 3) := by decide +kernel
theorem dX6_init_12 : decode cX6_init 12 = .ok (.putfield 10, 3) := by decide +kernel
theorem dX6_init_15 : decode cX6_init 15 = .ok (.aload_n 0, 1) := by decide +kernel
theorem dX6_init_16 : decode cX6_init 16 = .ok (.new 16, 3) := by decide +kernel
theorem dX6_init_19 : decode cX6_init 19 = .ok (.dup, 1) := by decide +kernel
theorem dX6_init_20 : decode cX6_init 20 = .ok (.invokespecial 18, 3) := by decide +kernel
theorem dX6_init_23 : decode cX6_init 23 = .ok (.putfield 19, 3) := by decide +kernel
theorem dX6_init_26 : decode cX6_init 26 = .ok (.aload_n 0, 1) := by decide +kernel
theorem dX6_init_27 : decode cX6_init 27 = .ok (.new 23, 3) := by decide +kernel
theorem dX6_init_30 : decode cX6_init 30 = .ok (.dup, 1) := by decide +kernel
theorem dX6_init_31 : decode cX6_init 31 = .ok (.invokespecial 25, 3) := by decide +kernel
theorem dX6_init_34 : decode cX6_init 34 = .ok (.putfield 26, 3) := by decide +kernel
theorem dX6_init_37 : decode cX6_init 37 = .ok (.aload_n 0, 1) := by decide +kernel
theorem dX6_init_38 : decode cX6_init 38 = .ok (.new 7, 3) := by decide +kernel
theorem dX6_init_41 : decode cX6_init 41 = .ok (.dup, 1) := by decide +kernel
theorem dX6_init_42 : decode cX6_init 42 = .ok (.invokespecial 9, 3) := by decide +kernel
theorem dX6_init_45 : decode cX6_init 45 = .ok (.putfield 30, 3) := by decide +kernel
theorem dX6_init_48 : decode cX6_init 48 = .ok (.aload_n 0, 1) := by decide +kernel
theorem dX6_init_49 : decode cX6_init 49 = .ok (.new 33, 3) := by decide +kernel
theorem dX6_init_52 : decode cX6_init 52 = .ok (.dup, 1) := by decide +kernel
theorem dX6_init_53 : decode cX6_init 53 = .ok (.invokespecial 35, 3) := by decide +kernel
theorem dX6_init_56 : decode cX6_init 56 = .ok (.putfield 36, 3) := by decide +kernel
theorem dX6_init_59 : decode cX6_init 59 = .ok (.aload_n 0, 1) := by decide +kernel
theorem dX6_init_60 : decode cX6_init 60 = .ok (.new 40, 3) := by decide +kernel
theorem dX6_init_63 : decode cX6_init 63 = .ok (.dup, 1) := by decide +kernel
theorem dX6_init_64 : decode cX6_init 64 = .ok (.invokespecial 42, 3) := by decide +kernel
theorem dX6_init_67 : decode cX6_init 67 = .ok (.putfield 43, 3) := by decide +kernel
theorem dX6_init_70 : decode cX6_init 70 = .ok (.aload_n 0, 1) := by decide +kernel
theorem dX6_init_71 : decode cX6_init 71 = .ok (.sipush 160, 3) := by decide +kernel
theorem dX6_init_74 : decode cX6_init 74 = .ok (.newarray .long, 2) := by decide +kernel
theorem dX6_init_76 : decode cX6_init 76 = .ok (.putfield 47, 3) := by decide +kernel
theorem dX6_init_79 : decode cX6_init 79 = .ok (.return_, 1) := by decide +kernel
theorem dX6_put_0 : decode cX6_put 0 = .ok (.iload_n 1, 1) := by decide +kernel
theorem dX6_put_1 : decode cX6_put 1 = .ok (.invokestatic 51, 3) := by decide +kernel
theorem dX6_put_4 : decode cX6_put 4 = .ok (.aload_n 0, 1) := by decide +kernel
theorem dX6_put_5 : decode cX6_put 5 = .ok (.invokevirtual 55, 3) := by decide +kernel
theorem dX6_put_8 : decode cX6_put 8 = .ok (.aload_n 0, 1) := by decide +kernel
theorem dX6_put_9 : decode cX6_put 9 = .ok (.getfield 36, 3) := by decide +kernel
theorem dX6_put_12 : decode cX6_put 12 = .ok (.invokevirtual 58, 3) := by decide +kernel
theorem dX6_put_15 : decode cX6_put 15 = .ok (.aload_n 0, 1) := by decide +kernel
theorem dX6_put_16 : decode cX6_put 16 = .ok (.getfield 26, 3) := by decide +kernel
theorem dX6_put_19 : decode cX6_put 19 = .ok (.aload_n 0, 1) := by decide +kernel
theorem dX6_put_20 : decode cX6_put 20 = .ok (.getfield 36, 3) := by decide +kernel
theorem dX6_put_23 : decode cX6_put 23 = .ok (.invokevirtual 61, 3) := by decide +kernel
theorem dX6_put_26 : decode cX6_put 26 = .ok (.aload_n 0, 1) := by decide +kernel
theorem dX6_put_27 : decode cX6_put 27 = .ok (.iload_n 1, 1) := by decide +kernel
theorem dX6_put_28 : decode cX6_put 28 = .ok (.invokevirtual 65, 3) := by decide +kernel
theorem dX6_put_31 : decode cX6_put 31 = .ok (.istore_n 2, 1) := by decide +kernel
theorem dX6_put_32 : decode cX6_put 32 = .ok (.aload_n 0, 1) := by decide +kernel
theorem dX6_put_33 : decode cX6_put 33 = .ok (.getfield 26, 3) := by decide +kernel
theorem dX6_put_36 : decode cX6_put 36 = .ok (.invokevirtual 69, 3) := by decide +kernel
theorem dX6_put_39 : decode cX6_put 39 = .ok (.iload_n 2, 1) := by decide +kernel
theorem dX6_put_40 : decode cX6_put 40 = .ok (.ireturn, 1) := by decide +kernel
theorem dX6_takeOut_0 : decode cX6_takeOut 0 = .ok (.iload_n 1, 1) := by decide +kernel
theorem dX6_takeOut_1 : decode cX6_takeOut 1 = .ok (.invokestatic 51, 3) := by decide +kernel
theorem dX6_takeOut_4 : decode cX6_takeOut 4 = .ok (.aload_n 0, 1) := by decide +kernel
theorem dX6_takeOut_5 : decode cX6_takeOut 5 = .ok (.getfield 10, 3) := by decide +kernel
theorem dX6_takeOut_8 : decode cX6_takeOut 8 = .ok (.getfield 70, 3) := by decide +kernel
theorem dX6_takeOut_11 : decode cX6_takeOut 11 = .ok (.iload_n 1, 1) := by decide +kernel
theorem dX6_takeOut_12 : decode cX6_takeOut 12 = .ok (.aaload, 1) := by decide +kernel
theorem dX6_takeOut_13 : decode cX6_takeOut 13 = .ok (.astore 4, 2) := by decide +kernel
theorem dX6_takeOut_15 : decode cX6_takeOut 15 = .ok (.aload 4, 2) := by decide +kernel
theorem dX6_takeOut_17 : decode cX6_takeOut 17 = .ok (.iload_n 2, 1) := by decide +kernel
theorem dX6_takeOut_18 : decode cX6_takeOut 18 = .ok (.invokestatic 98, 3) := by decide +kernel
theorem dX6_takeOut_21 : decode cX6_takeOut 21 = .ok (.iload_n 3, 1) := by decide +kernel
theorem dX6_takeOut_22 : decode cX6_takeOut 22 = .ok (.iconst 1, 1) := by decide +kernel
theorem dX6_takeOut_23 : decode cX6_takeOut 23 = .ok (.if_icmp .lt 14, 3) := by decide +kernel
theorem dX6_takeOut_26 : decode cX6_takeOut 26 = .ok (.iload_n 3, 1) := by decide +kernel
theorem dX6_takeOut_27 : decode cX6_takeOut 27 = .ok (.aload 4, 2) := by decide +kernel
theorem dX6_takeOut_29 : decode cX6_takeOut 29 = .ok (.getfield 74, 3) := by decide +kernel
theorem dX6_takeOut_32 : decode cX6_takeOut 32 = .ok (.iload_n 2, 1) := by decide +kernel
theorem dX6_takeOut_33 : decode cX6_takeOut 33 = .ok (.isub, 1) := by decide +kernel
theorem dX6_takeOut_34 : decode cX6_takeOut 34 = .ok (.if_icmp .le 13, 3) := by decide +kernel
theorem dX6_takeOut_37 : decode cX6_takeOut 37 = .ok (.new 102, 3) := by decide +kernel
theorem dX6_takeOut_40 : decode cX6_takeOut 40 = .ok (.dup, 1) := by decide +kernel
theorem dX6_takeOut_41 : decode cX6_takeOut 41 = .ok (.ldc 104, 2) := by decide +kernel
theorem dX6_takeOut_43 : decode cX6_takeOut 43 = .ok (.invokespecial 106, 3) := by decide +kernel
theorem dX6_takeOut_46 : decode cX6_takeOut 46 = .ok (.athrow, 1) := by decide +kernel
theorem dX6_takeOut_47 : decode cX6_takeOut 47 = .ok (.aload_n 0, 1) := by decide +kernel
theorem dX6_takeOut_48 : decode cX6_takeOut 48 = .ok (.getfield 36, 3) := by decide +kernel
theorem dX6_takeOut_51 : decode cX6_takeOut 51 = .ok (.invokevirtual 58, 3) := by decide +kernel
theorem dX6_takeOut_54 : decode cX6_takeOut 54 = .ok (.aload_n 0, 1) := by decide +kernel
theorem dX6_takeOut_55 : decode cX6_takeOut 55 = .ok (.getfield 36, 3) := by decide +kernel
theorem dX6_takeOut_58 : decode cX6_takeOut 58 = .ok (.aload 4, 2) := by decide +kernel
theorem dX6_takeOut_60 : decode cX6_takeOut 60 = .ok (.iconst 0, 1) := by decide +kernel
theorem dX6_takeOut_61 : decode cX6_takeOut 61 = .ok (.iload_n 2, 1) := by decide +kernel
theorem dX6_takeOut_62 : decode cX6_takeOut 62 = .ok (.invokevirtual 94, 3) := by decide +kernel
theorem dX6_takeOut_65 : decode cX6_takeOut 65 = .ok (.aload_n 0, 1) := by decide +kernel
theorem dX6_takeOut_66 : decode cX6_takeOut 66 = .ok (.getfield 36, 3) := by decide +kernel
theorem dX6_takeOut_69 : decode cX6_takeOut 69 = .ok (.aload 4, 2) := by decide +kernel
theorem dX6_takeOut_71 : decode cX6_takeOut 71 = .ok (.iload_n 2, 1) := by decide +kernel
theorem dX6_takeOut_72 : decode cX6_takeOut 72 = .ok (.iload_n 3, 1) := by decide +kernel
theorem dX6_takeOut_73 : decode cX6_takeOut 73 = .ok (.iadd, 1) := by decide +kernel
theorem dX6_takeOut_74 : decode cX6_takeOut 74 = .ok (.aload 4, 2) := by decide +kernel
theorem dX6_takeOut_76 : decode cX6_takeOut 76 = .ok (.getfield 74, 3) := by decide +kernel
theorem dX6_takeOut_79 : decode cX6_takeOut 79 = .ok (.invokevirtual 94, 3) := by decide +kernel
theorem dX6_takeOut_82 : decode cX6_takeOut 82 = .ok (.aload_n 0, 1) := by decide +kernel
theorem dX6_takeOut_83 : decode cX6_takeOut 83 = .ok (.iload_n 1, 1) := by decide +kernel
theorem dX6_takeOut_84 : decode cX6_takeOut 84 = .ok (.invokevirtual 65, 3) := by decide +kernel
theorem dX6_takeOut_87 : decode cX6_takeOut 87 = .ok (.ireturn, 1) := by decide +kernel
theorem dX6_copy_0 : decode cX6_copy 0 = .ok (.iload_n 1, 1) := by decide +kernel
theorem dX6_copy_1 : decode cX6_copy 1 = .ok (.invokestatic 51, 3) := by decide +kernel
theorem dX6_copy_4 : decode cX6_copy 4 = .ok (.iload_n 2, 1) := by decide +kernel
theorem dX6_copy_5 : decode cX6_copy 5 = .ok (.invokestatic 51, 3) := by decide +kernel
theorem dX6_copy_8 : decode cX6_copy 8 = .ok (.aload_n 0, 1) := by decide +kernel
theorem dX6_copy_9 : decode cX6_copy 9 = .ok (.getfield 36, 3) := by decide +kernel
theorem dX6_copy_12 : decode cX6_copy 12 = .ok (.aload_n 0, 1) := by decide +kernel
theorem dX6_copy_13 : decode cX6_copy 13 = .ok (.getfield 10, 3) := by decide +kernel
theorem dX6_copy_16 : decode cX6_copy 16 = .ok (.getfield 70, 3) := by decide +kernel
theorem dX6_copy_19 : decode cX6_copy 19 = .ok (.iload_n 2, 1) := by decide +kernel
theorem dX6_copy_20 : decode cX6_copy 20 = .ok (.aaload, 1) := by decide +kernel
theorem dX6_copy_21 : decode cX6_copy 21 = .ok (.invokevirtual 107, 3) := by decide +kernel
theorem dX6_copy_24 : decode cX6_copy 24 = .ok (.aload_n 0, 1) := by decide +kernel
theorem dX6_copy_25 : decode cX6_copy 25 = .ok (.iload_n 1, 1) := by decide +kernel
theorem dX6_copy_26 : decode cX6_copy 26 = .ok (.invokevirtual 65, 3) := by decide +kernel
theorem dX6_copy_29 : decode cX6_copy 29 = .ok (.ireturn, 1) := by decide +kernel
theorem dX6_rotate_0 : decode cX6_rotate 0 = .ok (.iload_n 1, 1) := by decide +kernel
theorem dX6_rotate_1 : decode cX6_rotate 1 = .ok (.invokestatic 51, 3) := by decide +kernel
theorem dX6_rotate_4 : decode cX6_rotate 4 = .ok (.aload_n 0, 1) := by decide +kernel
theorem dX6_rotate_5 : decode cX6_rotate 5 = .ok (.getfield 10, 3) := by decide +kernel
theorem dX6_rotate_8 : decode cX6_rotate 8 = .ok (.getfield 70, 3) := by decide +kernel
theorem dX6_rotate_11 : decode cX6_rotate 11 = .ok (.iload_n 1, 1) := by decide +kernel
theorem dX6_rotate_12 : decode cX6_rotate 12 = .ok (.aaload, 1) := by decide +kernel
theorem dX6_rotate_13 : decode cX6_rotate 13 = .ok (.astore_n 3, 1) := by decide +kernel
theorem dX6_rotate_14 : decode cX6_rotate 14 = .ok (.iload_n 2, 1) := by decide +kernel
theorem dX6_rotate_15 : decode cX6_rotate 15 = .ok (.iconst 1, 1) := by decide +kernel
theorem dX6_rotate_16 : decode cX6_rotate 16 = .ok (.if_icmp .lt 11, 3) := by decide +kernel
theorem dX6_rotate_19 : decode cX6_rotate 19 = .ok (.iload_n 2, 1) := by decide +kernel
theorem dX6_rotate_20 : decode cX6_rotate 20 = .ok (.aload_n 3, 1) := by decide +kernel
theorem dX6_rotate_21 : decode cX6_rotate 21 = .ok (.getfield 74, 3) := by decide +kernel
theorem dX6_rotate_24 : decode cX6_rotate 24 = .ok (.if_icmp .le 13, 3) := by decide +kernel
theorem dX6_rotate_27 : decode cX6_rotate 27 = .ok (.new 102, 3) := by decide +kernel
theorem dX6_rotate_30 : decode cX6_rotate 30 = .ok (.dup, 1) := by decide +kernel
theorem dX6_rotate_31 : decode cX6_rotate 31 = .ok (.ldc 104, 2) := by decide +kernel
theorem dX6_rotate_33 : decode cX6_rotate 33 = .ok (.invokespecial 106, 3) := by decide +kernel
theorem dX6_rotate_36 : decode cX6_rotate 36 = .ok (.athrow, 1) := by decide +kernel
theorem dX6_rotate_37 : decode cX6_rotate 37 = .ok (.aload_n 0, 1) := by decide +kernel
theorem dX6_rotate_38 : decode cX6_rotate 38 = .ok (.getfield 36, 3) := by decide +kernel
theorem dX6_rotate_41 : decode cX6_rotate 41 = .ok (.invokevirtual 58, 3) := by decide +kernel
theorem dX6_rotate_44 : decode cX6_rotate 44 = .ok (.aload_n 0, 1) := by decide +kernel
theorem dX6_rotate_45 : decode cX6_rotate 45 = .ok (.getfield 36, 3) := by decide +kernel
theorem dX6_rotate_48 : decode cX6_rotate 48 = .ok (.aload_n 3, 1) := by decide +kernel
theorem dX6_rotate_49 : decode cX6_rotate 49 = .ok (.iload_n 2, 1) := by decide +kernel
theorem dX6_rotate_50 : decode cX6_rotate 50 = .ok (.aload_n 3, 1) := by decide +kernel
theorem dX6_rotate_51 : decode cX6_rotate 51 = .ok (.getfield 74, 3) := by decide +kernel
theorem dX6_rotate_54 : decode cX6_rotate 54 = .ok (.invokevirtual 94, 3) := by decide +kernel
theorem dX6_rotate_57 : decode cX6_rotate 57 = .ok (.aload_n 0, 1) := by decide +kernel
theorem dX6_rotate_58 : decode cX6_rotate 58 = .ok (.getfield 36, 3) := by decide +kernel
theorem dX6_rotate_61 : decode cX6_rotate 61 = .ok (.aload_n 3, 1) := by decide +kernel
theorem dX6_rotate_62 : decode cX6_rotate 62 = .ok (.iconst 0, 1) := by decide +kernel
theorem dX6_rotate_63 : decode cX6_rotate 63 = .ok (.iload_n 2, 1) := by decide +kernel
theorem dX6_rotate_64 : decode cX6_rotate 64 = .ok (.invokevirtual 94, 3) := by decide +kernel
theorem dX6_rotate_67 : decode cX6_rotate 67 = .ok (.aload_n 0, 1) := by decide +kernel
theorem dX6_rotate_68 : decode cX6_rotate 68 = .ok (.iload_n 1, 1) := by decide +kernel
theorem dX6_rotate_69 : decode cX6_rotate 69 = .ok (.invokevirtual 65, 3) := by decide +kernel
theorem dX6_rotate_72 : decode cX6_rotate 72 = .ok (.ireturn, 1) := by decide +kernel
theorem dX6_drop_0 : decode cX6_drop 0 = .ok (.iload_n 1, 1) := by decide +kernel
theorem dX6_drop_1 : decode cX6_drop 1 = .ok (.invokestatic 51, 3) := by decide +kernel
theorem dX6_drop_4 : decode cX6_drop 4 = .ok (.aload_n 0, 1) := by decide +kernel
theorem dX6_drop_5 : decode cX6_drop 5 = .ok (.getfield 10, 3) := by decide +kernel
theorem dX6_drop_8 : decode cX6_drop 8 = .ok (.getfield 70, 3) := by decide +kernel
theorem dX6_drop_11 : decode cX6_drop 11 = .ok (.iload_n 1, 1) := by decide +kernel
theorem dX6_drop_12 : decode cX6_drop 12 = .ok (.aaload, 1) := by decide +kernel
theorem dX6_drop_13 : decode cX6_drop 13 = .ok (.astore_n 2, 1) := by decide +kernel
theorem dX6_drop_14 : decode cX6_drop 14 = .ok (.aload_n 2, 1) := by decide +kernel
theorem dX6_drop_15 : decode cX6_drop 15 = .ok (.getfield 74, 3) := by decide +kernel
theorem dX6_drop_18 : decode cX6_drop 18 = .ok (.istore_n 3, 1) := by decide +kernel
theorem dX6_drop_19 : decode cX6_drop 19 = .ok (.aload_n 0, 1) := by decide +kernel
theorem dX6_drop_20 : decode cX6_drop 20 = .ok (.getfield 19, 3) := by decide +kernel
theorem dX6_drop_23 : decode cX6_drop 23 = .ok (.aload_n 0, 1) := by decide +kernel
theorem dX6_drop_24 : decode cX6_drop 24 = .ok (.getfield 10, 3) := by decide +kernel
theorem dX6_drop_27 : decode cX6_drop 27 = .ok (.invokevirtual 110, 3) := by decide +kernel
theorem dX6_drop_30 : decode cX6_drop 30 = .ok (.aload_n 0, 1) := by decide +kernel
theorem dX6_drop_31 : decode cX6_drop 31 = .ok (.getfield 10, 3) := by decide +kernel
theorem dX6_drop_34 : decode cX6_drop 34 = .ok (.getfield 114, 3) := by decide +kernel
theorem dX6_drop_37 : decode cX6_drop 37 = .ok (.aload_n 2, 1) := by decide +kernel
theorem dX6_drop_38 : decode cX6_drop 38 = .ok (.invokevirtual 118, 3) := by decide +kernel
theorem dX6_drop_41 : decode cX6_drop 41 = .ok (.aload_n 2, 1) := by decide +kernel
theorem dX6_drop_42 : decode cX6_drop 42 = .ok (.invokevirtual 58, 3) := by decide +kernel
theorem dX6_drop_45 : decode cX6_drop 45 = .ok (.iload_n 3, 1) := by decide +kernel
theorem dX6_drop_46 : decode cX6_drop 46 = .ok (.ireturn, 1) := by decide +kernel
theorem dX6_sweep_0 : decode cX6_sweep 0 = .ok (.aload_n 0, 1) := by decide +kernel
theorem dX6_sweep_1 : decode cX6_sweep 1 = .ok (.getfield 19, 3) := by decide +kernel
theorem dX6_sweep_4 : decode cX6_sweep 4 = .ok (.aload_n 0, 1) := by decide +kernel
theorem dX6_sweep_5 : decode cX6_sweep 5 = .ok (.getfield 10, 3) := by decide +kernel
theorem dX6_sweep_8 : decode cX6_sweep 8 = .ok (.invokevirtual 110, 3) := by decide +kernel
theorem dX6_sweep_11 : decode cX6_sweep 11 = .ok (.aload_n 0, 1) := by decide +kernel
theorem dX6_sweep_12 : decode cX6_sweep 12 = .ok (.getfield 36, 3) := by decide +kernel
theorem dX6_sweep_15 : decode cX6_sweep 15 = .ok (.invokevirtual 58, 3) := by decide +kernel
theorem dX6_sweep_18 : decode cX6_sweep 18 = .ok (.aload_n 0, 1) := by decide +kernel
theorem dX6_sweep_19 : decode cX6_sweep 19 = .ok (.getfield 10, 3) := by decide +kernel
theorem dX6_sweep_22 : decode cX6_sweep 22 = .ok (.getfield 114, 3) := by decide +kernel
theorem dX6_sweep_25 : decode cX6_sweep 25 = .ok (.aload_n 0, 1) := by decide +kernel
theorem dX6_sweep_26 : decode cX6_sweep 26 = .ok (.getfield 36, 3) := by decide +kernel
theorem dX6_sweep_29 : decode cX6_sweep 29 = .ok (.invokevirtual 123, 3) := by decide +kernel
theorem dX6_sweep_32 : decode cX6_sweep 32 = .ok (.ireturn, 1) := by decide +kernel
theorem dX6_set_0 : decode cX6_set 0 = .ok (.iload_n 1, 1) := by decide +kernel
theorem dX6_set_1 : decode cX6_set 1 = .ok (.invokestatic 127, 3) := by decide +kernel
theorem dX6_set_4 : decode cX6_set 4 = .ok (.iload_n 1, 1) := by decide +kernel
theorem dX6_set_5 : decode cX6_set 5 = .ok (.iload_n 2, 1) := by decide +kernel
theorem dX6_set_6 : decode cX6_set 6 = .ok (.invokestatic 130, 3) := by decide +kernel
theorem dX6_set_9 : decode cX6_set 9 = .ok (.aload_n 0, 1) := by decide +kernel
theorem dX6_set_10 : decode cX6_set 10 = .ok (.getfield 10, 3) := by decide +kernel
theorem dX6_set_13 : decode cX6_set 13 = .ok (.getfield 134, 3) := by decide +kernel
theorem dX6_set_16 : decode cX6_set 16 = .ok (.getfield 137, 3) := by decide +kernel
theorem dX6_set_19 : decode cX6_set 19 = .ok (.iload_n 1, 1) := by decide +kernel
theorem dX6_set_20 : decode cX6_set 20 = .ok (.iaload, 1) := by decide +kernel
theorem dX6_set_21 : decode cX6_set 21 = .ok (.istore_n 3, 1) := by decide +kernel
theorem dX6_set_22 : decode cX6_set 22 = .ok (.aload_n 0, 1) := by decide +kernel
theorem dX6_set_23 : decode cX6_set 23 = .ok (.getfield 19, 3) := by decide +kernel
theorem dX6_set_26 : decode cX6_set 26 = .ok (.aload_n 0, 1) := by decide +kernel
theorem dX6_set_27 : decode cX6_set 27 = .ok (.getfield 10, 3) := by decide +kernel
theorem dX6_set_30 : decode cX6_set 30 = .ok (.invokevirtual 110, 3) := by decide +kernel
theorem dX6_set_33 : decode cX6_set 33 = .ok (.aload_n 0, 1) := by decide +kernel
theorem dX6_set_34 : decode cX6_set 34 = .ok (.getfield 10, 3) := by decide +kernel
theorem dX6_set_37 : decode cX6_set 37 = .ok (.getfield 134, 3) := by decide +kernel
theorem dX6_set_40 : decode cX6_set 40 = .ok (.getfield 137, 3) := by decide +kernel
theorem dX6_set_43 : decode cX6_set 43 = .ok (.iload_n 1, 1) := by decide +kernel
theorem dX6_set_44 : decode cX6_set 44 = .ok (.iload_n 2, 1) := by decide +kernel
theorem dX6_set_45 : decode cX6_set 45 = .ok (.iastore, 1) := by decide +kernel
theorem dX6_set_46 : decode cX6_set 46 = .ok (.iload_n 3, 1) := by decide +kernel
theorem dX6_set_47 : decode cX6_set 47 = .ok (.ireturn, 1) := by decide +kernel
theorem dX6_append_0 : decode cX6_append 0 = .ok (.iload_n 1, 1) := by decide +kernel
theorem dX6_append_1 : decode cX6_append 1 = .ok (.bipush 33, 2) := by decide +kernel
theorem dX6_append_3 : decode cX6_append 3 = .ok (.if_icmp .lt 9, 3) := by decide +kernel
theorem dX6_append_6 : decode cX6_append 6 = .ok (.iload_n 1, 1) := by decide +kernel
theorem dX6_append_7 : decode cX6_append 7 = .ok (.bipush 126, 2) := by decide +kernel
theorem dX6_append_9 : decode cX6_append 9 = .ok (.if_icmp .le 13, 3) := by decide +kernel
theorem dX6_append_12 : decode cX6_append 12 = .ok (.new 102, 3) := by decide +kernel
theorem dX6_append_15 : decode cX6_append 15 = .ok (.dup, 1) := by decide +kernel
theorem dX6_append_16 : decode cX6_append 16 = .ok (.ldc 141, 2) := by decide +kernel
theorem dX6_append_18 : decode cX6_append 18 = .ok (.invokespecial 106, 3) := by decide +kernel
theorem dX6_append_21 : decode cX6_append 21 = .ok (.athrow, 1) := by decide +kernel
theorem dX6_append_22 : decode cX6_append 22 = .ok (.aload_n 0, 1) := by decide +kernel
theorem dX6_append_23 : decode cX6_append 23 = .ok (.getfield 26, 3) := by decide +kernel
theorem dX6_append_26 : decode cX6_append 26 = .ok (.getfield 143, 3) := by decide +kernel
theorem dX6_append_29 : decode cX6_append 29 = .ok (.bipush 60, 2) := by decide +kernel
theorem dX6_append_31 : decode cX6_append 31 = .ok (.if_icmp .lt 13, 3) := by decide +kernel
theorem dX6_append_34 : decode cX6_append 34 = .ok (.new 89, 3) := by decide +kernel
theorem dX6_append_37 : decode cX6_append 37 = .ok (.dup, 1) := by decide +kernel
theorem dX6_append_38 : decode cX6_append 38 = .ok (.ldc 144, 2) := by decide +kernel
theorem dX6_append_40 : decode cX6_append 40 = .ok (.invokespecial 93, 3) := by decide +kernel
theorem dX6_append_43 : decode cX6_append 43 = .ok (.athrow, 1) := by decide +kernel
theorem dX6_append_44 : decode cX6_append 44 = .ok (.aload_n 0, 1) := by decide +kernel
theorem dX6_append_45 : decode cX6_append 45 = .ok (.getfield 26, 3) := by decide +kernel
theorem dX6_append_48 : decode cX6_append 48 = .ok (.iload_n 1, 1) := by decide +kernel
theorem dX6_append_49 : decode cX6_append 49 = .ok (.invokevirtual 146, 3) := by decide +kernel
theorem dX6_append_52 : decode cX6_append 52 = .ok (.aload_n 0, 1) := by decide +kernel
theorem dX6_append_53 : decode cX6_append 53 = .ok (.getfield 26, 3) := by decide +kernel
theorem dX6_append_56 : decode cX6_append 56 = .ok (.getfield 143, 3) := by decide +kernel
theorem dX6_append_59 : decode cX6_append 59 = .ok (.ireturn, 1) := by decide +kernel
theorem dX6_clearBuffer_0 : decode cX6_clearBuffer 0 = .ok (.aload_n 0, 1) := by decide +kernel
theorem dX6_clearBuffer_1 : decode cX6_clearBuffer 1 = .ok (.getfield 26, 3) := by decide +kernel
theorem dX6_clearBuffer_4 : decode cX6_clearBuffer 4 = .ok (.getfield 143, 3) := by decide +kernel
theorem dX6_clearBuffer_7 : decode cX6_clearBuffer 7 = .ok (.istore_n 1, 1) := by decide +kernel
theorem dX6_clearBuffer_8 : decode cX6_clearBuffer 8 = .ok (.aload_n 0, 1) := by decide +kernel
theorem dX6_clearBuffer_9 : decode cX6_clearBuffer 9 = .ok (.getfield 26, 3) := by decide +kernel
theorem dX6_clearBuffer_12 : decode cX6_clearBuffer 12 = .ok (.invokevirtual 69, 3) := by decide +kernel
theorem dX6_clearBuffer_15 : decode cX6_clearBuffer 15 = .ok (.iload_n 1, 1) := by decide +kernel
theorem dX6_clearBuffer_16 : decode cX6_clearBuffer 16 = .ok (.ireturn, 1) := by decide +kernel
theorem dX6_sign_0 : decode cX6_sign 0 = .ok (.iload_n 1, 1) := by decide +kernel
theorem dX6_sign_1 : decode cX6_sign 1 = .ok (.invokestatic 51, 3) := by decide +kernel
theorem dX6_sign_4 : decode cX6_sign 4 = .ok (.aload_n 0, 1) := by decide +kernel
theorem dX6_sign_5 : decode cX6_sign 5 = .ok (.getfield 10, 3) := by decide +kernel
theorem dX6_sign_8 : decode cX6_sign 8 = .ok (.getfield 70, 3) := by decide +kernel
theorem dX6_sign_11 : decode cX6_sign 11 = .ok (.iload_n 1, 1) := by decide +kernel
theorem dX6_sign_12 : decode cX6_sign 12 = .ok (.aaload, 1) := by decide +kernel
theorem dX6_sign_13 : decode cX6_sign 13 = .ok (.astore 4, 2) := by decide +kernel
theorem dX6_sign_15 : decode cX6_sign 15 = .ok (.aload 4, 2) := by decide +kernel
theorem dX6_sign_17 : decode cX6_sign 17 = .ok (.iload_n 2, 1) := by decide +kernel
theorem dX6_sign_18 : decode cX6_sign 18 = .ok (.invokestatic 98, 3) := by decide +kernel
theorem dX6_sign_21 : decode cX6_sign 21 = .ok (.iload_n 3, 1) := by decide +kernel
theorem dX6_sign_22 : decode cX6_sign 22 = .ok (.iconst 3, 1) := by decide +kernel
theorem dX6_sign_23 : decode cX6_sign 23 = .ok (.invokestatic 160, 3) := by decide +kernel
theorem dX6_sign_26 : decode cX6_sign 26 = .ok (.iload_n 3, 1) := by decide +kernel
theorem dX6_sign_27 : decode cX6_sign 27 = .ok (.tableswitch 54 0 2 #[25, 33, 47], 25) := by decide +kernel
theorem dX6_sign_52 : decode cX6_sign 52 = .ok (.aload 4, 2) := by decide +kernel
theorem dX6_sign_54 : decode cX6_sign 54 = .ok (.getfield 163, 3) := by decide +kernel
theorem dX6_sign_57 : decode cX6_sign 57 = .ok (.iload_n 2, 1) := by decide +kernel
theorem dX6_sign_58 : decode cX6_sign 58 = .ok (.iaload, 1) := by decide +kernel
theorem dX6_sign_59 : decode cX6_sign 59 = .ok (.ireturn, 1) := by decide +kernel
theorem dX6_sign_60 : decode cX6_sign 60 = .ok (.aload_n 0, 1) := by decide +kernel
theorem dX6_sign_61 : decode cX6_sign 61 = .ok (.getfield 10, 3) := by decide +kernel
theorem dX6_sign_64 : decode cX6_sign 64 = .ok (.getfield 134, 3) := by decide +kernel
theorem dX6_sign_67 : decode cX6_sign 67 = .ok (.aload 4, 2) := by decide +kernel
theorem dX6_sign_69 : decode cX6_sign 69 = .ok (.iload_n 2, 1) := by decide +kernel
theorem dX6_sign_70 : decode cX6_sign 70 = .ok (.invokevirtual 165, 3) := by decide +kernel
theorem dX6_sign_73 : decode cX6_sign 73 = .ok (.ireturn, 1) := by decide +kernel
theorem dX6_sign_74 : decode cX6_sign 74 = .ok (.aload 4, 2) := by decide +kernel
theorem dX6_sign_76 : decode cX6_sign 76 = .ok (.iload_n 2, 1) := by decide +kernel
theorem dX6_sign_77 : decode cX6_sign 77 = .ok (.invokevirtual 169, 3) := by decide +kernel
theorem dX6_sign_80 : decode cX6_sign 80 = .ok (.ireturn, 1) := by decide +kernel
theorem dX6_sign_81 : decode cX6_sign 81 = .ok (.aload 4, 2) := by decide +kernel
theorem dX6_sign_83 : decode cX6_sign 83 = .ok (.iload_n 2, 1) := by decide +kernel
theorem dX6_sign_84 : decode cX6_sign 84 = .ok (.invokevirtual 172, 3) := by decide +kernel
theorem dX6_sign_87 : decode cX6_sign 87 = .ok (.ifCond .eq 7, 3) := by decide +kernel
theorem dX6_sign_90 : decode cX6_sign 90 = .ok (.iconst 1, 1) := by decide +kernel
theorem dX6_sign_91 : decode cX6_sign 91 = .ok (.goto 4, 3) := by decide +kernel
theorem dX6_sign_94 : decode cX6_sign 94 = .ok (.iconst 0, 1) := by decide +kernel
theorem dX6_sign_95 : decode cX6_sign 95 = .ok (.ireturn, 1) := by decide +kernel
theorem dX6_piece_0 : decode cX6_piece 0 = .ok (.iload_n 1, 1) := by decide +kernel
theorem dX6_piece_1 : decode cX6_piece 1 = .ok (.invokestatic 51, 3) := by decide +kernel
theorem dX6_piece_4 : decode cX6_piece 4 = .ok (.iload_n 2, 1) := by decide +kernel
theorem dX6_piece_5 : decode cX6_piece 5 = .ok (.ifCond .ge 13, 3) := by decide +kernel
theorem dX6_piece_8 : decode cX6_piece 8 = .ok (.new 102, 3) := by decide +kernel
theorem dX6_piece_11 : decode cX6_piece 11 = .ok (.dup, 1) := by decide +kernel
theorem dX6_piece_12 : decode cX6_piece 12 = .ok (.ldc 176, 2) := by decide +kernel
theorem dX6_piece_14 : decode cX6_piece 14 = .ok (.invokespecial 106, 3) := by decide +kernel
theorem dX6_piece_17 : decode cX6_piece 17 = .ok (.athrow, 1) := by decide +kernel
theorem dX6_piece_18 : decode cX6_piece 18 = .ok (.iload_n 3, 1) := by decide +kernel
theorem dX6_piece_19 : decode cX6_piece 19 = .ok (.iconst 4, 1) := by decide +kernel
theorem dX6_piece_20 : decode cX6_piece 20 = .ok (.invokestatic 160, 3) := by decide +kernel
theorem dX6_piece_23 : decode cX6_piece 23 = .ok (.aload_n 0, 1) := by decide +kernel
theorem dX6_piece_24 : decode cX6_piece 24 = .ok (.getfield 10, 3) := by decide +kernel
theorem dX6_piece_27 : decode cX6_piece 27 = .ok (.getfield 70, 3) := by decide +kernel
theorem dX6_piece_30 : decode cX6_piece 30 = .ok (.iload_n 1, 1) := by decide +kernel
theorem dX6_piece_31 : decode cX6_piece 31 = .ok (.aaload, 1) := by decide +kernel
theorem dX6_piece_32 : decode cX6_piece 32 = .ok (.astore 4, 2) := by decide +kernel
theorem dX6_piece_34 : decode cX6_piece 34 = .ok (.iload_n 2, 1) := by decide +kernel
theorem dX6_piece_35 : decode cX6_piece 35 = .ok (.aload 4, 2) := by decide +kernel
theorem dX6_piece_37 : decode cX6_piece 37 = .ok (.getfield 178, 3) := by decide +kernel
theorem dX6_piece_40 : decode cX6_piece 40 = .ok (.if_icmp .lt 5, 3) := by decide +kernel
theorem dX6_piece_43 : decode cX6_piece 43 = .ok (.iconst (-1), 1) := by decide +kernel
theorem dX6_piece_44 : decode cX6_piece 44 = .ok (.ireturn, 1) := by decide +kernel
theorem dX6_piece_45 : decode cX6_piece 45 = .ok (.iload_n 3, 1) := by decide +kernel
theorem dX6_piece_46 : decode cX6_piece 46 = .ok (.tableswitch 72 0 3 #[30, 48, 56, 64], 30) := by decide +kernel
theorem dX6_piece_76 : decode cX6_piece 76 = .ok (.aload_n 0, 1) := by decide +kernel
theorem dX6_piece_77 : decode cX6_piece 77 = .ok (.getfield 10, 3) := by decide +kernel
theorem dX6_piece_80 : decode cX6_piece 80 = .ok (.getfield 114, 3) := by decide +kernel
theorem dX6_piece_83 : decode cX6_piece 83 = .ok (.aload 4, 2) := by decide +kernel
theorem dX6_piece_85 : decode cX6_piece 85 = .ok (.getfield 181, 3) := by decide +kernel
theorem dX6_piece_88 : decode cX6_piece 88 = .ok (.iload_n 2, 1) := by decide +kernel
theorem dX6_piece_89 : decode cX6_piece 89 = .ok (.laload, 1) := by decide +kernel
theorem dX6_piece_90 : decode cX6_piece 90 = .ok (.invokevirtual 184, 3) := by decide +kernel
theorem dX6_piece_93 : decode cX6_piece 93 = .ok (.ireturn, 1) := by decide +kernel
theorem dX6_piece_94 : decode cX6_piece 94 = .ok (.aload 4, 2) := by decide +kernel
theorem dX6_piece_96 : decode cX6_piece 96 = .ok (.getfield 188, 3) := by decide +kernel
theorem dX6_piece_99 : decode cX6_piece 99 = .ok (.iload_n 2, 1) := by decide +kernel
theorem dX6_piece_100 : decode cX6_piece 100 = .ok (.iaload, 1) := by decide +kernel
theorem dX6_piece_101 : decode cX6_piece 101 = .ok (.ireturn, 1) := by decide +kernel
theorem dX6_piece_102 : decode cX6_piece 102 = .ok (.aload 4, 2) := by decide +kernel
theorem dX6_piece_104 : decode cX6_piece 104 = .ok (.getfield 191, 3) := by decide +kernel
theorem dX6_piece_107 : decode cX6_piece 107 = .ok (.iload_n 2, 1) := by decide +kernel
theorem dX6_piece_108 : decode cX6_piece 108 = .ok (.iaload, 1) := by decide +kernel
theorem dX6_piece_109 : decode cX6_piece 109 = .ok (.ireturn, 1) := by decide +kernel
theorem dX6_piece_110 : decode cX6_piece 110 = .ok (.aload 4, 2) := by decide +kernel
theorem dX6_piece_112 : decode cX6_piece 112 = .ok (.getfield 194, 3) := by decide +kernel
theorem dX6_piece_115 : decode cX6_piece 115 = .ok (.iload_n 2, 1) := by decide +kernel
theorem dX6_piece_116 : decode cX6_piece 116 = .ok (.iaload, 1) := by decide +kernel
theorem dX6_piece_117 : decode cX6_piece 117 = .ok (.ireturn, 1) := by decide +kernel
theorem dX6_piece_118 : decode cX6_piece 118 = .ok (.aload_n 0, 1) := by decide +kernel
theorem dX6_piece_119 : decode cX6_piece 119 = .ok (.getfield 10, 3) := by decide +kernel
theorem dX6_piece_122 : decode cX6_piece 122 = .ok (.aload 4, 2) := by decide +kernel
theorem dX6_piece_124 : decode cX6_piece 124 = .ok (.getfield 181, 3) := by decide +kernel
theorem dX6_piece_127 : decode cX6_piece 127 = .ok (.iload_n 2, 1) := by decide +kernel
theorem dX6_piece_128 : decode cX6_piece 128 = .ok (.laload, 1) := by decide +kernel
theorem dX6_piece_129 : decode cX6_piece 129 = .ok (.invokevirtual 197, 3) := by decide +kernel
theorem dX6_piece_132 : decode cX6_piece 132 = .ok (.invokestatic 200, 3) := by decide +kernel
theorem dX6_piece_135 : decode cX6_piece 135 = .ok (.iconst 1, 1) := by decide +kernel
theorem dX6_piece_136 : decode cX6_piece 136 = .ok (.isub, 1) := by decide +kernel
theorem dX6_piece_137 : decode cX6_piece 137 = .ok (.ireturn, 1) := by decide +kernel
theorem dX6_slot_0 : decode cX6_slot 0 = .ok (.iload_n 1, 1) := by decide +kernel
theorem dX6_slot_1 : decode cX6_slot 1 = .ok (.ifCond .lt 9, 3) := by decide +kernel
theorem dX6_slot_4 : decode cX6_slot 4 = .ok (.iload_n 1, 1) := by decide +kernel
theorem dX6_slot_5 : decode cX6_slot 5 = .ok (.bipush 60, 2) := by decide +kernel
theorem dX6_slot_7 : decode cX6_slot 7 = .ok (.if_icmp .lt 13, 3) := by decide +kernel
theorem dX6_slot_10 : decode cX6_slot 10 = .ok (.new 78, 3) := by decide +kernel
theorem dX6_slot_13 : decode cX6_slot 13 = .ok (.dup, 1) := by decide +kernel
theorem dX6_slot_14 : decode cX6_slot 14 = .ok (.ldc 205, 2) := by decide +kernel
theorem dX6_slot_16 : decode cX6_slot 16 = .ok (.invokespecial 82, 3) := by decide +kernel
theorem dX6_slot_19 : decode cX6_slot 19 = .ok (.athrow, 1) := by decide +kernel
theorem dX6_slot_20 : decode cX6_slot 20 = .ok (.iload_n 2, 1) := by decide +kernel
theorem dX6_slot_21 : decode cX6_slot 21 = .ok (.iconst 4, 1) := by decide +kernel
theorem dX6_slot_22 : decode cX6_slot 22 = .ok (.invokestatic 160, 3) := by decide +kernel
theorem dX6_slot_25 : decode cX6_slot 25 = .ok (.aload_n 0, 1) := by decide +kernel
theorem dX6_slot_26 : decode cX6_slot 26 = .ok (.getfield 10, 3) := by decide +kernel
theorem dX6_slot_29 : decode cX6_slot 29 = .ok (.getfield 114, 3) := by decide +kernel
theorem dX6_slot_32 : decode cX6_slot 32 = .ok (.astore_n 3, 1) := by decide +kernel
theorem dX6_slot_33 : decode cX6_slot 33 = .ok (.aload_n 3, 1) := by decide +kernel
theorem dX6_slot_34 : decode cX6_slot 34 = .ok (.iload_n 1, 1) := by decide +kernel
theorem dX6_slot_35 : decode cX6_slot 35 = .ok (.invokevirtual 207, 3) := by decide +kernel
theorem dX6_slot_38 : decode cX6_slot 38 = .ok (.ifCond .eq 5, 3) := by decide +kernel
theorem dX6_slot_41 : decode cX6_slot 41 = .ok (.iconst (-1), 1) := by decide +kernel
theorem dX6_slot_42 : decode cX6_slot 42 = .ok (.ireturn, 1) := by decide +kernel
theorem dX6_slot_43 : decode cX6_slot 43 = .ok (.iload_n 2, 1) := by decide +kernel
theorem dX6_slot_44 : decode cX6_slot 44 = .ok (.tableswitch 58 0 3 #[32, 39, 46, 52], 32) := by decide +kernel
theorem dX6_slot_76 : decode cX6_slot 76 = .ok (.aload_n 3, 1) := by decide +kernel
theorem dX6_slot_77 : decode cX6_slot 77 = .ok (.getfield 210, 3) := by decide +kernel
theorem dX6_slot_80 : decode cX6_slot 80 = .ok (.iload_n 1, 1) := by decide +kernel
theorem dX6_slot_81 : decode cX6_slot 81 = .ok (.iaload, 1) := by decide +kernel
theorem dX6_slot_82 : decode cX6_slot 82 = .ok (.ireturn, 1) := by decide +kernel
theorem dX6_slot_83 : decode cX6_slot 83 = .ok (.aload_n 3, 1) := by decide +kernel
theorem dX6_slot_84 : decode cX6_slot 84 = .ok (.getfield 211, 3) := by decide +kernel
theorem dX6_slot_87 : decode cX6_slot 87 = .ok (.iload_n 1, 1) := by decide +kernel
theorem dX6_slot_88 : decode cX6_slot 88 = .ok (.iaload, 1) := by decide +kernel
theorem dX6_slot_89 : decode cX6_slot 89 = .ok (.ireturn, 1) := by decide +kernel
theorem dX6_slot_90 : decode cX6_slot 90 = .ok (.aload_n 3, 1) := by decide +kernel
theorem dX6_slot_91 : decode cX6_slot 91 = .ok (.iload_n 1, 1) := by decide +kernel
theorem dX6_slot_92 : decode cX6_slot 92 = .ok (.invokevirtual 214, 3) := by decide +kernel
theorem dX6_slot_95 : decode cX6_slot 95 = .ok (.ireturn, 1) := by decide +kernel
theorem dX6_slot_96 : decode cX6_slot 96 = .ok (.aload_n 3, 1) := by decide +kernel
theorem dX6_slot_97 : decode cX6_slot 97 = .ok (.iload_n 1, 1) := by decide +kernel
theorem dX6_slot_98 : decode cX6_slot 98 = .ok (.invokevirtual 217, 3) := by decide +kernel
theorem dX6_slot_101 : decode cX6_slot 101 = .ok (.ireturn, 1) := by decide +kernel
theorem dX6_slot_102 : decode cX6_slot 102 = .ok (.aload_n 0, 1) := by decide +kernel
theorem dX6_slot_103 : decode cX6_slot 103 = .ok (.getfield 10, 3) := by decide +kernel
theorem dX6_slot_106 : decode cX6_slot 106 = .ok (.aload_n 3, 1) := by decide +kernel
theorem dX6_slot_107 : decode cX6_slot 107 = .ok (.getfield 220, 3) := by decide +kernel
theorem dX6_slot_110 : decode cX6_slot 110 = .ok (.iload_n 1, 1) := by decide +kernel
theorem dX6_slot_111 : decode cX6_slot 111 = .ok (.laload, 1) := by decide +kernel
theorem dX6_slot_112 : decode cX6_slot 112 = .ok (.invokevirtual 197, 3) := by decide +kernel
theorem dX6_slot_115 : decode cX6_slot 115 = .ok (.ireturn, 1) := by decide +kernel
theorem dX6_text_0 : decode cX6_text 0 = .ok (.iload_n 1, 1) := by decide +kernel
theorem dX6_text_1 : decode cX6_text 1 = .ok (.invokestatic 51, 3) := by decide +kernel
theorem dX6_text_4 : decode cX6_text 4 = .ok (.iload_n 2, 1) := by decide +kernel
theorem dX6_text_5 : decode cX6_text 5 = .ok (.iconst 5, 1) := by decide +kernel
theorem dX6_text_6 : decode cX6_text 6 = .ok (.invokestatic 160, 3) := by decide +kernel
theorem dX6_text_9 : decode cX6_text 9 = .ok (.aload_n 0, 1) := by decide +kernel
theorem dX6_text_10 : decode cX6_text 10 = .ok (.getfield 10, 3) := by decide +kernel
theorem dX6_text_13 : decode cX6_text 13 = .ok (.getfield 70, 3) := by decide +kernel
theorem dX6_text_16 : decode cX6_text 16 = .ok (.iload_n 1, 1) := by decide +kernel
theorem dX6_text_17 : decode cX6_text 17 = .ok (.aaload, 1) := by decide +kernel
theorem dX6_text_18 : decode cX6_text 18 = .ok (.astore_n 3, 1) := by decide +kernel
theorem dX6_text_19 : decode cX6_text 19 = .ok (.iload_n 2, 1) := by decide +kernel
theorem dX6_text_20 : decode cX6_text 20 = .ok (.tableswitch 61 0 4 #[36, 41, 46, 51, 56], 36) := by decide +kernel
theorem dX6_text_56 : decode cX6_text 56 = .ok (.aload_n 3, 1) := by decide +kernel
theorem dX6_text_57 : decode cX6_text 57 = .ok (.getfield 74, 3) := by decide +kernel
theorem dX6_text_60 : decode cX6_text 60 = .ok (.ireturn, 1) := by decide +kernel
theorem dX6_text_61 : decode cX6_text 61 = .ok (.aload_n 3, 1) := by decide +kernel
theorem dX6_text_62 : decode cX6_text 62 = .ok (.getfield 178, 3) := by decide +kernel
theorem dX6_text_65 : decode cX6_text 65 = .ok (.ireturn, 1) := by decide +kernel
theorem dX6_text_66 : decode cX6_text 66 = .ok (.aload_n 3, 1) := by decide +kernel
theorem dX6_text_67 : decode cX6_text 67 = .ok (.invokevirtual 221, 3) := by decide +kernel
theorem dX6_text_70 : decode cX6_text 70 = .ok (.ireturn, 1) := by decide +kernel
theorem dX6_text_71 : decode cX6_text 71 = .ok (.aload_n 3, 1) := by decide +kernel
theorem dX6_text_72 : decode cX6_text 72 = .ok (.invokevirtual 224, 3) := by decide +kernel
theorem dX6_text_75 : decode cX6_text 75 = .ok (.ireturn, 1) := by decide +kernel
theorem dX6_text_76 : decode cX6_text 76 = .ok (.aload_n 3, 1) := by decide +kernel
theorem dX6_text_77 : decode cX6_text 77 = .ok (.invokevirtual 227, 3) := by decide +kernel
theorem dX6_text_80 : decode cX6_text 80 = .ok (.ireturn, 1) := by decide +kernel
theorem dX6_text_81 : decode cX6_text 81 = .ok (.aload_n 0, 1) := by decide +kernel
theorem dX6_text_82 : decode cX6_text 82 = .ok (.getfield 10, 3) := by decide +kernel
theorem dX6_text_85 : decode cX6_text 85 = .ok (.iload_n 1, 1) := by decide +kernel
theorem dX6_text_86 : decode cX6_text 86 = .ok (.invokevirtual 230, 3) := by decide +kernel
theorem dX6_text_89 : decode cX6_text 89 = .ok (.ireturn, 1) := by decide +kernel
theorem dX6_count_0 : decode cX6_count 0 = .ok (.iload_n 1, 1) := by decide +kernel
theorem dX6_count_1 : decode cX6_count 1 = .ok (.bipush 9, 2) := by decide +kernel
theorem dX6_count_3 : decode cX6_count 3 = .ok (.invokestatic 160, 3) := by decide +kernel
theorem dX6_count_6 : decode cX6_count 6 = .ok (.aload_n 0, 1) := by decide +kernel
theorem dX6_count_7 : decode cX6_count 7 = .ok (.getfield 10, 3) := by decide +kernel
theorem dX6_count_10 : decode cX6_count 10 = .ok (.getfield 114, 3) := by decide +kernel
theorem dX6_count_13 : decode cX6_count 13 = .ok (.astore_n 2, 1) := by decide +kernel
theorem dX6_count_14 : decode cX6_count 14 = .ok (.iload_n 1, 1) := by decide +kernel
theorem dX6_count_15 : decode cX6_count 15 = .ok (.tableswitch 100 0 8 #[49, 57, 65, 70, 75, 80, 85, 90, 95], 49) := by decide +kernel
theorem dX6_count_64 : decode cX6_count 64 = .ok (.aload_n 0, 1) := by decide +kernel
theorem dX6_count_65 : decode cX6_count 65 = .ok (.getfield 10, 3) := by decide +kernel
theorem dX6_count_68 : decode cX6_count 68 = .ok (.invokevirtual 242, 3) := by decide +kernel
theorem dX6_count_71 : decode cX6_count 71 = .ok (.ireturn, 1) := by decide +kernel
theorem dX6_count_72 : decode cX6_count 72 = .ok (.aload_n 0, 1) := by decide +kernel
theorem dX6_count_73 : decode cX6_count 73 = .ok (.getfield 10, 3) := by decide +kernel
theorem dX6_count_76 : decode cX6_count 76 = .ok (.invokevirtual 243, 3) := by decide +kernel
theorem dX6_count_79 : decode cX6_count 79 = .ok (.ireturn, 1) := by decide +kernel
theorem dX6_count_80 : decode cX6_count 80 = .ok (.aload_n 2, 1) := by decide +kernel
theorem dX6_count_81 : decode cX6_count 81 = .ok (.invokevirtual 245, 3) := by decide +kernel
theorem dX6_count_84 : decode cX6_count 84 = .ok (.ireturn, 1) := by decide +kernel
theorem dX6_count_85 : decode cX6_count 85 = .ok (.aload_n 2, 1) := by decide +kernel
theorem dX6_count_86 : decode cX6_count 86 = .ok (.invokevirtual 246, 3) := by decide +kernel
theorem dX6_count_89 : decode cX6_count 89 = .ok (.ireturn, 1) := by decide +kernel
theorem dX6_count_90 : decode cX6_count 90 = .ok (.aload_n 2, 1) := by decide +kernel
theorem dX6_count_91 : decode cX6_count 91 = .ok (.invokevirtual 249, 3) := by decide +kernel
theorem dX6_count_94 : decode cX6_count 94 = .ok (.ireturn, 1) := by decide +kernel
theorem dX6_count_95 : decode cX6_count 95 = .ok (.aload_n 2, 1) := by decide +kernel
theorem dX6_count_96 : decode cX6_count 96 = .ok (.invokevirtual 252, 3) := by decide +kernel
theorem dX6_count_99 : decode cX6_count 99 = .ok (.ireturn, 1) := by decide +kernel
theorem dX6_count_100 : decode cX6_count 100 = .ok (.aload_n 2, 1) := by decide +kernel
theorem dX6_count_101 : decode cX6_count 101 = .ok (.invokevirtual 255, 3) := by decide +kernel
theorem dX6_count_104 : decode cX6_count 104 = .ok (.ireturn, 1) := by decide +kernel
theorem dX6_count_105 : decode cX6_count 105 = .ok (.aload_n 2, 1) := by decide +kernel
theorem dX6_count_106 : decode cX6_count 106 = .ok (.getfield 258, 3) := by decide +kernel
theorem dX6_count_109 : decode cX6_count 109 = .ok (.ireturn, 1) := by decide +kernel
theorem dX6_count_110 : decode cX6_count 110 = .ok (.aload_n 2, 1) := by decide +kernel
theorem dX6_count_111 : decode cX6_count 111 = .ok (.getfield 261, 3) := by decide +kernel
theorem dX6_count_114 : decode cX6_count 114 = .ok (.ireturn, 1) := by decide +kernel
theorem dX6_count_115 : decode cX6_count 115 = .ok (.aload_n 0, 1) := by decide +kernel
theorem dX6_count_116 : decode cX6_count 116 = .ok (.getfield 19, 3) := by decide +kernel
theorem dX6_count_119 : decode cX6_count 119 = .ok (.getfield 152, 3) := by decide +kernel
theorem dX6_count_122 : decode cX6_count 122 = .ok (.ireturn, 1) := by decide +kernel
theorem dX6_ifPut_0 : decode cX6_ifPut 0 = .ok (.iload_n 1, 1) := by decide +kernel
theorem dX6_ifPut_1 : decode cX6_ifPut 1 = .ok (.invokestatic 51, 3) := by decide +kernel
theorem dX6_ifPut_4 : decode cX6_ifPut 4 = .ok (.iload_n 2, 1) := by decide +kernel
theorem dX6_ifPut_5 : decode cX6_ifPut 5 = .ok (.iconst 3, 1) := by decide +kernel
theorem dX6_ifPut_6 : decode cX6_ifPut 6 = .ok (.invokestatic 160, 3) := by decide +kernel
theorem dX6_ifPut_9 : decode cX6_ifPut 9 = .ok (.aload_n 0, 1) := by decide +kernel
theorem dX6_ifPut_10 : decode cX6_ifPut 10 = .ok (.getfield 26, 3) := by decide +kernel
theorem dX6_ifPut_13 : decode cX6_ifPut 13 = .ok (.invokevirtual 264, 3) := by decide +kernel
theorem dX6_ifPut_16 : decode cX6_ifPut 16 = .ok (.ifCond .ne 5, 3) := by decide +kernel
theorem dX6_ifPut_19 : decode cX6_ifPut 19 = .ok (.iconst (-1), 1) := by decide +kernel
theorem dX6_ifPut_20 : decode cX6_ifPut 20 = .ok (.ireturn, 1) := by decide +kernel
theorem dX6_ifPut_21 : decode cX6_ifPut 21 = .ok (.aload_n 0, 1) := by decide +kernel
theorem dX6_ifPut_22 : decode cX6_ifPut 22 = .ok (.getfield 36, 3) := by decide +kernel
theorem dX6_ifPut_25 : decode cX6_ifPut 25 = .ok (.invokevirtual 58, 3) := by decide +kernel
theorem dX6_ifPut_28 : decode cX6_ifPut 28 = .ok (.aload_n 0, 1) := by decide +kernel
theorem dX6_ifPut_29 : decode cX6_ifPut 29 = .ok (.getfield 26, 3) := by decide +kernel
theorem dX6_ifPut_32 : decode cX6_ifPut 32 = .ok (.aload_n 0, 1) := by decide +kernel
theorem dX6_ifPut_33 : decode cX6_ifPut 33 = .ok (.getfield 36, 3) := by decide +kernel
theorem dX6_ifPut_36 : decode cX6_ifPut 36 = .ok (.invokevirtual 61, 3) := by decide +kernel
theorem dX6_ifPut_39 : decode cX6_ifPut 39 = .ok (.aload_n 0, 1) := by decide +kernel
theorem dX6_ifPut_40 : decode cX6_ifPut 40 = .ok (.getfield 36, 3) := by decide +kernel
theorem dX6_ifPut_43 : decode cX6_ifPut 43 = .ok (.aload_n 0, 1) := by decide +kernel
theorem dX6_ifPut_44 : decode cX6_ifPut 44 = .ok (.getfield 10, 3) := by decide +kernel
theorem dX6_ifPut_47 : decode cX6_ifPut 47 = .ok (.getfield 134, 3) := by decide +kernel
theorem dX6_ifPut_50 : decode cX6_ifPut 50 = .ok (.invokevirtual 268, 3) := by decide +kernel
theorem dX6_ifPut_53 : decode cX6_ifPut 53 = .ok (.iload_n 2, 1) := by decide +kernel
theorem dX6_ifPut_54 : decode cX6_ifPut 54 = .ok (.tableswitch 64 0 2 #[26, 34, 49], 26) := by decide +kernel
theorem dX6_ifPut_80 : decode cX6_ifPut 80 = .ok (.aload_n 0, 1) := by decide +kernel
theorem dX6_ifPut_81 : decode cX6_ifPut 81 = .ok (.getfield 36, 3) := by decide +kernel
theorem dX6_ifPut_84 : decode cX6_ifPut 84 = .ok (.getfield 178, 3) := by decide +kernel
theorem dX6_ifPut_87 : decode cX6_ifPut 87 = .ok (.ireturn, 1) := by decide +kernel
theorem dX6_ifPut_88 : decode cX6_ifPut 88 = .ok (.aload_n 0, 1) := by decide +kernel
theorem dX6_ifPut_89 : decode cX6_ifPut 89 = .ok (.getfield 10, 3) := by decide +kernel
theorem dX6_ifPut_92 : decode cX6_ifPut 92 = .ok (.getfield 114, 3) := by decide +kernel
theorem dX6_ifPut_95 : decode cX6_ifPut 95 = .ok (.aload_n 0, 1) := by decide +kernel
theorem dX6_ifPut_96 : decode cX6_ifPut 96 = .ok (.getfield 36, 3) := by decide +kernel
theorem dX6_ifPut_99 : decode cX6_ifPut 99 = .ok (.invokevirtual 272, 3) := by decide +kernel
theorem dX6_ifPut_102 : decode cX6_ifPut 102 = .ok (.ireturn, 1) := by decide +kernel
theorem dX6_ifPut_103 : decode cX6_ifPut 103 = .ok (.aload_n 0, 1) := by decide +kernel
theorem dX6_ifPut_104 : decode cX6_ifPut 104 = .ok (.getfield 10, 3) := by decide +kernel
theorem dX6_ifPut_107 : decode cX6_ifPut 107 = .ok (.getfield 114, 3) := by decide +kernel
theorem dX6_ifPut_110 : decode cX6_ifPut 110 = .ok (.aload_n 0, 1) := by decide +kernel
theorem dX6_ifPut_111 : decode cX6_ifPut 111 = .ok (.getfield 36, 3) := by decide +kernel
theorem dX6_ifPut_114 : decode cX6_ifPut 114 = .ok (.invokevirtual 275, 3) := by decide +kernel
theorem dX6_ifPut_117 : decode cX6_ifPut 117 = .ok (.ireturn, 1) := by decide +kernel
theorem dX6_ifPut_118 : decode cX6_ifPut 118 = .ok (.aload_n 0, 1) := by decide +kernel
theorem dX6_ifPut_119 : decode cX6_ifPut 119 = .ok (.getfield 30, 3) := by decide +kernel
theorem dX6_ifPut_122 : decode cX6_ifPut 122 = .ok (.aload_n 0, 1) := by decide +kernel
theorem dX6_ifPut_123 : decode cX6_ifPut 123 = .ok (.getfield 10, 3) := by decide +kernel
theorem dX6_ifPut_126 : decode cX6_ifPut 126 = .ok (.iload_n 1, 1) := by decide +kernel
theorem dX6_ifPut_127 : decode cX6_ifPut 127 = .ok (.aload_n 0, 1) := by decide +kernel
theorem dX6_ifPut_128 : decode cX6_ifPut 128 = .ok (.getfield 36, 3) := by decide +kernel
theorem dX6_ifPut_131 : decode cX6_ifPut 131 = .ok (.invokevirtual 278, 3) := by decide +kernel
theorem dX6_ifPut_134 : decode cX6_ifPut 134 = .ok (.ifCond .eq 7, 3) := by decide +kernel
theorem dX6_ifPut_137 : decode cX6_ifPut 137 = .ok (.iconst 0, 1) := by decide +kernel
theorem dX6_ifPut_138 : decode cX6_ifPut 138 = .ok (.goto 4, 3) := by decide +kernel
theorem dX6_ifPut_141 : decode cX6_ifPut 141 = .ok (.iconst 1, 1) := by decide +kernel
theorem dX6_ifPut_142 : decode cX6_ifPut 142 = .ok (.ireturn, 1) := by decide +kernel
theorem dX6_requireText_0 : decode cX6_requireText 0 = .ok (.iload_n 0, 1) := by decide +kernel
theorem dX6_requireText_1 : decode cX6_requireText 1 = .ok (.ifCond .lt 8, 3) := by decide +kernel
theorem dX6_requireText_4 : decode cX6_requireText 4 = .ok (.iload_n 0, 1) := by decide +kernel
theorem dX6_requireText_5 : decode cX6_requireText 5 = .ok (.iconst 4, 1) := by decide +kernel
theorem dX6_requireText_6 : decode cX6_requireText 6 = .ok (.if_icmp .lt 14, 3) := by decide +kernel
theorem dX6_requireText_9 : decode cX6_requireText 9 = .ok (.new 78, 3) := by decide +kernel
theorem dX6_requireText_12 : decode cX6_requireText 12 = .ok (.dup, 1) := by decide +kernel
theorem dX6_requireText_13 : decode cX6_requireText 13 = .ok (.ldc_w 321, 3) := by decide +kernel
theorem dX6_requireText_16 : decode cX6_requireText 16 = .ok (.invokespecial 82, 3) := by decide +kernel
theorem dX6_requireText_19 : decode cX6_requireText 19 = .ok (.athrow, 1) := by decide +kernel
theorem dX6_requireText_20 : decode cX6_requireText 20 = .ok (.return_, 1) := by decide +kernel
theorem dX6_requirePlace_0 : decode cX6_requirePlace 0 = .ok (.iload_n 1, 1) := by decide +kernel
theorem dX6_requirePlace_1 : decode cX6_requirePlace 1 = .ok (.ifCond .lt 11, 3) := by decide +kernel
theorem dX6_requirePlace_4 : decode cX6_requirePlace 4 = .ok (.iload_n 1, 1) := by decide +kernel
theorem dX6_requirePlace_5 : decode cX6_requirePlace 5 = .ok (.aload_n 0, 1) := by decide +kernel
theorem dX6_requirePlace_6 : decode cX6_requirePlace 6 = .ok (.getfield 74, 3) := by decide +kernel
theorem dX6_requirePlace_9 : decode cX6_requirePlace 9 = .ok (.if_icmp .lt 13, 3) := by decide +kernel
theorem dX6_requirePlace_12 : decode cX6_requirePlace 12 = .ok (.new 78, 3) := by decide +kernel
theorem dX6_requirePlace_15 : decode cX6_requirePlace 15 = .ok (.dup, 1) := by decide +kernel
theorem dX6_requirePlace_16 : decode cX6_requirePlace 16 = .ok (.ldc 80, 2) := by decide +kernel
theorem dX6_requirePlace_18 : decode cX6_requirePlace 18 = .ok (.invokespecial 82, 3) := by decide +kernel
theorem dX6_requirePlace_21 : decode cX6_requirePlace 21 = .ok (.athrow, 1) := by decide +kernel
theorem dX6_requirePlace_22 : decode cX6_requirePlace 22 = .ok (.return_, 1) := by decide +kernel
theorem dX6_requireSetting_0 : decode cX6_requireSetting 0 = .ok (.iload_n 0, 1) := by decide +kernel
theorem dX6_requireSetting_1 : decode cX6_requireSetting 1 = .ok (.ifCond .lt 8, 3) := by decide +kernel
theorem dX6_requireSetting_4 : decode cX6_requireSetting 4 = .ok (.iload_n 0, 1) := by decide +kernel
theorem dX6_requireSetting_5 : decode cX6_requireSetting 5 = .ok (.iconst 5, 1) := by decide +kernel
theorem dX6_requireSetting_6 : decode cX6_requireSetting 6 = .ok (.if_icmp .lt 14, 3) := by decide +kernel
theorem dX6_requireSetting_9 : decode cX6_requireSetting 9 = .ok (.new 78, 3) := by decide +kernel
theorem dX6_requireSetting_12 : decode cX6_requireSetting 12 = .ok (.dup, 1) := by decide +kernel
theorem dX6_requireSetting_13 : decode cX6_requireSetting 13 = .ok (.ldc_w 323, 3) := by decide +kernel
theorem dX6_requireSetting_16 : decode cX6_requireSetting 16 = .ok (.invokespecial 82, 3) := by decide +kernel
theorem dX6_requireSetting_19 : decode cX6_requireSetting 19 = .ok (.athrow, 1) := by decide +kernel
theorem dX6_requireSetting_20 : decode cX6_requireSetting 20 = .ok (.return_, 1) := by decide +kernel
theorem dX6_requireValue_0 : decode cX6_requireValue 0 = .ok (.iload_n 1, 1) := by decide +kernel
theorem dX6_requireValue_1 : decode cX6_requireValue 1 = .ok (.getstatic 325, 3) := by decide +kernel
theorem dX6_requireValue_4 : decode cX6_requireValue 4 = .ok (.iload_n 0, 1) := by decide +kernel
theorem dX6_requireValue_5 : decode cX6_requireValue 5 = .ok (.iaload, 1) := by decide +kernel
theorem dX6_requireValue_6 : decode cX6_requireValue 6 = .ok (.if_icmp .lt 12, 3) := by decide +kernel
theorem dX6_requireValue_9 : decode cX6_requireValue 9 = .ok (.iload_n 1, 1) := by decide +kernel
theorem dX6_requireValue_10 : decode cX6_requireValue 10 = .ok (.getstatic 328, 3) := by decide +kernel
theorem dX6_requireValue_13 : decode cX6_requireValue 13 = .ok (.iload_n 0, 1) := by decide +kernel
theorem dX6_requireValue_14 : decode cX6_requireValue 14 = .ok (.iaload, 1) := by decide +kernel
theorem dX6_requireValue_15 : decode cX6_requireValue 15 = .ok (.if_icmp .le 14, 3) := by decide +kernel
theorem dX6_requireValue_18 : decode cX6_requireValue 18 = .ok (.new 102, 3) := by decide +kernel
theorem dX6_requireValue_21 : decode cX6_requireValue 21 = .ok (.dup, 1) := by decide +kernel
theorem dX6_requireValue_22 : decode cX6_requireValue 22 = .ok (.ldc_w 331, 3) := by decide +kernel
theorem dX6_requireValue_25 : decode cX6_requireValue 25 = .ok (.invokespecial 106, 3) := by decide +kernel
theorem dX6_requireValue_28 : decode cX6_requireValue 28 = .ok (.athrow, 1) := by decide +kernel
theorem dX6_requireValue_29 : decode cX6_requireValue 29 = .ok (.return_, 1) := by decide +kernel
theorem dX6_requireWhat_0 : decode cX6_requireWhat 0 = .ok (.iload_n 0, 1) := by decide +kernel
theorem dX6_requireWhat_1 : decode cX6_requireWhat 1 = .ok (.ifCond .lt 8, 3) := by decide +kernel
theorem dX6_requireWhat_4 : decode cX6_requireWhat 4 = .ok (.iload_n 0, 1) := by decide +kernel
theorem dX6_requireWhat_5 : decode cX6_requireWhat 5 = .ok (.iload_n 1, 1) := by decide +kernel
theorem dX6_requireWhat_6 : decode cX6_requireWhat 6 = .ok (.if_icmp .le 14, 3) := by decide +kernel
theorem dX6_requireWhat_9 : decode cX6_requireWhat 9 = .ok (.new 102, 3) := by decide +kernel
theorem dX6_requireWhat_12 : decode cX6_requireWhat 12 = .ok (.dup, 1) := by decide +kernel
theorem dX6_requireWhat_13 : decode cX6_requireWhat 13 = .ok (.ldc_w 333, 3) := by decide +kernel
theorem dX6_requireWhat_16 : decode cX6_requireWhat 16 = .ok (.invokespecial 106, 3) := by decide +kernel
theorem dX6_requireWhat_19 : decode cX6_requireWhat 19 = .ok (.athrow, 1) := by decide +kernel
theorem dX6_requireWhat_20 : decode cX6_requireWhat 20 = .ok (.return_, 1) := by decide +kernel
theorem dX6_requireCompleteBuffer_0 : decode cX6_requireCompleteBuffer 0 = .ok (.aload_n 0, 1) := by decide +kernel
theorem dX6_requireCompleteBuffer_1 : decode cX6_requireCompleteBuffer 1 = .ok (.getfield 26, 3) := by decide +kernel
theorem dX6_requireCompleteBuffer_4 : decode cX6_requireCompleteBuffer 4 = .ok (.invokevirtual 264, 3) := by decide +kernel
theorem dX6_requireCompleteBuffer_7 : decode cX6_requireCompleteBuffer 7 = .ok (.ifCond .ne 14, 3) := by decide +kernel
theorem dX6_requireCompleteBuffer_10 : decode cX6_requireCompleteBuffer 10 = .ok (.new 102, 3) := by decide +kernel
theorem dX6_requireCompleteBuffer_13 : decode cX6_requireCompleteBuffer 13 = .ok (.dup, 1) := by decide +kernel
theorem dX6_requireCompleteBuffer_14 : decode cX6_requireCompleteBuffer 14 = .ok (.ldc_w 335, 3) := by decide +kernel
theorem dX6_requireCompleteBuffer_17 : decode cX6_requireCompleteBuffer 17 = .ok (.invokespecial 106, 3) := by decide +kernel
theorem dX6_requireCompleteBuffer_20 : decode cX6_requireCompleteBuffer 20 = .ok (.athrow, 1) := by decide +kernel
theorem dX6_requireCompleteBuffer_21 : decode cX6_requireCompleteBuffer 21 = .ok (.return_, 1) := by decide +kernel
theorem dX6_changeToTrial_0 : decode cX6_changeToTrial 0 = .ok (.aload_n 0, 1) := by decide +kernel
theorem dX6_changeToTrial_1 : decode cX6_changeToTrial 1 = .ok (.getfield 36, 3) := by decide +kernel
theorem dX6_changeToTrial_4 : decode cX6_changeToTrial 4 = .ok (.aload_n 0, 1) := by decide +kernel
theorem dX6_changeToTrial_5 : decode cX6_changeToTrial 5 = .ok (.getfield 10, 3) := by decide +kernel
theorem dX6_changeToTrial_8 : decode cX6_changeToTrial 8 = .ok (.getfield 134, 3) := by decide +kernel
theorem dX6_changeToTrial_11 : decode cX6_changeToTrial 11 = .ok (.invokevirtual 268, 3) := by decide +kernel
theorem dX6_changeToTrial_14 : decode cX6_changeToTrial 14 = .ok (.aload_n 0, 1) := by decide +kernel
theorem dX6_changeToTrial_15 : decode cX6_changeToTrial 15 = .ok (.getfield 30, 3) := by decide +kernel
theorem dX6_changeToTrial_18 : decode cX6_changeToTrial 18 = .ok (.aload_n 0, 1) := by decide +kernel
theorem dX6_changeToTrial_19 : decode cX6_changeToTrial 19 = .ok (.getfield 10, 3) := by decide +kernel
theorem dX6_changeToTrial_22 : decode cX6_changeToTrial 22 = .ok (.iload_n 1, 1) := by decide +kernel
theorem dX6_changeToTrial_23 : decode cX6_changeToTrial 23 = .ok (.aload_n 0, 1) := by decide +kernel
theorem dX6_changeToTrial_24 : decode cX6_changeToTrial 24 = .ok (.getfield 36, 3) := by decide +kernel
theorem dX6_changeToTrial_27 : decode cX6_changeToTrial 27 = .ok (.invokevirtual 278, 3) := by decide +kernel
theorem dX6_changeToTrial_30 : decode cX6_changeToTrial 30 = .ok (.ifCond .ne 14, 3) := by decide +kernel
theorem dX6_changeToTrial_33 : decode cX6_changeToTrial 33 = .ok (.new 89, 3) := by decide +kernel
theorem dX6_changeToTrial_36 : decode cX6_changeToTrial 36 = .ok (.dup, 1) := by decide +kernel
theorem dX6_changeToTrial_37 : decode cX6_changeToTrial 37 = .ok (.ldc_w 337, 3) := by decide +kernel
theorem dX6_changeToTrial_40 : decode cX6_changeToTrial 40 = .ok (.invokespecial 93, 3) := by decide +kernel
theorem dX6_changeToTrial_43 : decode cX6_changeToTrial 43 = .ok (.athrow, 1) := by decide +kernel
theorem dX6_changeToTrial_44 : decode cX6_changeToTrial 44 = .ok (.aload_n 0, 1) := by decide +kernel
theorem dX6_changeToTrial_45 : decode cX6_changeToTrial 45 = .ok (.getfield 19, 3) := by decide +kernel
theorem dX6_changeToTrial_48 : decode cX6_changeToTrial 48 = .ok (.aload_n 0, 1) := by decide +kernel
theorem dX6_changeToTrial_49 : decode cX6_changeToTrial 49 = .ok (.getfield 10, 3) := by decide +kernel
theorem dX6_changeToTrial_52 : decode cX6_changeToTrial 52 = .ok (.invokevirtual 110, 3) := by decide +kernel
theorem dX6_changeToTrial_55 : decode cX6_changeToTrial 55 = .ok (.aload_n 0, 1) := by decide +kernel
theorem dX6_changeToTrial_56 : decode cX6_changeToTrial 56 = .ok (.getfield 10, 3) := by decide +kernel
theorem dX6_changeToTrial_59 : decode cX6_changeToTrial 59 = .ok (.aload_n 0, 1) := by decide +kernel
theorem dX6_changeToTrial_60 : decode cX6_changeToTrial 60 = .ok (.getfield 30, 3) := by decide +kernel
theorem dX6_changeToTrial_63 : decode cX6_changeToTrial 63 = .ok (.invokevirtual 339, 3) := by decide +kernel
theorem dX6_changeToTrial_66 : decode cX6_changeToTrial 66 = .ok (.aload_n 0, 1) := by decide +kernel
theorem dX6_changeToTrial_67 : decode cX6_changeToTrial 67 = .ok (.getfield 36, 3) := by decide +kernel
theorem dX6_changeToTrial_70 : decode cX6_changeToTrial 70 = .ok (.getfield 178, 3) := by decide +kernel
theorem dX6_changeToTrial_73 : decode cX6_changeToTrial 73 = .ok (.ireturn, 1) := by decide +kernel
theorem dJ6_bitCount_0f7a4_0 : decode cJ6_bitCount_0f7a4 0 = .ok (.iload_n 0, 1) := by decide +kernel
theorem dJ6_bitCount_0f7a4_1 : decode cJ6_bitCount_0f7a4 1 = .ok (.iload_n 0, 1) := by decide +kernel
theorem dJ6_bitCount_0f7a4_2 : decode cJ6_bitCount_0f7a4 2 = .ok (.iconst 1, 1) := by decide +kernel
theorem dJ6_bitCount_0f7a4_3 : decode cJ6_bitCount_0f7a4 3 = .ok (.iushr, 1) := by decide +kernel
theorem dJ6_bitCount_0f7a4_4 : decode cJ6_bitCount_0f7a4 4 = .ok (.ldc_w 265, 3) := by decide +kernel
theorem dJ6_bitCount_0f7a4_7 : decode cJ6_bitCount_0f7a4 7 = .ok (.iand, 1) := by decide +kernel
theorem dJ6_bitCount_0f7a4_8 : decode cJ6_bitCount_0f7a4 8 = .ok (.isub, 1) := by decide +kernel
theorem dJ6_bitCount_0f7a4_9 : decode cJ6_bitCount_0f7a4 9 = .ok (.istore_n 0, 1) := by decide +kernel
theorem dJ6_bitCount_0f7a4_10 : decode cJ6_bitCount_0f7a4 10 = .ok (.iload_n 0, 1) := by decide +kernel
theorem dJ6_bitCount_0f7a4_11 : decode cJ6_bitCount_0f7a4 11 = .ok (.ldc_w 266, 3) := by decide +kernel
theorem dJ6_bitCount_0f7a4_14 : decode cJ6_bitCount_0f7a4 14 = .ok (.iand, 1) := by decide +kernel
theorem dJ6_bitCount_0f7a4_15 : decode cJ6_bitCount_0f7a4 15 = .ok (.iload_n 0, 1) := by decide +kernel
theorem dJ6_bitCount_0f7a4_16 : decode cJ6_bitCount_0f7a4 16 = .ok (.iconst 2, 1) := by decide +kernel
theorem dJ6_bitCount_0f7a4_17 : decode cJ6_bitCount_0f7a4 17 = .ok (.iushr, 1) := by decide +kernel
theorem dJ6_bitCount_0f7a4_18 : decode cJ6_bitCount_0f7a4 18 = .ok (.ldc_w 266, 3) := by decide +kernel
theorem dJ6_bitCount_0f7a4_21 : decode cJ6_bitCount_0f7a4 21 = .ok (.iand, 1) := by decide +kernel
theorem dJ6_bitCount_0f7a4_22 : decode cJ6_bitCount_0f7a4 22 = .ok (.iadd, 1) := by decide +kernel
theorem dJ6_bitCount_0f7a4_23 : decode cJ6_bitCount_0f7a4 23 = .ok (.istore_n 0, 1) := by decide +kernel
theorem dJ6_bitCount_0f7a4_24 : decode cJ6_bitCount_0f7a4 24 = .ok (.iload_n 0, 1) := by decide +kernel
theorem dJ6_bitCount_0f7a4_25 : decode cJ6_bitCount_0f7a4 25 = .ok (.iload_n 0, 1) := by decide +kernel
theorem dJ6_bitCount_0f7a4_26 : decode cJ6_bitCount_0f7a4 26 = .ok (.iconst 4, 1) := by decide +kernel
theorem dJ6_bitCount_0f7a4_27 : decode cJ6_bitCount_0f7a4 27 = .ok (.iushr, 1) := by decide +kernel
theorem dJ6_bitCount_0f7a4_28 : decode cJ6_bitCount_0f7a4 28 = .ok (.iadd, 1) := by decide +kernel
theorem dJ6_bitCount_0f7a4_29 : decode cJ6_bitCount_0f7a4 29 = .ok (.ldc_w 267, 3) := by decide +kernel
theorem dJ6_bitCount_0f7a4_32 : decode cJ6_bitCount_0f7a4 32 = .ok (.iand, 1) := by decide +kernel
theorem dJ6_bitCount_0f7a4_33 : decode cJ6_bitCount_0f7a4 33 = .ok (.istore_n 0, 1) := by decide +kernel
theorem dJ6_bitCount_0f7a4_34 : decode cJ6_bitCount_0f7a4 34 = .ok (.iload_n 0, 1) := by decide +kernel
theorem dJ6_bitCount_0f7a4_35 : decode cJ6_bitCount_0f7a4 35 = .ok (.iload_n 0, 1) := by decide +kernel
theorem dJ6_bitCount_0f7a4_36 : decode cJ6_bitCount_0f7a4 36 = .ok (.bipush 8, 2) := by decide +kernel
theorem dJ6_bitCount_0f7a4_38 : decode cJ6_bitCount_0f7a4 38 = .ok (.iushr, 1) := by decide +kernel
theorem dJ6_bitCount_0f7a4_39 : decode cJ6_bitCount_0f7a4 39 = .ok (.iadd, 1) := by decide +kernel
theorem dJ6_bitCount_0f7a4_40 : decode cJ6_bitCount_0f7a4 40 = .ok (.istore_n 0, 1) := by decide +kernel
theorem dJ6_bitCount_0f7a4_41 : decode cJ6_bitCount_0f7a4 41 = .ok (.iload_n 0, 1) := by decide +kernel
theorem dJ6_bitCount_0f7a4_42 : decode cJ6_bitCount_0f7a4 42 = .ok (.iload_n 0, 1) := by decide +kernel
theorem dJ6_bitCount_0f7a4_43 : decode cJ6_bitCount_0f7a4 43 = .ok (.bipush 16, 2) := by decide +kernel
theorem dJ6_bitCount_0f7a4_45 : decode cJ6_bitCount_0f7a4 45 = .ok (.iushr, 1) := by decide +kernel
theorem dJ6_bitCount_0f7a4_46 : decode cJ6_bitCount_0f7a4 46 = .ok (.iadd, 1) := by decide +kernel
theorem dJ6_bitCount_0f7a4_47 : decode cJ6_bitCount_0f7a4 47 = .ok (.istore_n 0, 1) := by decide +kernel
theorem dJ6_bitCount_0f7a4_48 : decode cJ6_bitCount_0f7a4 48 = .ok (.iload_n 0, 1) := by decide +kernel
theorem dJ6_bitCount_0f7a4_49 : decode cJ6_bitCount_0f7a4 49 = .ok (.bipush 63, 2) := by decide +kernel
theorem dJ6_bitCount_0f7a4_51 : decode cJ6_bitCount_0f7a4 51 = .ok (.iand, 1) := by decide +kernel
theorem dJ6_bitCount_0f7a4_52 : decode cJ6_bitCount_0f7a4 52 = .ok (.ireturn, 1) := by decide +kernel
theorem dJ9_max_7cf53_0 : decode cJ9_max_7cf53 0 = .ok (.iload_n 0, 1) := by decide +kernel
theorem dJ9_max_7cf53_1 : decode cJ9_max_7cf53 1 = .ok (.iload_n 1, 1) := by decide +kernel
theorem dJ9_max_7cf53_2 : decode cJ9_max_7cf53 2 = .ok (.if_icmp .lt 7, 3) := by decide +kernel
theorem dJ9_max_7cf53_5 : decode cJ9_max_7cf53 5 = .ok (.iload_n 0, 1) := by decide +kernel
theorem dJ9_max_7cf53_6 : decode cJ9_max_7cf53 6 = .ok (.goto 4, 3) := by decide +kernel
theorem dJ9_max_7cf53_9 : decode cJ9_max_7cf53 9 = .ok (.iload_n 1, 1) := by decide +kernel
theorem dJ9_max_7cf53_10 : decode cJ9_max_7cf53 10 = .ok (.ireturn, 1) := by decide +kernel
theorem dL_cell_0 : decode cL_cell 0 = .ok (.iload_n 1, 1) := by decide +kernel
theorem dL_cell_1 : decode cL_cell 1 = .ok (.aload_n 0, 1) := by decide +kernel
theorem dL_cell_2 : decode cL_cell 2 = .ok (.arraylength, 1) := by decide +kernel
theorem dL_cell_3 : decode cL_cell 3 = .ok (.if_icmp .ge 9, 3) := by decide +kernel
theorem dL_cell_6 : decode cL_cell 6 = .ok (.aload_n 0, 1) := by decide +kernel
theorem dL_cell_7 : decode cL_cell 7 = .ok (.iload_n 1, 1) := by decide +kernel
theorem dL_cell_8 : decode cL_cell 8 = .ok (.iaload, 1) := by decide +kernel
theorem dL_cell_9 : decode cL_cell 9 = .ok (.goto 11, 3) := by decide +kernel
theorem dL_cell_12 : decode cL_cell 12 = .ok (.ldc 7, 2) := by decide +kernel
theorem dL_cell_14 : decode cL_cell 14 = .ok (.iload_n 1, 1) := by decide +kernel
theorem dL_cell_15 : decode cL_cell 15 = .ok (.sipush 617, 3) := by decide +kernel
theorem dL_cell_18 : decode cL_cell 18 = .ok (.iadd, 1) := by decide +kernel
theorem dL_cell_19 : decode cL_cell 19 = .ok (.imul, 1) := by decide +kernel
theorem dL_cell_20 : decode cL_cell 20 = .ok (.ireturn, 1) := by decide +kernel
theorem dL_at_0 : decode cL_at 0 = .ok (.iload_n 0, 1) := by decide +kernel
theorem dL_at_1 : decode cL_at 1 = .ok (.iconst 1, 1) := by decide +kernel
theorem dL_at_2 : decode cL_at 2 = .ok (.iushr, 1) := by decide +kernel
theorem dL_at_3 : decode cL_at 3 = .ok (.iload_n 1, 1) := by decide +kernel
theorem dL_at_4 : decode cL_at 4 = .ok (.irem, 1) := by decide +kernel
theorem dL_at_5 : decode cL_at 5 = .ok (.ireturn, 1) := by decide +kernel
theorem dL_ends_0 : decode cL_ends 0 = .ok (.iconst 0, 1) := by decide +kernel
theorem dL_ends_1 : decode cL_ends 1 = .ok (.istore 5, 2) := by decide +kernel
theorem dL_ends_3 : decode cL_ends 3 = .ok (.iconst 0, 1) := by decide +kernel
theorem dL_ends_4 : decode cL_ends 4 = .ok (.istore 6, 2) := by decide +kernel
theorem dL_ends_6 : decode cL_ends 6 = .ok (.iload 6, 2) := by decide +kernel
theorem dL_ends_8 : decode cL_ends 8 = .ok (.aload_n 0, 1) := by decide +kernel
theorem dL_ends_9 : decode cL_ends 9 = .ok (.iconst 4, 1) := by decide +kernel
theorem dL_ends_10 : decode cL_ends 10 = .ok (.iaload, 1) := by decide +kernel
theorem dL_ends_11 : decode cL_ends 11 = .ok (.if_icmp .ge 31, 3) := by decide +kernel
theorem dL_ends_14 : decode cL_ends 14 = .ok (.iload 6, 2) := by decide +kernel
theorem dL_ends_16 : decode cL_ends 16 = .ok (.iload_n 3, 1) := by decide +kernel
theorem dL_ends_17 : decode cL_ends 17 = .ok (.if_icmp .gt 25, 3) := by decide +kernel
theorem dL_ends_20 : decode cL_ends 20 = .ok (.iload 5, 2) := by decide +kernel
theorem dL_ends_22 : decode cL_ends 22 = .ok (.iload 6, 2) := by decide +kernel
theorem dL_ends_24 : decode cL_ends 24 = .ok (.iconst 1, 1) := by decide +kernel
theorem dL_ends_25 : decode cL_ends 25 = .ok (.iadd, 1) := by decide +kernel
theorem dL_ends_26 : decode cL_ends 26 = .ok (.aload_n 1, 1) := by decide +kernel
theorem dL_ends_27 : decode cL_ends 27 = .ok (.iload_n 3, 1) := by decide +kernel
theorem dL_ends_28 : decode cL_ends 28 = .ok (.iload 6, 2) := by decide +kernel
theorem dL_ends_30 : decode cL_ends 30 = .ok (.isub, 1) := by decide +kernel
theorem dL_ends_31 : decode cL_ends 31 = .ok (.iaload, 1) := by decide +kernel
theorem dL_ends_32 : decode cL_ends 32 = .ok (.imul, 1) := by decide +kernel
theorem dL_ends_33 : decode cL_ends 33 = .ok (.iadd, 1) := by decide +kernel
theorem dL_ends_34 : decode cL_ends 34 = .ok (.istore 5, 2) := by decide +kernel
theorem dL_ends_36 : decode cL_ends 36 = .ok (.iinc 6 1, 3) := by decide +kernel
theorem dL_ends_39 : decode cL_ends 39 = .ok (.goto (-33), 3) := by decide +kernel
theorem dL_ends_42 : decode cL_ends 42 = .ok (.iload 4, 2) := by decide +kernel
theorem dL_ends_44 : decode cL_ends 44 = .ok (.aload_n 0, 1) := by decide +kernel
theorem dL_ends_45 : decode cL_ends 45 = .ok (.bipush 7, 2) := by decide +kernel
theorem dL_ends_47 : decode cL_ends 47 = .ok (.iaload, 1) := by decide +kernel
theorem dL_ends_48 : decode cL_ends 48 = .ok (.if_icmp .lt 18, 3) := by decide +kernel
theorem dL_ends_51 : decode cL_ends 51 = .ok (.iload 5, 2) := by decide +kernel
theorem dL_ends_53 : decode cL_ends 53 = .ok (.aload_n 0, 1) := by decide +kernel
theorem dL_ends_54 : decode cL_ends 54 = .ok (.iconst 5, 1) := by decide +kernel
theorem dL_ends_55 : decode cL_ends 55 = .ok (.iaload, 1) := by decide +kernel
theorem dL_ends_56 : decode cL_ends 56 = .ok (.irem, 1) := by decide +kernel
theorem dL_ends_57 : decode cL_ends 57 = .ok (.aload_n 0, 1) := by decide +kernel
theorem dL_ends_58 : decode cL_ends 58 = .ok (.bipush 6, 2) := by decide +kernel
theorem dL_ends_60 : decode cL_ends 60 = .ok (.iaload, 1) := by decide +kernel
theorem dL_ends_61 : decode cL_ends 61 = .ok (.if_icmp .ne 5, 3) := by decide +kernel
theorem dL_ends_64 : decode cL_ends 64 = .ok (.iconst 1, 1) := by decide +kernel
theorem dL_ends_65 : decode cL_ends 65 = .ok (.ireturn, 1) := by decide +kernel
theorem dL_ends_66 : decode cL_ends 66 = .ok (.iload 4, 2) := by decide +kernel
theorem dL_ends_68 : decode cL_ends 68 = .ok (.aload_n 0, 1) := by decide +kernel
theorem dL_ends_69 : decode cL_ends 69 = .ok (.bipush 8, 2) := by decide +kernel
theorem dL_ends_71 : decode cL_ends 71 = .ok (.iaload, 1) := by decide +kernel
theorem dL_ends_72 : decode cL_ends 72 = .ok (.if_icmp .ne 7, 3) := by decide +kernel
theorem dL_ends_75 : decode cL_ends 75 = .ok (.iconst 2, 1) := by decide +kernel
theorem dL_ends_76 : decode cL_ends 76 = .ok (.goto 15, 3) := by decide +kernel
theorem dL_ends_79 : decode cL_ends 79 = .ok (.iload_n 3, 1) := by decide +kernel
theorem dL_ends_80 : decode cL_ends 80 = .ok (.iload_n 2, 1) := by decide +kernel
theorem dL_ends_81 : decode cL_ends 81 = .ok (.iconst 1, 1) := by decide +kernel
theorem dL_ends_82 : decode cL_ends 82 = .ok (.isub, 1) := by decide +kernel
theorem dL_ends_83 : decode cL_ends 83 = .ok (.if_icmp .ne 7, 3) := by decide +kernel
theorem dL_ends_86 : decode cL_ends 86 = .ok (.iconst 3, 1) := by decide +kernel
theorem dL_ends_87 : decode cL_ends 87 = .ok (.goto 4, 3) := by decide +kernel
theorem dL_ends_90 : decode cL_ends 90 = .ok (.iconst 0, 1) := by decide +kernel
theorem dL_ends_91 : decode cL_ends 91 = .ok (.ireturn, 1) := by decide +kernel
theorem dL_slot_0 : decode cL_slot 0 = .ok (.iconst 0, 1) := by decide +kernel
theorem dL_slot_1 : decode cL_slot 1 = .ok (.istore 5, 2) := by decide +kernel
theorem dL_slot_3 : decode cL_slot 3 = .ok (.iload 5, 2) := by decide +kernel
theorem dL_slot_5 : decode cL_slot 5 = .ok (.bipush 60, 2) := by decide +kernel
theorem dL_slot_7 : decode cL_slot 7 = .ok (.if_icmp .ge 30, 3) := by decide +kernel
theorem dL_slot_10 : decode cL_slot 10 = .ok (.aload_n 1, 1) := by decide +kernel
theorem dL_slot_11 : decode cL_slot 11 = .ok (.iload 5, 2) := by decide +kernel
theorem dL_slot_13 : decode cL_slot 13 = .ok (.iaload, 1) := by decide +kernel
theorem dL_slot_14 : decode cL_slot 14 = .ok (.iload 4, 2) := by decide +kernel
theorem dL_slot_16 : decode cL_slot 16 = .ok (.if_icmp .ne 15, 3) := by decide +kernel
theorem dL_slot_19 : decode cL_slot 19 = .ok (.aload_n 0, 1) := by decide +kernel
theorem dL_slot_20 : decode cL_slot 20 = .ok (.iload 5, 2) := by decide +kernel
theorem dL_slot_22 : decode cL_slot 22 = .ok (.laload, 1) := by decide +kernel
theorem dL_slot_23 : decode cL_slot 23 = .ok (.lload_n 2, 1) := by decide +kernel
theorem dL_slot_24 : decode cL_slot 24 = .ok (.lcmp, 1) := by decide +kernel
theorem dL_slot_25 : decode cL_slot 25 = .ok (.ifCond .ne 6, 3) := by decide +kernel
theorem dL_slot_28 : decode cL_slot 28 = .ok (.iload 5, 2) := by decide +kernel
theorem dL_slot_30 : decode cL_slot 30 = .ok (.ireturn, 1) := by decide +kernel
theorem dL_slot_31 : decode cL_slot 31 = .ok (.iinc 5 1, 3) := by decide +kernel
theorem dL_slot_34 : decode cL_slot 34 = .ok (.goto (-31), 3) := by decide +kernel
theorem dL_slot_37 : decode cL_slot 37 = .ok (.iconst (-1), 1) := by decide +kernel
theorem dL_slot_38 : decode cL_slot 38 = .ok (.ireturn, 1) := by decide +kernel
theorem dL_lay_0 : decode cL_lay 0 = .ok (.bipush 16, 2) := by decide +kernel
theorem dL_lay_2 : decode cL_lay 2 = .ok (.newarray .long, 2) := by decide +kernel
theorem dL_lay_4 : decode cL_lay 4 = .ok (.astore 10, 2) := by decide +kernel
theorem dL_lay_6 : decode cL_lay 6 = .ok (.bipush 16, 2) := by decide +kernel
theorem dL_lay_8 : decode cL_lay 8 = .ok (.newarray .int, 2) := by decide +kernel
theorem dL_lay_10 : decode cL_lay 10 = .ok (.astore 11, 2) := by decide +kernel
theorem dL_lay_12 : decode cL_lay 12 = .ok (.bipush 16, 2) := by decide +kernel
theorem dL_lay_14 : decode cL_lay 14 = .ok (.newarray .int, 2) := by decide +kernel
theorem dL_lay_16 : decode cL_lay 16 = .ok (.astore 12, 2) := by decide +kernel
theorem dL_lay_18 : decode cL_lay 18 = .ok (.iconst 0, 1) := by decide +kernel
theorem dL_lay_19 : decode cL_lay 19 = .ok (.istore 13, 2) := by decide +kernel
theorem dL_lay_21 : decode cL_lay 21 = .ok (.iconst 0, 1) := by decide +kernel
theorem dL_lay_22 : decode cL_lay 22 = .ok (.istore 14, 2) := by decide +kernel
theorem dL_lay_24 : decode cL_lay 24 = .ok (.iconst 0, 1) := by decide +kernel
theorem dL_lay_25 : decode cL_lay 25 = .ok (.istore 15, 2) := by decide +kernel
theorem dL_lay_27 : decode cL_lay 27 = .ok (.iload 15, 2) := by decide +kernel
theorem dL_lay_29 : decode cL_lay 29 = .ok (.iload 9, 2) := by decide +kernel
theorem dL_lay_31 : decode cL_lay 31 = .ok (.if_icmp .ge 84, 3) := by decide +kernel
theorem dL_lay_34 : decode cL_lay 34 = .ok (.aload 10, 2) := by decide +kernel
theorem dL_lay_36 : decode cL_lay 36 = .ok (.iload 13, 2) := by decide +kernel
theorem dL_lay_38 : decode cL_lay 38 = .ok (.aload 10, 2) := by decide +kernel
theorem dL_lay_40 : decode cL_lay 40 = .ok (.iload 13, 2) := by decide +kernel
theorem dL_lay_42 : decode cL_lay 42 = .ok (.laload, 1) := by decide +kernel
theorem dL_lay_43 : decode cL_lay 43 = .ok (.ldc2_w 8, 3) := by decide +kernel
theorem dL_lay_46 : decode cL_lay 46 = .ok (.lmul, 1) := by decide +kernel
theorem dL_lay_47 : decode cL_lay 47 = .ok (.aload 8, 2) := by decide +kernel
theorem dL_lay_49 : decode cL_lay 49 = .ok (.iload 15, 2) := by decide +kernel
theorem dL_lay_51 : decode cL_lay 51 = .ok (.iaload, 1) := by decide +kernel
theorem dL_lay_52 : decode cL_lay 52 = .ok (.i2l, 1) := by decide +kernel
theorem dL_lay_53 : decode cL_lay 53 = .ok (.ladd, 1) := by decide +kernel
theorem dL_lay_54 : decode cL_lay 54 = .ok (.lastore, 1) := by decide +kernel
theorem dL_lay_55 : decode cL_lay 55 = .ok (.aload 11, 2) := by decide +kernel
theorem dL_lay_57 : decode cL_lay 57 = .ok (.iload 13, 2) := by decide +kernel
theorem dL_lay_59 : decode cL_lay 59 = .ok (.iload 15, 2) := by decide +kernel
theorem dL_lay_61 : decode cL_lay 61 = .ok (.iload 14, 2) := by decide +kernel
theorem dL_lay_63 : decode cL_lay 63 = .ok (.isub, 1) := by decide +kernel
theorem dL_lay_64 : decode cL_lay 64 = .ok (.iconst 1, 1) := by decide +kernel
theorem dL_lay_65 : decode cL_lay 65 = .ok (.iadd, 1) := by decide +kernel
theorem dL_lay_66 : decode cL_lay 66 = .ok (.iastore, 1) := by decide +kernel
theorem dL_lay_67 : decode cL_lay 67 = .ok (.aload 12, 2) := by decide +kernel
theorem dL_lay_69 : decode cL_lay 69 = .ok (.iload 13, 2) := by decide +kernel
theorem dL_lay_71 : decode cL_lay 71 = .ok (.aload_n 0, 1) := by decide +kernel
theorem dL_lay_72 : decode cL_lay 72 = .ok (.aload 8, 2) := by decide +kernel
theorem dL_lay_74 : decode cL_lay 74 = .ok (.iload 9, 2) := by decide +kernel
theorem dL_lay_76 : decode cL_lay 76 = .ok (.iload 15, 2) := by decide +kernel
theorem dL_lay_78 : decode cL_lay 78 = .ok (.iload 15, 2) := by decide +kernel
theorem dL_lay_80 : decode cL_lay 80 = .ok (.iload 14, 2) := by decide +kernel
theorem dL_lay_82 : decode cL_lay 82 = .ok (.isub, 1) := by decide +kernel
theorem dL_lay_83 : decode cL_lay 83 = .ok (.iconst 1, 1) := by decide +kernel
theorem dL_lay_84 : decode cL_lay 84 = .ok (.iadd, 1) := by decide +kernel
theorem dL_lay_85 : decode cL_lay 85 = .ok (.invokestatic 10, 3) := by decide +kernel
theorem dL_lay_88 : decode cL_lay 88 = .ok (.iastore, 1) := by decide +kernel
theorem dL_lay_89 : decode cL_lay 89 = .ok (.aload 12, 2) := by decide +kernel
theorem dL_lay_91 : decode cL_lay 91 = .ok (.iload 13, 2) := by decide +kernel
theorem dL_lay_93 : decode cL_lay 93 = .ok (.iaload, 1) := by decide +kernel
theorem dL_lay_94 : decode cL_lay 94 = .ok (.ifCond .ne 6, 3) := by decide +kernel
theorem dL_lay_97 : decode cL_lay 97 = .ok (.goto 12, 3) := by decide +kernel
theorem dL_lay_100 : decode cL_lay 100 = .ok (.iinc 13 1, 3) := by decide +kernel
theorem dL_lay_103 : decode cL_lay 103 = .ok (.iload 15, 2) := by decide +kernel
theorem dL_lay_105 : decode cL_lay 105 = .ok (.iconst 1, 1) := by decide +kernel
theorem dL_lay_106 : decode cL_lay 106 = .ok (.iadd, 1) := by decide +kernel
theorem dL_lay_107 : decode cL_lay 107 = .ok (.istore 14, 2) := by decide +kernel
theorem dL_lay_109 : decode cL_lay 109 = .ok (.iinc 15 1, 3) := by decide +kernel
theorem dL_lay_112 : decode cL_lay 112 = .ok (.goto (-85), 3) := by decide +kernel
theorem dL_lay_115 : decode cL_lay 115 = .ok (.bipush 60, 2) := by decide +kernel
theorem dL_lay_117 : decode cL_lay 117 = .ok (.newarray .int, 2) := by decide +kernel
theorem dL_lay_119 : decode cL_lay 119 = .ok (.astore 15, 2) := by decide +kernel
theorem dL_lay_121 : decode cL_lay 121 = .ok (.iconst 0, 1) := by decide +kernel
theorem dL_lay_122 : decode cL_lay 122 = .ok (.istore 16, 2) := by decide +kernel
theorem dL_lay_124 : decode cL_lay 124 = .ok (.iconst 0, 1) := by decide +kernel
theorem dL_lay_125 : decode cL_lay 125 = .ok (.istore 17, 2) := by decide +kernel
theorem dL_lay_127 : decode cL_lay 127 = .ok (.iconst 0, 1) := by decide +kernel
theorem dL_lay_128 : decode cL_lay 128 = .ok (.istore 18, 2) := by decide +kernel
theorem dL_lay_130 : decode cL_lay 130 = .ok (.iload 18, 2) := by decide +kernel
theorem dL_lay_132 : decode cL_lay 132 = .ok (.bipush 60, 2) := by decide +kernel
theorem dL_lay_134 : decode cL_lay 134 = .ok (.if_icmp .ge 40, 3) := by decide +kernel
theorem dL_lay_137 : decode cL_lay 137 = .ok (.aload 15, 2) := by decide +kernel
theorem dL_lay_139 : decode cL_lay 139 = .ok (.iload 18, 2) := by decide +kernel
theorem dL_lay_141 : decode cL_lay 141 = .ok (.aload 6, 2) := by decide +kernel
theorem dL_lay_143 : decode cL_lay 143 = .ok (.iload 18, 2) := by decide +kernel
theorem dL_lay_145 : decode cL_lay 145 = .ok (.iaload, 1) := by decide +kernel
theorem dL_lay_146 : decode cL_lay 146 = .ok (.iastore, 1) := by decide +kernel
theorem dL_lay_147 : decode cL_lay 147 = .ok (.iload 16, 2) := by decide +kernel
theorem dL_lay_149 : decode cL_lay 149 = .ok (.aload 5, 2) := by decide +kernel
theorem dL_lay_151 : decode cL_lay 151 = .ok (.iload 18, 2) := by decide +kernel
theorem dL_lay_153 : decode cL_lay 153 = .ok (.iaload, 1) := by decide +kernel
theorem dL_lay_154 : decode cL_lay 154 = .ok (.iadd, 1) := by decide +kernel
theorem dL_lay_155 : decode cL_lay 155 = .ok (.istore 16, 2) := by decide +kernel
theorem dL_lay_157 : decode cL_lay 157 = .ok (.aload 5, 2) := by decide +kernel
theorem dL_lay_159 : decode cL_lay 159 = .ok (.iload 18, 2) := by decide +kernel
theorem dL_lay_161 : decode cL_lay 161 = .ok (.iaload, 1) := by decide +kernel
theorem dL_lay_162 : decode cL_lay 162 = .ok (.ifCond .ne 6, 3) := by decide +kernel
theorem dL_lay_165 : decode cL_lay 165 = .ok (.iinc 17 1, 3) := by decide +kernel
theorem dL_lay_168 : decode cL_lay 168 = .ok (.iinc 18 1, 3) := by decide +kernel
theorem dL_lay_171 : decode cL_lay 171 = .ok (.goto (-41), 3) := by decide +kernel
theorem dL_lay_174 : decode cL_lay 174 = .ok (.iconst 0, 1) := by decide +kernel
theorem dL_lay_175 : decode cL_lay 175 = .ok (.istore 18, 2) := by decide +kernel
theorem dL_lay_177 : decode cL_lay 177 = .ok (.iload 18, 2) := by decide +kernel
theorem dL_lay_179 : decode cL_lay 179 = .ok (.aload_n 0, 1) := by decide +kernel
theorem dL_lay_180 : decode cL_lay 180 = .ok (.iload 7, 2) := by decide +kernel
theorem dL_lay_182 : decode cL_lay 182 = .ok (.iaload, 1) := by decide +kernel
theorem dL_lay_183 : decode cL_lay 183 = .ok (.if_icmp .ge 39, 3) := by decide +kernel
theorem dL_lay_186 : decode cL_lay 186 = .ok (.aload_n 2, 1) := by decide +kernel
theorem dL_lay_187 : decode cL_lay 187 = .ok (.bipush 16, 2) := by decide +kernel
theorem dL_lay_189 : decode cL_lay 189 = .ok (.iload 7, 2) := by decide +kernel
theorem dL_lay_191 : decode cL_lay 191 = .ok (.imul, 1) := by decide +kernel
theorem dL_lay_192 : decode cL_lay 192 = .ok (.iload 18, 2) := by decide +kernel
theorem dL_lay_194 : decode cL_lay 194 = .ok (.iadd, 1) := by decide +kernel
theorem dL_lay_195 : decode cL_lay 195 = .ok (.iaload, 1) := by decide +kernel
theorem dL_lay_196 : decode cL_lay 196 = .ok (.ifCond .le 20, 3) := by decide +kernel
theorem dL_lay_199 : decode cL_lay 199 = .ok (.aload 15, 2) := by decide +kernel
theorem dL_lay_201 : decode cL_lay 201 = .ok (.aload_n 3, 1) := by decide +kernel
theorem dL_lay_202 : decode cL_lay 202 = .ok (.bipush 16, 2) := by decide +kernel
theorem dL_lay_204 : decode cL_lay 204 = .ok (.iload 7, 2) := by decide +kernel
theorem dL_lay_206 : decode cL_lay 206 = .ok (.imul, 1) := by decide +kernel
theorem dL_lay_207 : decode cL_lay 207 = .ok (.iload 18, 2) := by decide +kernel
theorem dL_lay_209 : decode cL_lay 209 = .ok (.iadd, 1) := by decide +kernel
theorem dL_lay_210 : decode cL_lay 210 = .ok (.iaload, 1) := by decide +kernel
theorem dL_lay_211 : decode cL_lay 211 = .ok (.dup2, 1) := by decide +kernel
theorem dL_lay_212 : decode cL_lay 212 = .ok (.iaload, 1) := by decide +kernel
theorem dL_lay_213 : decode cL_lay 213 = .ok (.iconst 1, 1) := by decide +kernel
theorem dL_lay_214 : decode cL_lay 214 = .ok (.isub, 1) := by decide +kernel
theorem dL_lay_215 : decode cL_lay 215 = .ok (.iastore, 1) := by decide +kernel
theorem dL_lay_216 : decode cL_lay 216 = .ok (.iinc 18 1, 3) := by decide +kernel
theorem dL_lay_219 : decode cL_lay 219 = .ok (.goto (-42), 3) := by decide +kernel
theorem dL_lay_222 : decode cL_lay 222 = .ok (.iconst 0, 1) := by decide +kernel
theorem dL_lay_223 : decode cL_lay 223 = .ok (.istore 18, 2) := by decide +kernel
theorem dL_lay_225 : decode cL_lay 225 = .ok (.iconst 0, 1) := by decide +kernel
theorem dL_lay_226 : decode cL_lay 226 = .ok (.istore 19, 2) := by decide +kernel
theorem dL_lay_228 : decode cL_lay 228 = .ok (.iconst 0, 1) := by decide +kernel
theorem dL_lay_229 : decode cL_lay 229 = .ok (.istore 20, 2) := by decide +kernel
theorem dL_lay_231 : decode cL_lay 231 = .ok (.iload 20, 2) := by decide +kernel
theorem dL_lay_233 : decode cL_lay 233 = .ok (.iload 13, 2) := by decide +kernel
theorem dL_lay_235 : decode cL_lay 235 = .ok (.if_icmp .ge 103, 3) := by decide +kernel
theorem dL_lay_238 : decode cL_lay 238 = .ok (.aload 4, 2) := by decide +kernel
theorem dL_lay_240 : decode cL_lay 240 = .ok (.aload 5, 2) := by decide +kernel
theorem dL_lay_242 : decode cL_lay 242 = .ok (.aload 10, 2) := by decide +kernel
theorem dL_lay_244 : decode cL_lay 244 = .ok (.iload 20, 2) := by decide +kernel
theorem dL_lay_246 : decode cL_lay 246 = .ok (.laload, 1) := by decide +kernel
theorem dL_lay_247 : decode cL_lay 247 = .ok (.aload 11, 2) := by decide +kernel
theorem dL_lay_249 : decode cL_lay 249 = .ok (.iload 20, 2) := by decide +kernel
theorem dL_lay_251 : decode cL_lay 251 = .ok (.iaload, 1) := by decide +kernel
theorem dL_lay_252 : decode cL_lay 252 = .ok (.invokestatic 16, 3) := by decide +kernel
theorem dL_lay_255 : decode cL_lay 255 = .ok (.ifCond .ge 7, 3) := by decide +kernel
theorem dL_lay_258 : decode cL_lay 258 = .ok (.iconst 1, 1) := by decide +kernel
theorem dL_lay_259 : decode cL_lay 259 = .ok (.goto 4, 3) := by decide +kernel
theorem dL_lay_262 : decode cL_lay 262 = .ok (.iconst 0, 1) := by decide +kernel
theorem dL_lay_263 : decode cL_lay 263 = .ok (.istore 21, 2) := by decide +kernel
theorem dL_lay_265 : decode cL_lay 265 = .ok (.iconst 0, 1) := by decide +kernel
theorem dL_lay_266 : decode cL_lay 266 = .ok (.istore 22, 2) := by decide +kernel
theorem dL_lay_268 : decode cL_lay 268 = .ok (.iload 22, 2) := by decide +kernel
theorem dL_lay_270 : decode cL_lay 270 = .ok (.iload 20, 2) := by decide +kernel
theorem dL_lay_272 : decode cL_lay 272 = .ok (.if_icmp .ge 39, 3) := by decide +kernel
theorem dL_lay_275 : decode cL_lay 275 = .ok (.aload 10, 2) := by decide +kernel
theorem dL_lay_277 : decode cL_lay 277 = .ok (.iload 22, 2) := by decide +kernel
theorem dL_lay_279 : decode cL_lay 279 = .ok (.laload, 1) := by decide +kernel
theorem dL_lay_280 : decode cL_lay 280 = .ok (.aload 10, 2) := by decide +kernel
theorem dL_lay_282 : decode cL_lay 282 = .ok (.iload 20, 2) := by decide +kernel
theorem dL_lay_284 : decode cL_lay 284 = .ok (.laload, 1) := by decide +kernel
theorem dL_lay_285 : decode cL_lay 285 = .ok (.lcmp, 1) := by decide +kernel
theorem dL_lay_286 : decode cL_lay 286 = .ok (.ifCond .ne 19, 3) := by decide +kernel
theorem dL_lay_289 : decode cL_lay 289 = .ok (.aload 11, 2) := by decide +kernel
theorem dL_lay_291 : decode cL_lay 291 = .ok (.iload 22, 2) := by decide +kernel
theorem dL_lay_293 : decode cL_lay 293 = .ok (.iaload, 1) := by decide +kernel
theorem dL_lay_294 : decode cL_lay 294 = .ok (.aload 11, 2) := by decide +kernel
theorem dL_lay_296 : decode cL_lay 296 = .ok (.iload 20, 2) := by decide +kernel
theorem dL_lay_298 : decode cL_lay 298 = .ok (.iaload, 1) := by decide +kernel
theorem dL_lay_299 : decode cL_lay 299 = .ok (.if_icmp .ne 6, 3) := by decide +kernel
theorem dL_lay_302 : decode cL_lay 302 = .ok (.iconst 0, 1) := by decide +kernel
theorem dL_lay_303 : decode cL_lay 303 = .ok (.istore 21, 2) := by decide +kernel
theorem dL_lay_305 : decode cL_lay 305 = .ok (.iinc 22 1, 3) := by decide +kernel
theorem dL_lay_308 : decode cL_lay 308 = .ok (.goto (-40), 3) := by decide +kernel
theorem dL_lay_311 : decode cL_lay 311 = .ok (.iload 21, 2) := by decide +kernel
theorem dL_lay_313 : decode cL_lay 313 = .ok (.ifCond .ne 6, 3) := by decide +kernel
theorem dL_lay_316 : decode cL_lay 316 = .ok (.goto 16, 3) := by decide +kernel
theorem dL_lay_319 : decode cL_lay 319 = .ok (.iinc 18 1, 3) := by decide +kernel
theorem dL_lay_322 : decode cL_lay 322 = .ok (.iload 19, 2) := by decide +kernel
theorem dL_lay_324 : decode cL_lay 324 = .ok (.aload 11, 2) := by decide +kernel
theorem dL_lay_326 : decode cL_lay 326 = .ok (.iload 20, 2) := by decide +kernel
theorem dL_lay_328 : decode cL_lay 328 = .ok (.iaload, 1) := by decide +kernel
theorem dL_lay_329 : decode cL_lay 329 = .ok (.iadd, 1) := by decide +kernel
theorem dL_lay_330 : decode cL_lay 330 = .ok (.istore 19, 2) := by decide +kernel
theorem dL_lay_332 : decode cL_lay 332 = .ok (.iinc 20 1, 3) := by decide +kernel
theorem dL_lay_335 : decode cL_lay 335 = .ok (.goto (-104), 3) := by decide +kernel
theorem dL_lay_338 : decode cL_lay 338 = .ok (.bipush 60, 2) := by decide +kernel
theorem dL_lay_340 : decode cL_lay 340 = .ok (.newarray .int, 2) := by decide +kernel
theorem dL_lay_342 : decode cL_lay 342 = .ok (.astore 20, 2) := by decide +kernel
theorem dL_lay_344 : decode cL_lay 344 = .ok (.iconst 0, 1) := by decide +kernel
theorem dL_lay_345 : decode cL_lay 345 = .ok (.istore 21, 2) := by decide +kernel
theorem dL_lay_347 : decode cL_lay 347 = .ok (.iload 18, 2) := by decide +kernel
theorem dL_lay_349 : decode cL_lay 349 = .ok (.iload 17, 2) := by decide +kernel
theorem dL_lay_351 : decode cL_lay 351 = .ok (.if_icmp .gt 14, 3) := by decide +kernel
theorem dL_lay_354 : decode cL_lay 354 = .ok (.iload 16, 2) := by decide +kernel
theorem dL_lay_356 : decode cL_lay 356 = .ok (.iload 19, 2) := by decide +kernel
theorem dL_lay_358 : decode cL_lay 358 = .ok (.iadd, 1) := by decide +kernel
theorem dL_lay_359 : decode cL_lay 359 = .ok (.sipush 150, 3) := by decide +kernel
theorem dL_lay_362 : decode cL_lay 362 = .ok (.if_icmp .le 137, 3) := by decide +kernel
theorem dL_lay_365 : decode cL_lay 365 = .ok (.iconst 0, 1) := by decide +kernel
theorem dL_lay_366 : decode cL_lay 366 = .ok (.istore 22, 2) := by decide +kernel
theorem dL_lay_368 : decode cL_lay 368 = .ok (.iload 22, 2) := by decide +kernel
theorem dL_lay_370 : decode cL_lay 370 = .ok (.bipush 60, 2) := by decide +kernel
theorem dL_lay_372 : decode cL_lay 372 = .ok (.if_icmp .ge 107, 3) := by decide +kernel
theorem dL_lay_375 : decode cL_lay 375 = .ok (.aload 5, 2) := by decide +kernel
theorem dL_lay_377 : decode cL_lay 377 = .ok (.iload 22, 2) := by decide +kernel
theorem dL_lay_379 : decode cL_lay 379 = .ok (.iaload, 1) := by decide +kernel
theorem dL_lay_380 : decode cL_lay 380 = .ok (.ifCond .eq 93, 3) := by decide +kernel
theorem dL_lay_383 : decode cL_lay 383 = .ok (.aload 15, 2) := by decide +kernel
theorem dL_lay_385 : decode cL_lay 385 = .ok (.iload 22, 2) := by decide +kernel
theorem dL_lay_387 : decode cL_lay 387 = .ok (.iaload, 1) := by decide +kernel
theorem dL_lay_388 : decode cL_lay 388 = .ok (.ifCond .le 6, 3) := by decide +kernel
theorem dL_lay_391 : decode cL_lay 391 = .ok (.goto 82, 3) := by decide +kernel
theorem dL_lay_394 : decode cL_lay 394 = .ok (.iconst 1, 1) := by decide +kernel
theorem dL_lay_395 : decode cL_lay 395 = .ok (.istore 23, 2) := by decide +kernel
theorem dL_lay_397 : decode cL_lay 397 = .ok (.iconst 0, 1) := by decide +kernel
theorem dL_lay_398 : decode cL_lay 398 = .ok (.istore 24, 2) := by decide +kernel
theorem dL_lay_400 : decode cL_lay 400 = .ok (.iload 24, 2) := by decide +kernel
theorem dL_lay_402 : decode cL_lay 402 = .ok (.iload 13, 2) := by decide +kernel
theorem dL_lay_404 : decode cL_lay 404 = .ok (.if_icmp .ge 39, 3) := by decide +kernel
theorem dL_lay_407 : decode cL_lay 407 = .ok (.aload 10, 2) := by decide +kernel
theorem dL_lay_409 : decode cL_lay 409 = .ok (.iload 24, 2) := by decide +kernel
theorem dL_lay_411 : decode cL_lay 411 = .ok (.laload, 1) := by decide +kernel
theorem dL_lay_412 : decode cL_lay 412 = .ok (.aload 4, 2) := by decide +kernel
theorem dL_lay_414 : decode cL_lay 414 = .ok (.iload 22, 2) := by decide +kernel
theorem dL_lay_416 : decode cL_lay 416 = .ok (.laload, 1) := by decide +kernel
theorem dL_lay_417 : decode cL_lay 417 = .ok (.lcmp, 1) := by decide +kernel
theorem dL_lay_418 : decode cL_lay 418 = .ok (.ifCond .ne 19, 3) := by decide +kernel
theorem dL_lay_421 : decode cL_lay 421 = .ok (.aload 11, 2) := by decide +kernel
theorem dL_lay_423 : decode cL_lay 423 = .ok (.iload 24, 2) := by decide +kernel
theorem dL_lay_425 : decode cL_lay 425 = .ok (.iaload, 1) := by decide +kernel
theorem dL_lay_426 : decode cL_lay 426 = .ok (.aload 5, 2) := by decide +kernel
theorem dL_lay_428 : decode cL_lay 428 = .ok (.iload 22, 2) := by decide +kernel
theorem dL_lay_430 : decode cL_lay 430 = .ok (.iaload, 1) := by decide +kernel
theorem dL_lay_431 : decode cL_lay 431 = .ok (.if_icmp .ne 6, 3) := by decide +kernel
theorem dL_lay_434 : decode cL_lay 434 = .ok (.iconst 0, 1) := by decide +kernel
theorem dL_lay_435 : decode cL_lay 435 = .ok (.istore 23, 2) := by decide +kernel
theorem dL_lay_437 : decode cL_lay 437 = .ok (.iinc 24 1, 3) := by decide +kernel
theorem dL_lay_440 : decode cL_lay 440 = .ok (.goto (-40), 3) := by decide +kernel
theorem dL_lay_443 : decode cL_lay 443 = .ok (.iload 23, 2) := by decide +kernel
theorem dL_lay_445 : decode cL_lay 445 = .ok (.ifCond .ne 6, 3) := by decide +kernel
theorem dL_lay_448 : decode cL_lay 448 = .ok (.goto 25, 3) := by decide +kernel
theorem dL_lay_451 : decode cL_lay 451 = .ok (.aload 20, 2) := by decide +kernel
theorem dL_lay_453 : decode cL_lay 453 = .ok (.iload 22, 2) := by decide +kernel
theorem dL_lay_455 : decode cL_lay 455 = .ok (.iconst 1, 1) := by decide +kernel
theorem dL_lay_456 : decode cL_lay 456 = .ok (.iastore, 1) := by decide +kernel
theorem dL_lay_457 : decode cL_lay 457 = .ok (.iinc 21 1, 3) := by decide +kernel
theorem dL_lay_460 : decode cL_lay 460 = .ok (.iinc 17 1, 3) := by decide +kernel
end
section
theorem dL_lay_463 : decode cL_lay 463 = .ok (.iload 16, 2) := by decide +kernel
theorem dL_lay_465 : decode cL_lay 465 = .ok (.aload 5, 2) := by decide +kernel
theorem dL_lay_467 : decode cL_lay 467 = .ok (.iload 22, 2) := by decide +kernel
theorem dL_lay_469 : decode cL_lay 469 = .ok (.iaload, 1) := by decide +kernel
theorem dL_lay_470 : decode cL_lay 470 = .ok (.isub, 1) := by decide +kernel
theorem dL_lay_471 : decode cL_lay 471 = .ok (.istore 16, 2) := by decide +kernel
theorem dL_lay_473 : decode cL_lay 473 = .ok (.iinc 22 1, 3) := by decide +kernel
theorem dL_lay_476 : decode cL_lay 476 = .ok (.goto (-108), 3) := by decide +kernel
theorem dL_lay_479 : decode cL_lay 479 = .ok (.iload 18, 2) := by decide +kernel
theorem dL_lay_481 : decode cL_lay 481 = .ok (.iload 17, 2) := by decide +kernel
theorem dL_lay_483 : decode cL_lay 483 = .ok (.if_icmp .gt 14, 3) := by decide +kernel
theorem dL_lay_486 : decode cL_lay 486 = .ok (.iload 16, 2) := by decide +kernel
theorem dL_lay_488 : decode cL_lay 488 = .ok (.iload 19, 2) := by decide +kernel
theorem dL_lay_490 : decode cL_lay 490 = .ok (.iadd, 1) := by decide +kernel
theorem dL_lay_491 : decode cL_lay 491 = .ok (.sipush 150, 3) := by decide +kernel
theorem dL_lay_494 : decode cL_lay 494 = .ok (.if_icmp .le 5, 3) := by decide +kernel
theorem dL_lay_497 : decode cL_lay 497 = .ok (.iconst (-1), 1) := by decide +kernel
theorem dL_lay_498 : decode cL_lay 498 = .ok (.ireturn, 1) := by decide +kernel
theorem dL_lay_499 : decode cL_lay 499 = .ok (.iconst 0, 1) := by decide +kernel
theorem dL_lay_500 : decode cL_lay 500 = .ok (.istore 22, 2) := by decide +kernel
theorem dL_lay_502 : decode cL_lay 502 = .ok (.iload 22, 2) := by decide +kernel
theorem dL_lay_504 : decode cL_lay 504 = .ok (.bipush 60, 2) := by decide +kernel
theorem dL_lay_506 : decode cL_lay 506 = .ok (.if_icmp .ge 34, 3) := by decide +kernel
theorem dL_lay_509 : decode cL_lay 509 = .ok (.aload 6, 2) := by decide +kernel
theorem dL_lay_511 : decode cL_lay 511 = .ok (.iload 22, 2) := by decide +kernel
theorem dL_lay_513 : decode cL_lay 513 = .ok (.aload 15, 2) := by decide +kernel
theorem dL_lay_515 : decode cL_lay 515 = .ok (.iload 22, 2) := by decide +kernel
theorem dL_lay_517 : decode cL_lay 517 = .ok (.iaload, 1) := by decide +kernel
theorem dL_lay_518 : decode cL_lay 518 = .ok (.iastore, 1) := by decide +kernel
theorem dL_lay_519 : decode cL_lay 519 = .ok (.aload 20, 2) := by decide +kernel
theorem dL_lay_521 : decode cL_lay 521 = .ok (.iload 22, 2) := by decide +kernel
theorem dL_lay_523 : decode cL_lay 523 = .ok (.iaload, 1) := by decide +kernel
theorem dL_lay_524 : decode cL_lay 524 = .ok (.iconst 1, 1) := by decide +kernel
theorem dL_lay_525 : decode cL_lay 525 = .ok (.if_icmp .ne 9, 3) := by decide +kernel
theorem dL_lay_528 : decode cL_lay 528 = .ok (.aload 5, 2) := by decide +kernel
theorem dL_lay_530 : decode cL_lay 530 = .ok (.iload 22, 2) := by decide +kernel
theorem dL_lay_532 : decode cL_lay 532 = .ok (.iconst 0, 1) := by decide +kernel
theorem dL_lay_533 : decode cL_lay 533 = .ok (.iastore, 1) := by decide +kernel
theorem dL_lay_534 : decode cL_lay 534 = .ok (.iinc 22 1, 3) := by decide +kernel
theorem dL_lay_537 : decode cL_lay 537 = .ok (.goto (-35), 3) := by decide +kernel
theorem dL_lay_540 : decode cL_lay 540 = .ok (.aload_n 0, 1) := by decide +kernel
theorem dL_lay_541 : decode cL_lay 541 = .ok (.bipush 11, 2) := by decide +kernel
theorem dL_lay_543 : decode cL_lay 543 = .ok (.dup2, 1) := by decide +kernel
theorem dL_lay_544 : decode cL_lay 544 = .ok (.iaload, 1) := by decide +kernel
theorem dL_lay_545 : decode cL_lay 545 = .ok (.iload 21, 2) := by decide +kernel
theorem dL_lay_547 : decode cL_lay 547 = .ok (.iadd, 1) := by decide +kernel
theorem dL_lay_548 : decode cL_lay 548 = .ok (.iastore, 1) := by decide +kernel
theorem dL_lay_549 : decode cL_lay 549 = .ok (.aload_n 0, 1) := by decide +kernel
theorem dL_lay_550 : decode cL_lay 550 = .ok (.iload 7, 2) := by decide +kernel
theorem dL_lay_552 : decode cL_lay 552 = .ok (.iload 9, 2) := by decide +kernel
theorem dL_lay_554 : decode cL_lay 554 = .ok (.iastore, 1) := by decide +kernel
theorem dL_lay_555 : decode cL_lay 555 = .ok (.iconst 0, 1) := by decide +kernel
theorem dL_lay_556 : decode cL_lay 556 = .ok (.istore 22, 2) := by decide +kernel
theorem dL_lay_558 : decode cL_lay 558 = .ok (.iconst 0, 1) := by decide +kernel
theorem dL_lay_559 : decode cL_lay 559 = .ok (.istore 23, 2) := by decide +kernel
theorem dL_lay_561 : decode cL_lay 561 = .ok (.iload 23, 2) := by decide +kernel
theorem dL_lay_563 : decode cL_lay 563 = .ok (.iload 13, 2) := by decide +kernel
theorem dL_lay_565 : decode cL_lay 565 = .ok (.if_icmp .ge 171, 3) := by decide +kernel
theorem dL_lay_568 : decode cL_lay 568 = .ok (.aload 4, 2) := by decide +kernel
theorem dL_lay_570 : decode cL_lay 570 = .ok (.aload 5, 2) := by decide +kernel
theorem dL_lay_572 : decode cL_lay 572 = .ok (.aload 10, 2) := by decide +kernel
theorem dL_lay_574 : decode cL_lay 574 = .ok (.iload 23, 2) := by decide +kernel
theorem dL_lay_576 : decode cL_lay 576 = .ok (.laload, 1) := by decide +kernel
theorem dL_lay_577 : decode cL_lay 577 = .ok (.aload 11, 2) := by decide +kernel
theorem dL_lay_579 : decode cL_lay 579 = .ok (.iload 23, 2) := by decide +kernel
theorem dL_lay_581 : decode cL_lay 581 = .ok (.iaload, 1) := by decide +kernel
theorem dL_lay_582 : decode cL_lay 582 = .ok (.invokestatic 16, 3) := by decide +kernel
theorem dL_lay_585 : decode cL_lay 585 = .ok (.istore 24, 2) := by decide +kernel
theorem dL_lay_587 : decode cL_lay 587 = .ok (.iload 24, 2) := by decide +kernel
theorem dL_lay_589 : decode cL_lay 589 = .ok (.ifCond .ge 54, 3) := by decide +kernel
theorem dL_lay_592 : decode cL_lay 592 = .ok (.iconst 0, 1) := by decide +kernel
theorem dL_lay_593 : decode cL_lay 593 = .ok (.istore 24, 2) := by decide +kernel
theorem dL_lay_595 : decode cL_lay 595 = .ok (.aload 5, 2) := by decide +kernel
theorem dL_lay_597 : decode cL_lay 597 = .ok (.iload 24, 2) := by decide +kernel
theorem dL_lay_599 : decode cL_lay 599 = .ok (.iaload, 1) := by decide +kernel
theorem dL_lay_600 : decode cL_lay 600 = .ok (.ifCond .le 9, 3) := by decide +kernel
theorem dL_lay_603 : decode cL_lay 603 = .ok (.iinc 24 1, 3) := by decide +kernel
theorem dL_lay_606 : decode cL_lay 606 = .ok (.goto (-11), 3) := by decide +kernel
theorem dL_lay_609 : decode cL_lay 609 = .ok (.aload 5, 2) := by decide +kernel
theorem dL_lay_611 : decode cL_lay 611 = .ok (.iload 24, 2) := by decide +kernel
theorem dL_lay_613 : decode cL_lay 613 = .ok (.aload 11, 2) := by decide +kernel
theorem dL_lay_615 : decode cL_lay 615 = .ok (.iload 23, 2) := by decide +kernel
theorem dL_lay_617 : decode cL_lay 617 = .ok (.iaload, 1) := by decide +kernel
theorem dL_lay_618 : decode cL_lay 618 = .ok (.iastore, 1) := by decide +kernel
theorem dL_lay_619 : decode cL_lay 619 = .ok (.aload 4, 2) := by decide +kernel
theorem dL_lay_621 : decode cL_lay 621 = .ok (.iload 24, 2) := by decide +kernel
theorem dL_lay_623 : decode cL_lay 623 = .ok (.aload 10, 2) := by decide +kernel
theorem dL_lay_625 : decode cL_lay 625 = .ok (.iload 23, 2) := by decide +kernel
theorem dL_lay_627 : decode cL_lay 627 = .ok (.laload, 1) := by decide +kernel
theorem dL_lay_628 : decode cL_lay 628 = .ok (.lastore, 1) := by decide +kernel
theorem dL_lay_629 : decode cL_lay 629 = .ok (.aload 6, 2) := by decide +kernel
theorem dL_lay_631 : decode cL_lay 631 = .ok (.iload 24, 2) := by decide +kernel
theorem dL_lay_633 : decode cL_lay 633 = .ok (.iconst 0, 1) := by decide +kernel
theorem dL_lay_634 : decode cL_lay 634 = .ok (.iastore, 1) := by decide +kernel
theorem dL_lay_635 : decode cL_lay 635 = .ok (.aload_n 0, 1) := by decide +kernel
theorem dL_lay_636 : decode cL_lay 636 = .ok (.bipush 10, 2) := by decide +kernel
theorem dL_lay_638 : decode cL_lay 638 = .ok (.dup2, 1) := by decide +kernel
theorem dL_lay_639 : decode cL_lay 639 = .ok (.iaload, 1) := by decide +kernel
theorem dL_lay_640 : decode cL_lay 640 = .ok (.iconst 1, 1) := by decide +kernel
theorem dL_lay_641 : decode cL_lay 641 = .ok (.iadd, 1) := by decide +kernel
theorem dL_lay_642 : decode cL_lay 642 = .ok (.iastore, 1) := by decide +kernel
theorem dL_lay_643 : decode cL_lay 643 = .ok (.aload 6, 2) := by decide +kernel
theorem dL_lay_645 : decode cL_lay 645 = .ok (.iload 24, 2) := by decide +kernel
theorem dL_lay_647 : decode cL_lay 647 = .ok (.dup2, 1) := by decide +kernel
theorem dL_lay_648 : decode cL_lay 648 = .ok (.iaload, 1) := by decide +kernel
theorem dL_lay_649 : decode cL_lay 649 = .ok (.iconst 1, 1) := by decide +kernel
theorem dL_lay_650 : decode cL_lay 650 = .ok (.iadd, 1) := by decide +kernel
theorem dL_lay_651 : decode cL_lay 651 = .ok (.iastore, 1) := by decide +kernel
theorem dL_lay_652 : decode cL_lay 652 = .ok (.iconst 1, 1) := by decide +kernel
theorem dL_lay_653 : decode cL_lay 653 = .ok (.istore 25, 2) := by decide +kernel
theorem dL_lay_655 : decode cL_lay 655 = .ok (.iload 25, 2) := by decide +kernel
theorem dL_lay_657 : decode cL_lay 657 = .ok (.aload 11, 2) := by decide +kernel
theorem dL_lay_659 : decode cL_lay 659 = .ok (.iload 23, 2) := by decide +kernel
theorem dL_lay_661 : decode cL_lay 661 = .ok (.iaload, 1) := by decide +kernel
theorem dL_lay_662 : decode cL_lay 662 = .ok (.if_icmp .gt 68, 3) := by decide +kernel
theorem dL_lay_665 : decode cL_lay 665 = .ok (.aload_n 1, 1) := by decide +kernel
theorem dL_lay_666 : decode cL_lay 666 = .ok (.bipush 16, 2) := by decide +kernel
theorem dL_lay_668 : decode cL_lay 668 = .ok (.iload 7, 2) := by decide +kernel
theorem dL_lay_670 : decode cL_lay 670 = .ok (.imul, 1) := by decide +kernel
theorem dL_lay_671 : decode cL_lay 671 = .ok (.iload 22, 2) := by decide +kernel
theorem dL_lay_673 : decode cL_lay 673 = .ok (.iadd, 1) := by decide +kernel
theorem dL_lay_674 : decode cL_lay 674 = .ok (.aload 8, 2) := by decide +kernel
theorem dL_lay_676 : decode cL_lay 676 = .ok (.iload 22, 2) := by decide +kernel
theorem dL_lay_678 : decode cL_lay 678 = .ok (.iaload, 1) := by decide +kernel
theorem dL_lay_679 : decode cL_lay 679 = .ok (.iastore, 1) := by decide +kernel
theorem dL_lay_680 : decode cL_lay 680 = .ok (.aload_n 2, 1) := by decide +kernel
theorem dL_lay_681 : decode cL_lay 681 = .ok (.bipush 16, 2) := by decide +kernel
theorem dL_lay_683 : decode cL_lay 683 = .ok (.iload 7, 2) := by decide +kernel
theorem dL_lay_685 : decode cL_lay 685 = .ok (.imul, 1) := by decide +kernel
theorem dL_lay_686 : decode cL_lay 686 = .ok (.iload 22, 2) := by decide +kernel
theorem dL_lay_688 : decode cL_lay 688 = .ok (.iadd, 1) := by decide +kernel
theorem dL_lay_689 : decode cL_lay 689 = .ok (.iload 25, 2) := by decide +kernel
theorem dL_lay_691 : decode cL_lay 691 = .ok (.aload 11, 2) := by decide +kernel
theorem dL_lay_693 : decode cL_lay 693 = .ok (.iload 23, 2) := by decide +kernel
theorem dL_lay_695 : decode cL_lay 695 = .ok (.iaload, 1) := by decide +kernel
theorem dL_lay_696 : decode cL_lay 696 = .ok (.if_icmp .ne 11, 3) := by decide +kernel
theorem dL_lay_699 : decode cL_lay 699 = .ok (.aload 12, 2) := by decide +kernel
theorem dL_lay_701 : decode cL_lay 701 = .ok (.iload 23, 2) := by decide +kernel
theorem dL_lay_703 : decode cL_lay 703 = .ok (.iaload, 1) := by decide +kernel
theorem dL_lay_704 : decode cL_lay 704 = .ok (.goto 4, 3) := by decide +kernel
theorem dL_lay_707 : decode cL_lay 707 = .ok (.iconst 0, 1) := by decide +kernel
theorem dL_lay_708 : decode cL_lay 708 = .ok (.iastore, 1) := by decide +kernel
theorem dL_lay_709 : decode cL_lay 709 = .ok (.aload_n 3, 1) := by decide +kernel
theorem dL_lay_710 : decode cL_lay 710 = .ok (.bipush 16, 2) := by decide +kernel
theorem dL_lay_712 : decode cL_lay 712 = .ok (.iload 7, 2) := by decide +kernel
theorem dL_lay_714 : decode cL_lay 714 = .ok (.imul, 1) := by decide +kernel
theorem dL_lay_715 : decode cL_lay 715 = .ok (.iload 22, 2) := by decide +kernel
theorem dL_lay_717 : decode cL_lay 717 = .ok (.iadd, 1) := by decide +kernel
theorem dL_lay_718 : decode cL_lay 718 = .ok (.iload 24, 2) := by decide +kernel
theorem dL_lay_720 : decode cL_lay 720 = .ok (.iastore, 1) := by decide +kernel
theorem dL_lay_721 : decode cL_lay 721 = .ok (.iinc 25 1, 3) := by decide +kernel
theorem dL_lay_724 : decode cL_lay 724 = .ok (.iinc 22 1, 3) := by decide +kernel
theorem dL_lay_727 : decode cL_lay 727 = .ok (.goto (-72), 3) := by decide +kernel
theorem dL_lay_730 : decode cL_lay 730 = .ok (.iinc 23 1, 3) := by decide +kernel
theorem dL_lay_733 : decode cL_lay 733 = .ok (.goto (-172), 3) := by decide +kernel
theorem dL_lay_736 : decode cL_lay 736 = .ok (.iload 13, 2) := by decide +kernel
theorem dL_lay_738 : decode cL_lay 738 = .ok (.ireturn, 1) := by decide +kernel
theorem dL_act_0 : decode cL_act 0 = .ok (.iload_n 1, 1) := by decide +kernel
theorem dL_act_1 : decode cL_act 1 = .ok (.bipush 20, 2) := by decide +kernel
theorem dL_act_3 : decode cL_act 3 = .ok (.ishr, 1) := by decide +kernel
theorem dL_act_4 : decode cL_act 4 = .ok (.bipush 14, 2) := by decide +kernel
theorem dL_act_6 : decode cL_act 6 = .ok (.invokestatic 20, 3) := by decide +kernel
theorem dL_act_9 : decode cL_act 9 = .ok (.istore 10, 2) := by decide +kernel
theorem dL_act_11 : decode cL_act 11 = .ok (.iload_n 2, 1) := by decide +kernel
theorem dL_act_12 : decode cL_act 12 = .ok (.iconst 4, 1) := by decide +kernel
theorem dL_act_13 : decode cL_act 13 = .ok (.invokestatic 20, 3) := by decide +kernel
theorem dL_act_16 : decode cL_act 16 = .ok (.istore 11, 2) := by decide +kernel
theorem dL_act_18 : decode cL_act 18 = .ok (.bipush 16, 2) := by decide +kernel
theorem dL_act_20 : decode cL_act 20 = .ok (.newarray .int, 2) := by decide +kernel
theorem dL_act_22 : decode cL_act 22 = .ok (.astore 12, 2) := by decide +kernel
theorem dL_act_24 : decode cL_act 24 = .ok (.iconst 0, 1) := by decide +kernel
theorem dL_act_25 : decode cL_act 25 = .ok (.istore 13, 2) := by decide +kernel
theorem dL_act_27 : decode cL_act 27 = .ok (.iconst 0, 1) := by decide +kernel
theorem dL_act_28 : decode cL_act 28 = .ok (.istore 14, 2) := by decide +kernel
theorem dL_act_30 : decode cL_act 30 = .ok (.iload 10, 2) := by decide +kernel
theorem dL_act_32 : decode cL_act 32 = .ok (.bipush 6, 2) := by decide +kernel
theorem dL_act_34 : decode cL_act 34 = .ok (.if_icmp .ge 188, 3) := by decide +kernel
theorem dL_act_37 : decode cL_act 37 = .ok (.iconst 1, 1) := by decide +kernel
theorem dL_act_38 : decode cL_act 38 = .ok (.iload_n 2, 1) := by decide +kernel
theorem dL_act_39 : decode cL_act 39 = .ok (.iconst 2, 1) := by decide +kernel
theorem dL_act_40 : decode cL_act 40 = .ok (.ishr, 1) := by decide +kernel
theorem dL_act_41 : decode cL_act 41 = .ok (.bipush 16, 2) := by decide +kernel
theorem dL_act_43 : decode cL_act 43 = .ok (.invokestatic 20, 3) := by decide +kernel
theorem dL_act_46 : decode cL_act 46 = .ok (.iadd, 1) := by decide +kernel
theorem dL_act_47 : decode cL_act 47 = .ok (.istore 13, 2) := by decide +kernel
theorem dL_act_49 : decode cL_act 49 = .ok (.iconst 0, 1) := by decide +kernel
theorem dL_act_50 : decode cL_act 50 = .ok (.istore 15, 2) := by decide +kernel
theorem dL_act_52 : decode cL_act 52 = .ok (.iload 15, 2) := by decide +kernel
theorem dL_act_54 : decode cL_act 54 = .ok (.iload 13, 2) := by decide +kernel
theorem dL_act_56 : decode cL_act 56 = .ok (.if_icmp .ge 67, 3) := by decide +kernel
theorem dL_act_59 : decode cL_act 59 = .ok (.aload 12, 2) := by decide +kernel
theorem dL_act_61 : decode cL_act 61 = .ok (.iload 15, 2) := by decide +kernel
theorem dL_act_63 : decode cL_act 63 = .ok (.iconst 1, 1) := by decide +kernel
theorem dL_act_64 : decode cL_act 64 = .ok (.iload_n 1, 1) := by decide +kernel
theorem dL_act_65 : decode cL_act 65 = .ok (.iload 15, 2) := by decide +kernel
theorem dL_act_67 : decode cL_act 67 = .ok (.bipush 7, 2) := by decide +kernel
theorem dL_act_69 : decode cL_act 69 = .ok (.irem, 1) := by decide +kernel
theorem dL_act_70 : decode cL_act 70 = .ok (.ishr, 1) := by decide +kernel
theorem dL_act_71 : decode cL_act 71 = .ok (.iconst 3, 1) := by decide +kernel
theorem dL_act_72 : decode cL_act 72 = .ok (.invokestatic 20, 3) := by decide +kernel
theorem dL_act_75 : decode cL_act 75 = .ok (.ifCond .ne 13, 3) := by decide +kernel
theorem dL_act_78 : decode cL_act 78 = .ok (.iload_n 2, 1) := by decide +kernel
theorem dL_act_79 : decode cL_act 79 = .ok (.iload 15, 2) := by decide +kernel
theorem dL_act_81 : decode cL_act 81 = .ok (.bipush 11, 2) := by decide +kernel
theorem dL_act_83 : decode cL_act 83 = .ok (.irem, 1) := by decide +kernel
theorem dL_act_84 : decode cL_act 84 = .ok (.ishr, 1) := by decide +kernel
theorem dL_act_85 : decode cL_act 85 = .ok (.goto 10, 3) := by decide +kernel
theorem dL_act_88 : decode cL_act 88 = .ok (.iload_n 1, 1) := by decide +kernel
theorem dL_act_89 : decode cL_act 89 = .ok (.iload 15, 2) := by decide +kernel
theorem dL_act_91 : decode cL_act 91 = .ok (.bipush 13, 2) := by decide +kernel
theorem dL_act_93 : decode cL_act 93 = .ok (.irem, 1) := by decide +kernel
theorem dL_act_94 : decode cL_act 94 = .ok (.ishr, 1) := by decide +kernel
theorem dL_act_95 : decode cL_act 95 = .ok (.bipush 8, 2) := by decide +kernel
theorem dL_act_97 : decode cL_act 97 = .ok (.invokestatic 20, 3) := by decide +kernel
theorem dL_act_100 : decode cL_act 100 = .ok (.iadd, 1) := by decide +kernel
theorem dL_act_101 : decode cL_act 101 = .ok (.iastore, 1) := by decide +kernel
theorem dL_act_102 : decode cL_act 102 = .ok (.aload_n 0, 1) := by decide +kernel
theorem dL_act_103 : decode cL_act 103 = .ok (.bipush 97, 2) := by decide +kernel
theorem dL_act_105 : decode cL_act 105 = .ok (.aload 12, 2) := by decide +kernel
theorem dL_act_107 : decode cL_act 107 = .ok (.iload 15, 2) := by decide +kernel
theorem dL_act_109 : decode cL_act 109 = .ok (.iaload, 1) := by decide +kernel
theorem dL_act_110 : decode cL_act 110 = .ok (.iadd, 1) := by decide +kernel
theorem dL_act_111 : decode cL_act 111 = .ok (.iconst 1, 1) := by decide +kernel
theorem dL_act_112 : decode cL_act 112 = .ok (.isub, 1) := by decide +kernel
theorem dL_act_113 : decode cL_act 113 = .ok (.invokevirtual 24, 3) := by decide +kernel
theorem dL_act_116 : decode cL_act 116 = .ok (.pop, 1) := by decide +kernel
theorem dL_act_117 : decode cL_act 117 = .ok (.iinc 15 1, 3) := by decide +kernel
theorem dL_act_120 : decode cL_act 120 = .ok (.goto (-68), 3) := by decide +kernel
theorem dL_act_123 : decode cL_act 123 = .ok (.aload_n 3, 1) := by decide +kernel
theorem dL_act_124 : decode cL_act 124 = .ok (.aload 4, 2) := by decide +kernel
theorem dL_act_126 : decode cL_act 126 = .ok (.aload 5, 2) := by decide +kernel
theorem dL_act_128 : decode cL_act 128 = .ok (.aload 6, 2) := by decide +kernel
theorem dL_act_130 : decode cL_act 130 = .ok (.aload 7, 2) := by decide +kernel
theorem dL_act_132 : decode cL_act 132 = .ok (.aload 8, 2) := by decide +kernel
theorem dL_act_134 : decode cL_act 134 = .ok (.aload 9, 2) := by decide +kernel
theorem dL_act_136 : decode cL_act 136 = .ok (.iload 11, 2) := by decide +kernel
theorem dL_act_138 : decode cL_act 138 = .ok (.aload 12, 2) := by decide +kernel
theorem dL_act_140 : decode cL_act 140 = .ok (.iload 13, 2) := by decide +kernel
theorem dL_act_142 : decode cL_act 142 = .ok (.invokestatic 30, 3) := by decide +kernel
theorem dL_act_145 : decode cL_act 145 = .ok (.istore 15, 2) := by decide +kernel
theorem dL_act_147 : decode cL_act 147 = .ok (.iload 15, 2) := by decide +kernel
theorem dL_act_149 : decode cL_act 149 = .ok (.ifCond .ge 29, 3) := by decide +kernel
theorem dL_act_152 : decode cL_act 152 = .ok (.aload_n 0, 1) := by decide +kernel
theorem dL_act_153 : decode cL_act 153 = .ok (.iload 11, 2) := by decide +kernel
theorem dL_act_155 : decode cL_act 155 = .ok (.iconst 3, 1) := by decide +kernel
theorem dL_act_156 : decode cL_act 156 = .ok (.invokevirtual 34, 3) := by decide +kernel
theorem dL_act_159 : decode cL_act 159 = .ok (.iconst 1, 1) := by decide +kernel
theorem dL_act_160 : decode cL_act 160 = .ok (.if_icmp .ne 16, 3) := by decide +kernel
theorem dL_act_163 : decode cL_act 163 = .ok (.aload_n 0, 1) := by decide +kernel
theorem dL_act_164 : decode cL_act 164 = .ok (.invokevirtual 37, 3) := by decide +kernel
theorem dL_act_167 : decode cL_act 167 = .ok (.iload 13, 2) := by decide +kernel
theorem dL_act_169 : decode cL_act 169 = .ok (.if_icmp .ne 7, 3) := by decide +kernel
theorem dL_act_172 : decode cL_act 172 = .ok (.iconst 1, 1) := by decide +kernel
theorem dL_act_173 : decode cL_act 173 = .ok (.goto 4, 3) := by decide +kernel
theorem dL_act_176 : decode cL_act 176 = .ok (.iconst 0, 1) := by decide +kernel
theorem dL_act_177 : decode cL_act 177 = .ok (.ireturn, 1) := by decide +kernel
theorem dL_act_178 : decode cL_act 178 = .ok (.aload_n 3, 1) := by decide +kernel
theorem dL_act_179 : decode cL_act 179 = .ok (.bipush 9, 2) := by decide +kernel
theorem dL_act_181 : decode cL_act 181 = .ok (.iaload, 1) := by decide +kernel
theorem dL_act_182 : decode cL_act 182 = .ok (.bipush 6, 2) := by decide +kernel
theorem dL_act_184 : decode cL_act 184 = .ok (.if_icmp .ge 11, 3) := by decide +kernel
theorem dL_act_187 : decode cL_act 187 = .ok (.aload_n 3, 1) := by decide +kernel
theorem dL_act_188 : decode cL_act 188 = .ok (.bipush 9, 2) := by decide +kernel
theorem dL_act_190 : decode cL_act 190 = .ok (.dup2, 1) := by decide +kernel
theorem dL_act_191 : decode cL_act 191 = .ok (.iaload, 1) := by decide +kernel
theorem dL_act_192 : decode cL_act 192 = .ok (.iconst 1, 1) := by decide +kernel
theorem dL_act_193 : decode cL_act 193 = .ok (.iadd, 1) := by decide +kernel
theorem dL_act_194 : decode cL_act 194 = .ok (.iastore, 1) := by decide +kernel
theorem dL_act_195 : decode cL_act 195 = .ok (.aload_n 0, 1) := by decide +kernel
theorem dL_act_196 : decode cL_act 196 = .ok (.iload 11, 2) := by decide +kernel
theorem dL_act_198 : decode cL_act 198 = .ok (.iconst 3, 1) := by decide +kernel
theorem dL_act_199 : decode cL_act 199 = .ok (.invokevirtual 34, 3) := by decide +kernel
theorem dL_act_202 : decode cL_act 202 = .ok (.ifCond .ne 18, 3) := by decide +kernel
theorem dL_act_205 : decode cL_act 205 = .ok (.aload_n 0, 1) := by decide +kernel
theorem dL_act_206 : decode cL_act 206 = .ok (.iload 11, 2) := by decide +kernel
theorem dL_act_208 : decode cL_act 208 = .ok (.invokevirtual 41, 3) := by decide +kernel
theorem dL_act_211 : decode cL_act 211 = .ok (.iload 15, 2) := by decide +kernel
theorem dL_act_213 : decode cL_act 213 = .ok (.if_icmp .ne 7, 3) := by decide +kernel
theorem dL_act_216 : decode cL_act 216 = .ok (.iconst 1, 1) := by decide +kernel
theorem dL_act_217 : decode cL_act 217 = .ok (.goto 4, 3) := by decide +kernel
theorem dL_act_220 : decode cL_act 220 = .ok (.iconst 0, 1) := by decide +kernel
theorem dL_act_221 : decode cL_act 221 = .ok (.ireturn, 1) := by decide +kernel
theorem dL_act_222 : decode cL_act 222 = .ok (.iload 10, 2) := by decide +kernel
theorem dL_act_224 : decode cL_act 224 = .ok (.bipush 8, 2) := by decide +kernel
theorem dL_act_226 : decode cL_act 226 = .ok (.if_icmp .ge 196, 3) := by decide +kernel
theorem dL_act_229 : decode cL_act 229 = .ok (.aload_n 3, 1) := by decide +kernel
theorem dL_act_230 : decode cL_act 230 = .ok (.iload 11, 2) := by decide +kernel
theorem dL_act_232 : decode cL_act 232 = .ok (.iaload, 1) := by decide +kernel
theorem dL_act_233 : decode cL_act 233 = .ok (.ifCond .le 189, 3) := by decide +kernel
theorem dL_act_236 : decode cL_act 236 = .ok (.iload_n 2, 1) := by decide +kernel
theorem dL_act_237 : decode cL_act 237 = .ok (.iconst 2, 1) := by decide +kernel
theorem dL_act_238 : decode cL_act 238 = .ok (.ishr, 1) := by decide +kernel
theorem dL_act_239 : decode cL_act 239 = .ok (.aload_n 3, 1) := by decide +kernel
theorem dL_act_240 : decode cL_act 240 = .ok (.iload 11, 2) := by decide +kernel
theorem dL_act_242 : decode cL_act 242 = .ok (.iaload, 1) := by decide +kernel
theorem dL_act_243 : decode cL_act 243 = .ok (.invokestatic 20, 3) := by decide +kernel
theorem dL_act_246 : decode cL_act 246 = .ok (.istore 15, 2) := by decide +kernel
theorem dL_act_248 : decode cL_act 248 = .ok (.iconst 1, 1) := by decide +kernel
theorem dL_act_249 : decode cL_act 249 = .ok (.iload_n 2, 1) := by decide +kernel
theorem dL_act_250 : decode cL_act 250 = .ok (.bipush 6, 2) := by decide +kernel
theorem dL_act_252 : decode cL_act 252 = .ok (.ishr, 1) := by decide +kernel
theorem dL_act_253 : decode cL_act 253 = .ok (.aload_n 3, 1) := by decide +kernel
theorem dL_act_254 : decode cL_act 254 = .ok (.iload 11, 2) := by decide +kernel
theorem dL_act_256 : decode cL_act 256 = .ok (.iaload, 1) := by decide +kernel
theorem dL_act_257 : decode cL_act 257 = .ok (.iload 15, 2) := by decide +kernel
theorem dL_act_259 : decode cL_act 259 = .ok (.isub, 1) := by decide +kernel
theorem dL_act_260 : decode cL_act 260 = .ok (.iconst 4, 1) := by decide +kernel
theorem dL_act_261 : decode cL_act 261 = .ok (.if_icmp .ge 13, 3) := by decide +kernel
theorem dL_act_264 : decode cL_act 264 = .ok (.aload_n 3, 1) := by decide +kernel
theorem dL_act_265 : decode cL_act 265 = .ok (.iload 11, 2) := by decide +kernel
theorem dL_act_267 : decode cL_act 267 = .ok (.iaload, 1) := by decide +kernel
theorem dL_act_268 : decode cL_act 268 = .ok (.iload 15, 2) := by decide +kernel
theorem dL_act_270 : decode cL_act 270 = .ok (.isub, 1) := by decide +kernel
theorem dL_act_271 : decode cL_act 271 = .ok (.goto 4, 3) := by decide +kernel
theorem dL_act_274 : decode cL_act 274 = .ok (.iconst 4, 1) := by decide +kernel
theorem dL_act_275 : decode cL_act 275 = .ok (.invokestatic 20, 3) := by decide +kernel
theorem dL_act_278 : decode cL_act 278 = .ok (.iadd, 1) := by decide +kernel
theorem dL_act_279 : decode cL_act 279 = .ok (.istore 16, 2) := by decide +kernel
theorem dL_act_281 : decode cL_act 281 = .ok (.iconst 0, 1) := by decide +kernel
theorem dL_act_282 : decode cL_act 282 = .ok (.istore 17, 2) := by decide +kernel
theorem dL_act_284 : decode cL_act 284 = .ok (.iload 17, 2) := by decide +kernel
theorem dL_act_286 : decode cL_act 286 = .ok (.aload_n 3, 1) := by decide +kernel
theorem dL_act_287 : decode cL_act 287 = .ok (.iload 11, 2) := by decide +kernel
theorem dL_act_289 : decode cL_act 289 = .ok (.iaload, 1) := by decide +kernel
theorem dL_act_290 : decode cL_act 290 = .ok (.if_icmp .ge 45, 3) := by decide +kernel
theorem dL_act_293 : decode cL_act 293 = .ok (.iload 17, 2) := by decide +kernel
theorem dL_act_295 : decode cL_act 295 = .ok (.iload 15, 2) := by decide +kernel
theorem dL_act_297 : decode cL_act 297 = .ok (.if_icmp .lt 13, 3) := by decide +kernel
theorem dL_act_300 : decode cL_act 300 = .ok (.iload 17, 2) := by decide +kernel
theorem dL_act_302 : decode cL_act 302 = .ok (.iload 15, 2) := by decide +kernel
theorem dL_act_304 : decode cL_act 304 = .ok (.iload 16, 2) := by decide +kernel
theorem dL_act_306 : decode cL_act 306 = .ok (.iadd, 1) := by decide +kernel
theorem dL_act_307 : decode cL_act 307 = .ok (.if_icmp .lt 22, 3) := by decide +kernel
theorem dL_act_310 : decode cL_act 310 = .ok (.aload 12, 2) := by decide +kernel
theorem dL_act_312 : decode cL_act 312 = .ok (.iload 13, 2) := by decide +kernel
theorem dL_act_314 : decode cL_act 314 = .ok (.iinc 13 1, 3) := by decide +kernel
theorem dL_act_317 : decode cL_act 317 = .ok (.aload 4, 2) := by decide +kernel
theorem dL_act_319 : decode cL_act 319 = .ok (.bipush 16, 2) := by decide +kernel
theorem dL_act_321 : decode cL_act 321 = .ok (.iload 11, 2) := by decide +kernel
theorem dL_act_323 : decode cL_act 323 = .ok (.imul, 1) := by decide +kernel
theorem dL_act_324 : decode cL_act 324 = .ok (.iload 17, 2) := by decide +kernel
theorem dL_act_326 : decode cL_act 326 = .ok (.iadd, 1) := by decide +kernel
theorem dL_act_327 : decode cL_act 327 = .ok (.iaload, 1) := by decide +kernel
theorem dL_act_328 : decode cL_act 328 = .ok (.iastore, 1) := by decide +kernel
theorem dL_act_329 : decode cL_act 329 = .ok (.iinc 17 1, 3) := by decide +kernel
theorem dL_act_332 : decode cL_act 332 = .ok (.goto (-48), 3) := by decide +kernel
theorem dL_act_335 : decode cL_act 335 = .ok (.aload_n 3, 1) := by decide +kernel
theorem dL_act_336 : decode cL_act 336 = .ok (.aload 4, 2) := by decide +kernel
theorem dL_act_338 : decode cL_act 338 = .ok (.aload 5, 2) := by decide +kernel
theorem dL_act_340 : decode cL_act 340 = .ok (.aload 6, 2) := by decide +kernel
theorem dL_act_342 : decode cL_act 342 = .ok (.aload 7, 2) := by decide +kernel
theorem dL_act_344 : decode cL_act 344 = .ok (.aload 8, 2) := by decide +kernel
theorem dL_act_346 : decode cL_act 346 = .ok (.aload 9, 2) := by decide +kernel
theorem dL_act_348 : decode cL_act 348 = .ok (.iload 11, 2) := by decide +kernel
theorem dL_act_350 : decode cL_act 350 = .ok (.aload 12, 2) := by decide +kernel
theorem dL_act_352 : decode cL_act 352 = .ok (.iload 13, 2) := by decide +kernel
theorem dL_act_354 : decode cL_act 354 = .ok (.invokestatic 30, 3) := by decide +kernel
theorem dL_act_357 : decode cL_act 357 = .ok (.istore 17, 2) := by decide +kernel
theorem dL_act_359 : decode cL_act 359 = .ok (.iload 17, 2) := by decide +kernel
theorem dL_act_361 : decode cL_act 361 = .ok (.ifCond .ge 23, 3) := by decide +kernel
theorem dL_act_364 : decode cL_act 364 = .ok (.aload_n 0, 1) := by decide +kernel
theorem dL_act_365 : decode cL_act 365 = .ok (.iload 11, 2) := by decide +kernel
theorem dL_act_367 : decode cL_act 367 = .ok (.iconst 0, 1) := by decide +kernel
theorem dL_act_368 : decode cL_act 368 = .ok (.invokevirtual 44, 3) := by decide +kernel
theorem dL_act_371 : decode cL_act 371 = .ok (.aload_n 3, 1) := by decide +kernel
theorem dL_act_372 : decode cL_act 372 = .ok (.iload 11, 2) := by decide +kernel
theorem dL_act_374 : decode cL_act 374 = .ok (.iaload, 1) := by decide +kernel
theorem dL_act_375 : decode cL_act 375 = .ok (.if_icmp .ne 7, 3) := by decide +kernel
theorem dL_act_378 : decode cL_act 378 = .ok (.iconst 1, 1) := by decide +kernel
theorem dL_act_379 : decode cL_act 379 = .ok (.goto 4, 3) := by decide +kernel
theorem dL_act_382 : decode cL_act 382 = .ok (.iconst 0, 1) := by decide +kernel
theorem dL_act_383 : decode cL_act 383 = .ok (.ireturn, 1) := by decide +kernel
theorem dL_act_384 : decode cL_act 384 = .ok (.aload_n 3, 1) := by decide +kernel
theorem dL_act_385 : decode cL_act 385 = .ok (.bipush 9, 2) := by decide +kernel
theorem dL_act_387 : decode cL_act 387 = .ok (.iaload, 1) := by decide +kernel
theorem dL_act_388 : decode cL_act 388 = .ok (.bipush 6, 2) := by decide +kernel
theorem dL_act_390 : decode cL_act 390 = .ok (.if_icmp .ge 11, 3) := by decide +kernel
theorem dL_act_393 : decode cL_act 393 = .ok (.aload_n 3, 1) := by decide +kernel
theorem dL_act_394 : decode cL_act 394 = .ok (.bipush 9, 2) := by decide +kernel
theorem dL_act_396 : decode cL_act 396 = .ok (.dup2, 1) := by decide +kernel
theorem dL_act_397 : decode cL_act 397 = .ok (.iaload, 1) := by decide +kernel
theorem dL_act_398 : decode cL_act 398 = .ok (.iconst 1, 1) := by decide +kernel
theorem dL_act_399 : decode cL_act 399 = .ok (.iadd, 1) := by decide +kernel
theorem dL_act_400 : decode cL_act 400 = .ok (.iastore, 1) := by decide +kernel
theorem dL_act_401 : decode cL_act 401 = .ok (.aload_n 0, 1) := by decide +kernel
theorem dL_act_402 : decode cL_act 402 = .ok (.iload 11, 2) := by decide +kernel
theorem dL_act_404 : decode cL_act 404 = .ok (.iload 15, 2) := by decide +kernel
theorem dL_act_406 : decode cL_act 406 = .ok (.iload 16, 2) := by decide +kernel
theorem dL_act_408 : decode cL_act 408 = .ok (.invokevirtual 47, 3) := by decide +kernel
theorem dL_act_411 : decode cL_act 411 = .ok (.iload 17, 2) := by decide +kernel
theorem dL_act_413 : decode cL_act 413 = .ok (.if_icmp .ne 7, 3) := by decide +kernel
theorem dL_act_416 : decode cL_act 416 = .ok (.iconst 1, 1) := by decide +kernel
theorem dL_act_417 : decode cL_act 417 = .ok (.goto 4, 3) := by decide +kernel
theorem dL_act_420 : decode cL_act 420 = .ok (.iconst 0, 1) := by decide +kernel
theorem dL_act_421 : decode cL_act 421 = .ok (.ireturn, 1) := by decide +kernel
theorem dL_act_422 : decode cL_act 422 = .ok (.iload 10, 2) := by decide +kernel
theorem dL_act_424 : decode cL_act 424 = .ok (.bipush 8, 2) := by decide +kernel
theorem dL_act_426 : decode cL_act 426 = .ok (.if_icmp .ne 134, 3) := by decide +kernel
theorem dL_act_429 : decode cL_act 429 = .ok (.iload_n 2, 1) := by decide +kernel
theorem dL_act_430 : decode cL_act 430 = .ok (.iconst 2, 1) := by decide +kernel
theorem dL_act_431 : decode cL_act 431 = .ok (.ishr, 1) := by decide +kernel
theorem dL_act_432 : decode cL_act 432 = .ok (.iconst 4, 1) := by decide +kernel
theorem dL_act_433 : decode cL_act 433 = .ok (.invokestatic 20, 3) := by decide +kernel
theorem dL_act_436 : decode cL_act 436 = .ok (.istore 15, 2) := by decide +kernel
theorem dL_act_438 : decode cL_act 438 = .ok (.iconst 0, 1) := by decide +kernel
theorem dL_act_439 : decode cL_act 439 = .ok (.istore 16, 2) := by decide +kernel
theorem dL_act_441 : decode cL_act 441 = .ok (.iload 16, 2) := by decide +kernel
theorem dL_act_443 : decode cL_act 443 = .ok (.aload_n 3, 1) := by decide +kernel
theorem dL_act_444 : decode cL_act 444 = .ok (.iload 15, 2) := by decide +kernel
theorem dL_act_446 : decode cL_act 446 = .ok (.iaload, 1) := by decide +kernel
theorem dL_act_447 : decode cL_act 447 = .ok (.if_icmp .ge 28, 3) := by decide +kernel
theorem dL_act_450 : decode cL_act 450 = .ok (.aload 12, 2) := by decide +kernel
theorem dL_act_452 : decode cL_act 452 = .ok (.iload 13, 2) := by decide +kernel
theorem dL_act_454 : decode cL_act 454 = .ok (.iinc 13 1, 3) := by decide +kernel
theorem dL_act_457 : decode cL_act 457 = .ok (.aload 4, 2) := by decide +kernel
theorem dL_act_459 : decode cL_act 459 = .ok (.bipush 16, 2) := by decide +kernel
theorem dL_act_461 : decode cL_act 461 = .ok (.iload 15, 2) := by decide +kernel
theorem dL_act_463 : decode cL_act 463 = .ok (.imul, 1) := by decide +kernel
theorem dL_act_464 : decode cL_act 464 = .ok (.iload 16, 2) := by decide +kernel
theorem dL_act_466 : decode cL_act 466 = .ok (.iadd, 1) := by decide +kernel
theorem dL_act_467 : decode cL_act 467 = .ok (.iaload, 1) := by decide +kernel
theorem dL_act_468 : decode cL_act 468 = .ok (.iastore, 1) := by decide +kernel
theorem dL_act_469 : decode cL_act 469 = .ok (.iinc 16 1, 3) := by decide +kernel
theorem dL_act_472 : decode cL_act 472 = .ok (.goto (-31), 3) := by decide +kernel
theorem dL_act_475 : decode cL_act 475 = .ok (.aload_n 3, 1) := by decide +kernel
theorem dL_act_476 : decode cL_act 476 = .ok (.aload 4, 2) := by decide +kernel
theorem dL_act_478 : decode cL_act 478 = .ok (.aload 5, 2) := by decide +kernel
theorem dL_act_480 : decode cL_act 480 = .ok (.aload 6, 2) := by decide +kernel
theorem dL_act_482 : decode cL_act 482 = .ok (.aload 7, 2) := by decide +kernel
theorem dL_act_484 : decode cL_act 484 = .ok (.aload 8, 2) := by decide +kernel
theorem dL_act_486 : decode cL_act 486 = .ok (.aload 9, 2) := by decide +kernel
theorem dL_act_488 : decode cL_act 488 = .ok (.iload 11, 2) := by decide +kernel
theorem dL_act_490 : decode cL_act 490 = .ok (.aload 12, 2) := by decide +kernel
theorem dL_act_492 : decode cL_act 492 = .ok (.iload 13, 2) := by decide +kernel
theorem dL_act_494 : decode cL_act 494 = .ok (.invokestatic 30, 3) := by decide +kernel
theorem dL_act_497 : decode cL_act 497 = .ok (.istore 16, 2) := by decide +kernel
theorem dL_act_499 : decode cL_act 499 = .ok (.iload 16, 2) := by decide +kernel
theorem dL_act_501 : decode cL_act 501 = .ok (.ifCond .ge 23, 3) := by decide +kernel
theorem dL_act_504 : decode cL_act 504 = .ok (.aload_n 0, 1) := by decide +kernel
theorem dL_act_505 : decode cL_act 505 = .ok (.iload 11, 2) := by decide +kernel
theorem dL_act_507 : decode cL_act 507 = .ok (.iconst 0, 1) := by decide +kernel
theorem dL_act_508 : decode cL_act 508 = .ok (.invokevirtual 44, 3) := by decide +kernel
theorem dL_act_511 : decode cL_act 511 = .ok (.aload_n 3, 1) := by decide +kernel
theorem dL_act_512 : decode cL_act 512 = .ok (.iload 11, 2) := by decide +kernel
theorem dL_act_514 : decode cL_act 514 = .ok (.iaload, 1) := by decide +kernel
theorem dL_act_515 : decode cL_act 515 = .ok (.if_icmp .ne 7, 3) := by decide +kernel
theorem dL_act_518 : decode cL_act 518 = .ok (.iconst 1, 1) := by decide +kernel
theorem dL_act_519 : decode cL_act 519 = .ok (.goto 4, 3) := by decide +kernel
theorem dL_act_522 : decode cL_act 522 = .ok (.iconst 0, 1) := by decide +kernel
theorem dL_act_523 : decode cL_act 523 = .ok (.ireturn, 1) := by decide +kernel
theorem dL_act_524 : decode cL_act 524 = .ok (.aload_n 3, 1) := by decide +kernel
theorem dL_act_525 : decode cL_act 525 = .ok (.bipush 9, 2) := by decide +kernel
theorem dL_act_527 : decode cL_act 527 = .ok (.iaload, 1) := by decide +kernel
theorem dL_act_528 : decode cL_act 528 = .ok (.bipush 6, 2) := by decide +kernel
theorem dL_act_530 : decode cL_act 530 = .ok (.if_icmp .ge 11, 3) := by decide +kernel
theorem dL_act_533 : decode cL_act 533 = .ok (.aload_n 3, 1) := by decide +kernel
theorem dL_act_534 : decode cL_act 534 = .ok (.bipush 9, 2) := by decide +kernel
theorem dL_act_536 : decode cL_act 536 = .ok (.dup2, 1) := by decide +kernel
theorem dL_act_537 : decode cL_act 537 = .ok (.iaload, 1) := by decide +kernel
theorem dL_act_538 : decode cL_act 538 = .ok (.iconst 1, 1) := by decide +kernel
theorem dL_act_539 : decode cL_act 539 = .ok (.iadd, 1) := by decide +kernel
theorem dL_act_540 : decode cL_act 540 = .ok (.iastore, 1) := by decide +kernel
theorem dL_act_541 : decode cL_act 541 = .ok (.aload_n 0, 1) := by decide +kernel
theorem dL_act_542 : decode cL_act 542 = .ok (.iload 11, 2) := by decide +kernel
theorem dL_act_544 : decode cL_act 544 = .ok (.iload 15, 2) := by decide +kernel
theorem dL_act_546 : decode cL_act 546 = .ok (.invokevirtual 51, 3) := by decide +kernel
theorem dL_act_549 : decode cL_act 549 = .ok (.iload 16, 2) := by decide +kernel
theorem dL_act_551 : decode cL_act 551 = .ok (.if_icmp .ne 7, 3) := by decide +kernel
theorem dL_act_554 : decode cL_act 554 = .ok (.iconst 1, 1) := by decide +kernel
theorem dL_act_555 : decode cL_act 555 = .ok (.goto 4, 3) := by decide +kernel
theorem dL_act_558 : decode cL_act 558 = .ok (.iconst 0, 1) := by decide +kernel
theorem dL_act_559 : decode cL_act 559 = .ok (.ireturn, 1) := by decide +kernel
theorem dL_act_560 : decode cL_act 560 = .ok (.iload 10, 2) := by decide +kernel
theorem dL_act_562 : decode cL_act 562 = .ok (.bipush 9, 2) := by decide +kernel
theorem dL_act_564 : decode cL_act 564 = .ok (.if_icmp .ne 153, 3) := by decide +kernel
theorem dL_act_567 : decode cL_act 567 = .ok (.aload_n 3, 1) := by decide +kernel
theorem dL_act_568 : decode cL_act 568 = .ok (.iload 11, 2) := by decide +kernel
theorem dL_act_570 : decode cL_act 570 = .ok (.iaload, 1) := by decide +kernel
theorem dL_act_571 : decode cL_act 571 = .ok (.ifCond .le 146, 3) := by decide +kernel
theorem dL_act_574 : decode cL_act 574 = .ok (.iconst 1, 1) := by decide +kernel
theorem dL_act_575 : decode cL_act 575 = .ok (.iload_n 2, 1) := by decide +kernel
theorem dL_act_576 : decode cL_act 576 = .ok (.iconst 2, 1) := by decide +kernel
theorem dL_act_577 : decode cL_act 577 = .ok (.ishr, 1) := by decide +kernel
theorem dL_act_578 : decode cL_act 578 = .ok (.aload_n 3, 1) := by decide +kernel
theorem dL_act_579 : decode cL_act 579 = .ok (.iload 11, 2) := by decide +kernel
theorem dL_act_581 : decode cL_act 581 = .ok (.iaload, 1) := by decide +kernel
theorem dL_act_582 : decode cL_act 582 = .ok (.invokestatic 20, 3) := by decide +kernel
theorem dL_act_585 : decode cL_act 585 = .ok (.iadd, 1) := by decide +kernel
theorem dL_act_586 : decode cL_act 586 = .ok (.istore 14, 2) := by decide +kernel
theorem dL_act_588 : decode cL_act 588 = .ok (.aload_n 3, 1) := by decide +kernel
theorem dL_act_589 : decode cL_act 589 = .ok (.iload 11, 2) := by decide +kernel
theorem dL_act_591 : decode cL_act 591 = .ok (.iaload, 1) := by decide +kernel
theorem dL_act_592 : decode cL_act 592 = .ok (.istore 13, 2) := by decide +kernel
theorem dL_act_594 : decode cL_act 594 = .ok (.iconst 0, 1) := by decide +kernel
theorem dL_act_595 : decode cL_act 595 = .ok (.istore 15, 2) := by decide +kernel
theorem dL_act_597 : decode cL_act 597 = .ok (.iload 15, 2) := by decide +kernel
theorem dL_act_599 : decode cL_act 599 = .ok (.iload 13, 2) := by decide +kernel
theorem dL_act_601 : decode cL_act 601 = .ok (.if_icmp .ge 31, 3) := by decide +kernel
theorem dL_act_604 : decode cL_act 604 = .ok (.aload 12, 2) := by decide +kernel
theorem dL_act_606 : decode cL_act 606 = .ok (.iload 15, 2) := by decide +kernel
theorem dL_act_608 : decode cL_act 608 = .ok (.aload 4, 2) := by decide +kernel
theorem dL_act_610 : decode cL_act 610 = .ok (.bipush 16, 2) := by decide +kernel
theorem dL_act_612 : decode cL_act 612 = .ok (.iload 11, 2) := by decide +kernel
theorem dL_act_614 : decode cL_act 614 = .ok (.imul, 1) := by decide +kernel
theorem dL_act_615 : decode cL_act 615 = .ok (.iload 15, 2) := by decide +kernel
theorem dL_act_617 : decode cL_act 617 = .ok (.iload 14, 2) := by decide +kernel
theorem dL_act_619 : decode cL_act 619 = .ok (.iadd, 1) := by decide +kernel
theorem dL_act_620 : decode cL_act 620 = .ok (.iload 13, 2) := by decide +kernel
theorem dL_act_622 : decode cL_act 622 = .ok (.irem, 1) := by decide +kernel
theorem dL_act_623 : decode cL_act 623 = .ok (.iadd, 1) := by decide +kernel
theorem dL_act_624 : decode cL_act 624 = .ok (.iaload, 1) := by decide +kernel
theorem dL_act_625 : decode cL_act 625 = .ok (.iastore, 1) := by decide +kernel
theorem dL_act_626 : decode cL_act 626 = .ok (.iinc 15 1, 3) := by decide +kernel
theorem dL_act_629 : decode cL_act 629 = .ok (.goto (-32), 3) := by decide +kernel
theorem dL_act_632 : decode cL_act 632 = .ok (.aload_n 3, 1) := by decide +kernel
theorem dL_act_633 : decode cL_act 633 = .ok (.aload 4, 2) := by decide +kernel
theorem dL_act_635 : decode cL_act 635 = .ok (.aload 5, 2) := by decide +kernel
theorem dL_act_637 : decode cL_act 637 = .ok (.aload 6, 2) := by decide +kernel
theorem dL_act_639 : decode cL_act 639 = .ok (.aload 7, 2) := by decide +kernel
theorem dL_act_641 : decode cL_act 641 = .ok (.aload 8, 2) := by decide +kernel
theorem dL_act_643 : decode cL_act 643 = .ok (.aload 9, 2) := by decide +kernel
theorem dL_act_645 : decode cL_act 645 = .ok (.iload 11, 2) := by decide +kernel
theorem dL_act_647 : decode cL_act 647 = .ok (.aload 12, 2) := by decide +kernel
theorem dL_act_649 : decode cL_act 649 = .ok (.iload 13, 2) := by decide +kernel
theorem dL_act_651 : decode cL_act 651 = .ok (.invokestatic 30, 3) := by decide +kernel
theorem dL_act_654 : decode cL_act 654 = .ok (.istore 15, 2) := by decide +kernel
theorem dL_act_656 : decode cL_act 656 = .ok (.iload 15, 2) := by decide +kernel
theorem dL_act_658 : decode cL_act 658 = .ok (.ifCond .ge 23, 3) := by decide +kernel
theorem dL_act_661 : decode cL_act 661 = .ok (.aload_n 0, 1) := by decide +kernel
theorem dL_act_662 : decode cL_act 662 = .ok (.iload 11, 2) := by decide +kernel
theorem dL_act_664 : decode cL_act 664 = .ok (.iconst 0, 1) := by decide +kernel
theorem dL_act_665 : decode cL_act 665 = .ok (.invokevirtual 44, 3) := by decide +kernel
theorem dL_act_668 : decode cL_act 668 = .ok (.aload_n 3, 1) := by decide +kernel
theorem dL_act_669 : decode cL_act 669 = .ok (.iload 11, 2) := by decide +kernel
theorem dL_act_671 : decode cL_act 671 = .ok (.iaload, 1) := by decide +kernel
theorem dL_act_672 : decode cL_act 672 = .ok (.if_icmp .ne 7, 3) := by decide +kernel
theorem dL_act_675 : decode cL_act 675 = .ok (.iconst 1, 1) := by decide +kernel
theorem dL_act_676 : decode cL_act 676 = .ok (.goto 4, 3) := by decide +kernel
theorem dL_act_679 : decode cL_act 679 = .ok (.iconst 0, 1) := by decide +kernel
theorem dL_act_680 : decode cL_act 680 = .ok (.ireturn, 1) := by decide +kernel
theorem dL_act_681 : decode cL_act 681 = .ok (.aload_n 3, 1) := by decide +kernel
theorem dL_act_682 : decode cL_act 682 = .ok (.bipush 9, 2) := by decide +kernel
theorem dL_act_684 : decode cL_act 684 = .ok (.iaload, 1) := by decide +kernel
theorem dL_act_685 : decode cL_act 685 = .ok (.bipush 6, 2) := by decide +kernel
theorem dL_act_687 : decode cL_act 687 = .ok (.if_icmp .ge 11, 3) := by decide +kernel
theorem dL_act_690 : decode cL_act 690 = .ok (.aload_n 3, 1) := by decide +kernel
theorem dL_act_691 : decode cL_act 691 = .ok (.bipush 9, 2) := by decide +kernel
theorem dL_act_693 : decode cL_act 693 = .ok (.dup2, 1) := by decide +kernel
theorem dL_act_694 : decode cL_act 694 = .ok (.iaload, 1) := by decide +kernel
theorem dL_act_695 : decode cL_act 695 = .ok (.iconst 1, 1) := by decide +kernel
theorem dL_act_696 : decode cL_act 696 = .ok (.iadd, 1) := by decide +kernel
theorem dL_act_697 : decode cL_act 697 = .ok (.iastore, 1) := by decide +kernel
theorem dL_act_698 : decode cL_act 698 = .ok (.aload_n 0, 1) := by decide +kernel
theorem dL_act_699 : decode cL_act 699 = .ok (.iload 11, 2) := by decide +kernel
theorem dL_act_701 : decode cL_act 701 = .ok (.iload 14, 2) := by decide +kernel
theorem dL_act_703 : decode cL_act 703 = .ok (.invokevirtual 54, 3) := by decide +kernel
theorem dL_act_706 : decode cL_act 706 = .ok (.iload 15, 2) := by decide +kernel
theorem dL_act_708 : decode cL_act 708 = .ok (.if_icmp .ne 7, 3) := by decide +kernel
theorem dL_act_711 : decode cL_act 711 = .ok (.iconst 1, 1) := by decide +kernel
theorem dL_act_712 : decode cL_act 712 = .ok (.goto 4, 3) := by decide +kernel
theorem dL_act_715 : decode cL_act 715 = .ok (.iconst 0, 1) := by decide +kernel
theorem dL_act_716 : decode cL_act 716 = .ok (.ireturn, 1) := by decide +kernel
theorem dL_act_717 : decode cL_act 717 = .ok (.aload_n 3, 1) := by decide +kernel
theorem dL_act_718 : decode cL_act 718 = .ok (.bipush 9, 2) := by decide +kernel
theorem dL_act_720 : decode cL_act 720 = .ok (.iaload, 1) := by decide +kernel
theorem dL_act_721 : decode cL_act 721 = .ok (.bipush 6, 2) := by decide +kernel
theorem dL_act_723 : decode cL_act 723 = .ok (.if_icmp .ge 11, 3) := by decide +kernel
theorem dL_act_726 : decode cL_act 726 = .ok (.aload_n 3, 1) := by decide +kernel
theorem dL_act_727 : decode cL_act 727 = .ok (.bipush 9, 2) := by decide +kernel
theorem dL_act_729 : decode cL_act 729 = .ok (.dup2, 1) := by decide +kernel
theorem dL_act_730 : decode cL_act 730 = .ok (.iaload, 1) := by decide +kernel
theorem dL_act_731 : decode cL_act 731 = .ok (.iconst 1, 1) := by decide +kernel
theorem dL_act_732 : decode cL_act 732 = .ok (.iadd, 1) := by decide +kernel
theorem dL_act_733 : decode cL_act 733 = .ok (.iastore, 1) := by decide +kernel
theorem dL_act_734 : decode cL_act 734 = .ok (.iload 10, 2) := by decide +kernel
theorem dL_act_736 : decode cL_act 736 = .ok (.bipush 10, 2) := by decide +kernel
theorem dL_act_738 : decode cL_act 738 = .ok (.if_icmp .ne 91, 3) := by decide +kernel
theorem dL_act_741 : decode cL_act 741 = .ok (.iload_n 2, 1) := by decide +kernel
theorem dL_act_742 : decode cL_act 742 = .ok (.iconst 2, 1) := by decide +kernel
theorem dL_act_743 : decode cL_act 743 = .ok (.ishr, 1) := by decide +kernel
theorem dL_act_744 : decode cL_act 744 = .ok (.iconst 2, 1) := by decide +kernel
theorem dL_act_745 : decode cL_act 745 = .ok (.invokestatic 20, 3) := by decide +kernel
theorem dL_act_748 : decode cL_act 748 = .ok (.ifCond .ne 81, 3) := by decide +kernel
theorem dL_act_751 : decode cL_act 751 = .ok (.iconst 0, 1) := by decide +kernel
theorem dL_act_752 : decode cL_act 752 = .ok (.istore 15, 2) := by decide +kernel
theorem dL_act_754 : decode cL_act 754 = .ok (.iload 15, 2) := by decide +kernel
theorem dL_act_756 : decode cL_act 756 = .ok (.aload_n 3, 1) := by decide +kernel
theorem dL_act_757 : decode cL_act 757 = .ok (.iload 11, 2) := by decide +kernel
theorem dL_act_759 : decode cL_act 759 = .ok (.iaload, 1) := by decide +kernel
theorem dL_act_760 : decode cL_act 760 = .ok (.if_icmp .ge 41, 3) := by decide +kernel
theorem dL_act_763 : decode cL_act 763 = .ok (.aload 5, 2) := by decide +kernel
theorem dL_act_765 : decode cL_act 765 = .ok (.bipush 16, 2) := by decide +kernel
theorem dL_act_767 : decode cL_act 767 = .ok (.iload 11, 2) := by decide +kernel
theorem dL_act_769 : decode cL_act 769 = .ok (.imul, 1) := by decide +kernel
theorem dL_act_770 : decode cL_act 770 = .ok (.iload 15, 2) := by decide +kernel
theorem dL_act_772 : decode cL_act 772 = .ok (.iadd, 1) := by decide +kernel
theorem dL_act_773 : decode cL_act 773 = .ok (.iaload, 1) := by decide +kernel
theorem dL_act_774 : decode cL_act 774 = .ok (.ifCond .le 21, 3) := by decide +kernel
theorem dL_act_777 : decode cL_act 777 = .ok (.aload 9, 2) := by decide +kernel
theorem dL_act_779 : decode cL_act 779 = .ok (.aload 6, 2) := by decide +kernel
theorem dL_act_781 : decode cL_act 781 = .ok (.bipush 16, 2) := by decide +kernel
theorem dL_act_783 : decode cL_act 783 = .ok (.iload 11, 2) := by decide +kernel
theorem dL_act_785 : decode cL_act 785 = .ok (.imul, 1) := by decide +kernel
theorem dL_act_786 : decode cL_act 786 = .ok (.iload 15, 2) := by decide +kernel
theorem dL_act_788 : decode cL_act 788 = .ok (.iadd, 1) := by decide +kernel
theorem dL_act_789 : decode cL_act 789 = .ok (.iaload, 1) := by decide +kernel
theorem dL_act_790 : decode cL_act 790 = .ok (.dup2, 1) := by decide +kernel
theorem dL_act_791 : decode cL_act 791 = .ok (.iaload, 1) := by decide +kernel
theorem dL_act_792 : decode cL_act 792 = .ok (.iconst 1, 1) := by decide +kernel
theorem dL_act_793 : decode cL_act 793 = .ok (.isub, 1) := by decide +kernel
theorem dL_act_794 : decode cL_act 794 = .ok (.iastore, 1) := by decide +kernel
theorem dL_act_795 : decode cL_act 795 = .ok (.iinc 15 1, 3) := by decide +kernel
theorem dL_act_798 : decode cL_act 798 = .ok (.goto (-44), 3) := by decide +kernel
theorem dL_act_801 : decode cL_act 801 = .ok (.aload_n 3, 1) := by decide +kernel
theorem dL_act_802 : decode cL_act 802 = .ok (.iload 11, 2) := by decide +kernel
theorem dL_act_804 : decode cL_act 804 = .ok (.iaload, 1) := by decide +kernel
theorem dL_act_805 : decode cL_act 805 = .ok (.istore 14, 2) := by decide +kernel
theorem dL_act_807 : decode cL_act 807 = .ok (.aload_n 3, 1) := by decide +kernel
theorem dL_act_808 : decode cL_act 808 = .ok (.iload 11, 2) := by decide +kernel
theorem dL_act_810 : decode cL_act 810 = .ok (.iconst 0, 1) := by decide +kernel
theorem dL_act_811 : decode cL_act 811 = .ok (.iastore, 1) := by decide +kernel
theorem dL_act_812 : decode cL_act 812 = .ok (.aload_n 0, 1) := by decide +kernel
theorem dL_act_813 : decode cL_act 813 = .ok (.iload 11, 2) := by decide +kernel
theorem dL_act_815 : decode cL_act 815 = .ok (.invokevirtual 57, 3) := by decide +kernel
theorem dL_act_818 : decode cL_act 818 = .ok (.iload 14, 2) := by decide +kernel
theorem dL_act_820 : decode cL_act 820 = .ok (.if_icmp .ne 7, 3) := by decide +kernel
theorem dL_act_823 : decode cL_act 823 = .ok (.iconst 1, 1) := by decide +kernel
theorem dL_act_824 : decode cL_act 824 = .ok (.goto 4, 3) := by decide +kernel
theorem dL_act_827 : decode cL_act 827 = .ok (.iconst 0, 1) := by decide +kernel
theorem dL_act_828 : decode cL_act 828 = .ok (.ireturn, 1) := by decide +kernel
theorem dL_act_829 : decode cL_act 829 = .ok (.iload 10, 2) := by decide +kernel
theorem dL_act_831 : decode cL_act 831 = .ok (.bipush 10, 2) := by decide +kernel
theorem dL_act_833 : decode cL_act 833 = .ok (.if_icmp .ne 78, 3) := by decide +kernel
theorem dL_act_836 : decode cL_act 836 = .ok (.iload_n 2, 1) := by decide +kernel
theorem dL_act_837 : decode cL_act 837 = .ok (.iconst 3, 1) := by decide +kernel
theorem dL_act_838 : decode cL_act 838 = .ok (.ishr, 1) := by decide +kernel
theorem dL_act_839 : decode cL_act 839 = .ok (.iconst 2, 1) := by decide +kernel
theorem dL_act_840 : decode cL_act 840 = .ok (.invokestatic 20, 3) := by decide +kernel
theorem dL_act_843 : decode cL_act 843 = .ok (.ifCond .ne 68, 3) := by decide +kernel
theorem dL_act_846 : decode cL_act 846 = .ok (.iconst 0, 1) := by decide +kernel
theorem dL_act_847 : decode cL_act 847 = .ok (.istore 15, 2) := by decide +kernel
theorem dL_act_849 : decode cL_act 849 = .ok (.iload 15, 2) := by decide +kernel
theorem dL_act_851 : decode cL_act 851 = .ok (.bipush 60, 2) := by decide +kernel
theorem dL_act_853 : decode cL_act 853 = .ok (.if_icmp .ge 34, 3) := by decide +kernel
theorem dL_act_856 : decode cL_act 856 = .ok (.aload 8, 2) := by decide +kernel
theorem dL_act_858 : decode cL_act 858 = .ok (.iload 15, 2) := by decide +kernel
theorem dL_act_860 : decode cL_act 860 = .ok (.iaload, 1) := by decide +kernel
theorem dL_act_861 : decode cL_act 861 = .ok (.ifCond .le 20, 3) := by decide +kernel
theorem dL_act_864 : decode cL_act 864 = .ok (.aload 9, 2) := by decide +kernel
theorem dL_act_866 : decode cL_act 866 = .ok (.iload 15, 2) := by decide +kernel
theorem dL_act_868 : decode cL_act 868 = .ok (.iaload, 1) := by decide +kernel
theorem dL_act_869 : decode cL_act 869 = .ok (.ifCond .ne 12, 3) := by decide +kernel
theorem dL_act_872 : decode cL_act 872 = .ok (.aload 8, 2) := by decide +kernel
theorem dL_act_874 : decode cL_act 874 = .ok (.iload 15, 2) := by decide +kernel
theorem dL_act_876 : decode cL_act 876 = .ok (.iconst 0, 1) := by decide +kernel
theorem dL_act_877 : decode cL_act 877 = .ok (.iastore, 1) := by decide +kernel
theorem dL_act_878 : decode cL_act 878 = .ok (.iinc 14 1, 3) := by decide +kernel
theorem dL_act_881 : decode cL_act 881 = .ok (.iinc 15 1, 3) := by decide +kernel
theorem dL_act_884 : decode cL_act 884 = .ok (.goto (-35), 3) := by decide +kernel
theorem dL_act_887 : decode cL_act 887 = .ok (.aload_n 3, 1) := by decide +kernel
theorem dL_act_888 : decode cL_act 888 = .ok (.bipush 11, 2) := by decide +kernel
theorem dL_act_890 : decode cL_act 890 = .ok (.dup2, 1) := by decide +kernel
theorem dL_act_891 : decode cL_act 891 = .ok (.iaload, 1) := by decide +kernel
theorem dL_act_892 : decode cL_act 892 = .ok (.iload 14, 2) := by decide +kernel
theorem dL_act_894 : decode cL_act 894 = .ok (.iadd, 1) := by decide +kernel
theorem dL_act_895 : decode cL_act 895 = .ok (.iastore, 1) := by decide +kernel
theorem dL_act_896 : decode cL_act 896 = .ok (.aload_n 0, 1) := by decide +kernel
theorem dL_act_897 : decode cL_act 897 = .ok (.invokevirtual 60, 3) := by decide +kernel
theorem dL_act_900 : decode cL_act 900 = .ok (.iload 14, 2) := by decide +kernel
theorem dL_act_902 : decode cL_act 902 = .ok (.if_icmp .ne 7, 3) := by decide +kernel
theorem dL_act_905 : decode cL_act 905 = .ok (.iconst 1, 1) := by decide +kernel
theorem dL_act_906 : decode cL_act 906 = .ok (.goto 4, 3) := by decide +kernel
theorem dL_act_909 : decode cL_act 909 = .ok (.iconst 0, 1) := by decide +kernel
theorem dL_act_910 : decode cL_act 910 = .ok (.ireturn, 1) := by decide +kernel
theorem dL_act_911 : decode cL_act 911 = .ok (.iload_n 2, 1) := by decide +kernel
theorem dL_act_912 : decode cL_act 912 = .ok (.iconst 5, 1) := by decide +kernel
theorem dL_act_913 : decode cL_act 913 = .ok (.invokestatic 20, 3) := by decide +kernel
theorem dL_act_916 : decode cL_act 916 = .ok (.istore 15, 2) := by decide +kernel
theorem dL_act_918 : decode cL_act 918 = .ok (.aload_n 3, 1) := by decide +kernel
theorem dL_act_919 : decode cL_act 919 = .ok (.iconst 4, 1) := by decide +kernel
theorem dL_act_920 : decode cL_act 920 = .ok (.iload 15, 2) := by decide +kernel
theorem dL_act_922 : decode cL_act 922 = .ok (.iadd, 1) := by decide +kernel
theorem dL_act_923 : decode cL_act 923 = .ok (.iaload, 1) := by decide +kernel
theorem dL_act_924 : decode cL_act 924 = .ok (.istore 16, 2) := by decide +kernel
theorem dL_act_926 : decode cL_act 926 = .ok (.aload_n 3, 1) := by decide +kernel
theorem dL_act_927 : decode cL_act 927 = .ok (.iconst 4, 1) := by decide +kernel
theorem dL_act_928 : decode cL_act 928 = .ok (.iload 15, 2) := by decide +kernel
theorem dL_act_930 : decode cL_act 930 = .ok (.iadd, 1) := by decide +kernel
theorem dL_act_931 : decode cL_act 931 = .ok (.iload 15, 2) := by decide +kernel
theorem dL_act_933 : decode cL_act 933 = .ok (.iconst 1, 1) := by decide +kernel
theorem dL_act_934 : decode cL_act 934 = .ok (.if_icmp .ne 16, 3) := by decide +kernel
theorem dL_act_937 : decode cL_act 937 = .ok (.iconst 1, 1) := by decide +kernel
theorem dL_act_938 : decode cL_act 938 = .ok (.iload_n 2, 1) := by decide +kernel
theorem dL_act_939 : decode cL_act 939 = .ok (.iconst 3, 1) := by decide +kernel
theorem dL_act_940 : decode cL_act 940 = .ok (.ishr, 1) := by decide +kernel
theorem dL_act_941 : decode cL_act 941 = .ok (.bipush 9, 2) := by decide +kernel
theorem dL_act_943 : decode cL_act 943 = .ok (.invokestatic 20, 3) := by decide +kernel
theorem dL_act_946 : decode cL_act 946 = .ok (.iadd, 1) := by decide +kernel
theorem dL_act_947 : decode cL_act 947 = .ok (.goto 49, 3) := by decide +kernel
theorem dL_act_950 : decode cL_act 950 = .ok (.iload 15, 2) := by decide +kernel
theorem dL_act_952 : decode cL_act 952 = .ok (.iconst 2, 1) := by decide +kernel
theorem dL_act_953 : decode cL_act 953 = .ok (.if_icmp .ne 13, 3) := by decide +kernel
theorem dL_act_956 : decode cL_act 956 = .ok (.iload_n 2, 1) := by decide +kernel
theorem dL_act_957 : decode cL_act 957 = .ok (.iconst 3, 1) := by decide +kernel
theorem dL_act_958 : decode cL_act 958 = .ok (.ishr, 1) := by decide +kernel
theorem dL_act_959 : decode cL_act 959 = .ok (.iconst 3, 1) := by decide +kernel
theorem dL_act_960 : decode cL_act 960 = .ok (.invokestatic 20, 3) := by decide +kernel
theorem dL_act_963 : decode cL_act 963 = .ok (.goto 33, 3) := by decide +kernel
theorem dL_act_966 : decode cL_act 966 = .ok (.iload 15, 2) := by decide +kernel
theorem dL_act_968 : decode cL_act 968 = .ok (.iconst 4, 1) := by decide +kernel
theorem dL_act_969 : decode cL_act 969 = .ok (.if_icmp .ne 17, 3) := by decide +kernel
theorem dL_act_972 : decode cL_act 972 = .ok (.bipush 6, 2) := by decide +kernel
theorem dL_act_974 : decode cL_act 974 = .ok (.iload_n 2, 1) := by decide +kernel
theorem dL_act_975 : decode cL_act 975 = .ok (.iconst 3, 1) := by decide +kernel
theorem dL_act_976 : decode cL_act 976 = .ok (.ishr, 1) := by decide +kernel
theorem dL_act_977 : decode cL_act 977 = .ok (.bipush 6, 2) := by decide +kernel
theorem dL_act_979 : decode cL_act 979 = .ok (.invokestatic 20, 3) := by decide +kernel
theorem dL_act_982 : decode cL_act 982 = .ok (.iadd, 1) := by decide +kernel
theorem dL_act_983 : decode cL_act 983 = .ok (.goto 13, 3) := by decide +kernel
theorem dL_act_986 : decode cL_act 986 = .ok (.iconst 1, 1) := by decide +kernel
theorem dL_act_987 : decode cL_act 987 = .ok (.iload_n 2, 1) := by decide +kernel
theorem dL_act_988 : decode cL_act 988 = .ok (.iconst 3, 1) := by decide +kernel
theorem dL_act_989 : decode cL_act 989 = .ok (.ishr, 1) := by decide +kernel
theorem dL_act_990 : decode cL_act 990 = .ok (.bipush 6, 2) := by decide +kernel
theorem dL_act_992 : decode cL_act 992 = .ok (.invokestatic 20, 3) := by decide +kernel
theorem dL_act_995 : decode cL_act 995 = .ok (.iadd, 1) := by decide +kernel
theorem dL_act_996 : decode cL_act 996 = .ok (.iastore, 1) := by decide +kernel
theorem dL_act_997 : decode cL_act 997 = .ok (.aload_n 0, 1) := by decide +kernel
theorem dL_act_998 : decode cL_act 998 = .ok (.iload 15, 2) := by decide +kernel
theorem dL_act_1000 : decode cL_act 1000 = .ok (.aload_n 3, 1) := by decide +kernel
theorem dL_act_1001 : decode cL_act 1001 = .ok (.iconst 4, 1) := by decide +kernel
theorem dL_act_1002 : decode cL_act 1002 = .ok (.iload 15, 2) := by decide +kernel
theorem dL_act_1004 : decode cL_act 1004 = .ok (.iadd, 1) := by decide +kernel
theorem dL_act_1005 : decode cL_act 1005 = .ok (.iaload, 1) := by decide +kernel
theorem dL_act_1006 : decode cL_act 1006 = .ok (.invokevirtual 63, 3) := by decide +kernel
theorem dL_act_1009 : decode cL_act 1009 = .ok (.iload 16, 2) := by decide +kernel
theorem dL_act_1011 : decode cL_act 1011 = .ok (.if_icmp .ne 7, 3) := by decide +kernel
theorem dL_act_1014 : decode cL_act 1014 = .ok (.iconst 1, 1) := by decide +kernel
theorem dL_act_1015 : decode cL_act 1015 = .ok (.goto 4, 3) := by decide +kernel
theorem dL_act_1018 : decode cL_act 1018 = .ok (.iconst 0, 1) := by decide +kernel
theorem dL_act_1019 : decode cL_act 1019 = .ok (.ireturn, 1) := by decide +kernel
theorem dL_agree_0 : decode cL_agree 0 = .ok (.iconst 0, 1) := by decide +kernel
theorem dL_agree_1 : decode cL_agree 1 = .ok (.istore 7, 2) := by decide +kernel
theorem dL_agree_3 : decode cL_agree 3 = .ok (.iconst 0, 1) := by decide +kernel
theorem dL_agree_4 : decode cL_agree 4 = .ok (.istore 8, 2) := by decide +kernel
theorem dL_agree_6 : decode cL_agree 6 = .ok (.iconst 0, 1) := by decide +kernel
theorem dL_agree_7 : decode cL_agree 7 = .ok (.istore 9, 2) := by decide +kernel
theorem dL_agree_9 : decode cL_agree 9 = .ok (.iload 9, 2) := by decide +kernel
theorem dL_agree_11 : decode cL_agree 11 = .ok (.iconst 4, 1) := by decide +kernel
theorem dL_agree_12 : decode cL_agree 12 = .ok (.if_icmp .ge 201, 3) := by decide +kernel
theorem dL_agree_15 : decode cL_agree 15 = .ok (.iconst 0, 1) := by decide +kernel
theorem dL_agree_16 : decode cL_agree 16 = .ok (.istore 10, 2) := by decide +kernel
theorem dL_agree_18 : decode cL_agree 18 = .ok (.iconst 0, 1) := by decide +kernel
theorem dL_agree_19 : decode cL_agree 19 = .ok (.istore 11, 2) := by decide +kernel
theorem dL_agree_21 : decode cL_agree 21 = .ok (.iload 11, 2) := by decide +kernel
theorem dL_agree_23 : decode cL_agree 23 = .ok (.aload_n 1, 1) := by decide +kernel
theorem dL_agree_24 : decode cL_agree 24 = .ok (.iload 9, 2) := by decide +kernel
theorem dL_agree_26 : decode cL_agree 26 = .ok (.iaload, 1) := by decide +kernel
theorem dL_agree_27 : decode cL_agree 27 = .ok (.if_icmp .ge 152, 3) := by decide +kernel
theorem dL_agree_30 : decode cL_agree 30 = .ok (.aload_n 0, 1) := by decide +kernel
theorem dL_agree_31 : decode cL_agree 31 = .ok (.iload 9, 2) := by decide +kernel
theorem dL_agree_33 : decode cL_agree 33 = .ok (.iload 11, 2) := by decide +kernel
theorem dL_agree_35 : decode cL_agree 35 = .ok (.iconst 0, 1) := by decide +kernel
theorem dL_agree_36 : decode cL_agree 36 = .ok (.invokevirtual 66, 3) := by decide +kernel
theorem dL_agree_39 : decode cL_agree 39 = .ok (.aload_n 2, 1) := by decide +kernel
theorem dL_agree_40 : decode cL_agree 40 = .ok (.bipush 16, 2) := by decide +kernel
theorem dL_agree_42 : decode cL_agree 42 = .ok (.iload 9, 2) := by decide +kernel
theorem dL_agree_44 : decode cL_agree 44 = .ok (.imul, 1) := by decide +kernel
theorem dL_agree_45 : decode cL_agree 45 = .ok (.iload 11, 2) := by decide +kernel
theorem dL_agree_47 : decode cL_agree 47 = .ok (.iadd, 1) := by decide +kernel
theorem dL_agree_48 : decode cL_agree 48 = .ok (.iaload, 1) := by decide +kernel
theorem dL_agree_49 : decode cL_agree 49 = .ok (.if_icmp .ne 70, 3) := by decide +kernel
theorem dL_agree_52 : decode cL_agree 52 = .ok (.aload_n 0, 1) := by decide +kernel
theorem dL_agree_53 : decode cL_agree 53 = .ok (.iload 9, 2) := by decide +kernel
theorem dL_agree_55 : decode cL_agree 55 = .ok (.iload 11, 2) := by decide +kernel
theorem dL_agree_57 : decode cL_agree 57 = .ok (.iconst 2, 1) := by decide +kernel
theorem dL_agree_58 : decode cL_agree 58 = .ok (.invokevirtual 66, 3) := by decide +kernel
theorem dL_agree_61 : decode cL_agree 61 = .ok (.iload 10, 2) := by decide +kernel
theorem dL_agree_63 : decode cL_agree 63 = .ok (.if_icmp .ne 56, 3) := by decide +kernel
theorem dL_agree_66 : decode cL_agree 66 = .ok (.aload_n 0, 1) := by decide +kernel
theorem dL_agree_67 : decode cL_agree 67 = .ok (.iload 9, 2) := by decide +kernel
theorem dL_agree_69 : decode cL_agree 69 = .ok (.iload 11, 2) := by decide +kernel
theorem dL_agree_71 : decode cL_agree 71 = .ok (.iconst 3, 1) := by decide +kernel
theorem dL_agree_72 : decode cL_agree 72 = .ok (.invokevirtual 66, 3) := by decide +kernel
theorem dL_agree_75 : decode cL_agree 75 = .ok (.aload_n 3, 1) := by decide +kernel
theorem dL_agree_76 : decode cL_agree 76 = .ok (.bipush 16, 2) := by decide +kernel
theorem dL_agree_78 : decode cL_agree 78 = .ok (.iload 9, 2) := by decide +kernel
theorem dL_agree_80 : decode cL_agree 80 = .ok (.imul, 1) := by decide +kernel
theorem dL_agree_81 : decode cL_agree 81 = .ok (.iload 11, 2) := by decide +kernel
theorem dL_agree_83 : decode cL_agree 83 = .ok (.iadd, 1) := by decide +kernel
theorem dL_agree_84 : decode cL_agree 84 = .ok (.iaload, 1) := by decide +kernel
theorem dL_agree_85 : decode cL_agree 85 = .ok (.ifCond .le 7, 3) := by decide +kernel
theorem dL_agree_88 : decode cL_agree 88 = .ok (.iconst 1, 1) := by decide +kernel
theorem dL_agree_89 : decode cL_agree 89 = .ok (.goto 4, 3) := by decide +kernel
theorem dL_agree_92 : decode cL_agree 92 = .ok (.iconst 0, 1) := by decide +kernel
theorem dL_agree_93 : decode cL_agree 93 = .ok (.if_icmp .ne 26, 3) := by decide +kernel
theorem dL_agree_96 : decode cL_agree 96 = .ok (.aload_n 0, 1) := by decide +kernel
theorem dL_agree_97 : decode cL_agree 97 = .ok (.iload 9, 2) := by decide +kernel
theorem dL_agree_99 : decode cL_agree 99 = .ok (.iload 10, 2) := by decide +kernel
theorem dL_agree_101 : decode cL_agree 101 = .ok (.iconst 0, 1) := by decide +kernel
theorem dL_agree_102 : decode cL_agree 102 = .ok (.invokevirtual 69, 3) := by decide +kernel
theorem dL_agree_105 : decode cL_agree 105 = .ok (.aload 4, 2) := by decide +kernel
theorem dL_agree_107 : decode cL_agree 107 = .ok (.bipush 16, 2) := by decide +kernel
theorem dL_agree_109 : decode cL_agree 109 = .ok (.iload 9, 2) := by decide +kernel
theorem dL_agree_111 : decode cL_agree 111 = .ok (.imul, 1) := by decide +kernel
theorem dL_agree_112 : decode cL_agree 112 = .ok (.iload 11, 2) := by decide +kernel
theorem dL_agree_114 : decode cL_agree 114 = .ok (.iadd, 1) := by decide +kernel
theorem dL_agree_115 : decode cL_agree 115 = .ok (.iaload, 1) := by decide +kernel
theorem dL_agree_116 : decode cL_agree 116 = .ok (.if_icmp .eq 5, 3) := by decide +kernel
theorem dL_agree_119 : decode cL_agree 119 = .ok (.iconst 0, 1) := by decide +kernel
theorem dL_agree_120 : decode cL_agree 120 = .ok (.ireturn, 1) := by decide +kernel
theorem dL_agree_121 : decode cL_agree 121 = .ok (.aload_n 3, 1) := by decide +kernel
theorem dL_agree_122 : decode cL_agree 122 = .ok (.bipush 16, 2) := by decide +kernel
theorem dL_agree_124 : decode cL_agree 124 = .ok (.iload 9, 2) := by decide +kernel
theorem dL_agree_126 : decode cL_agree 126 = .ok (.imul, 1) := by decide +kernel
theorem dL_agree_127 : decode cL_agree 127 = .ok (.iload 11, 2) := by decide +kernel
theorem dL_agree_129 : decode cL_agree 129 = .ok (.iadd, 1) := by decide +kernel
theorem dL_agree_130 : decode cL_agree 130 = .ok (.iaload, 1) := by decide +kernel
theorem dL_agree_131 : decode cL_agree 131 = .ok (.ifCond .ne 6, 3) := by decide +kernel
theorem dL_agree_134 : decode cL_agree 134 = .ok (.goto 39, 3) := by decide +kernel
theorem dL_agree_137 : decode cL_agree 137 = .ok (.aload_n 0, 1) := by decide +kernel
theorem dL_agree_138 : decode cL_agree 138 = .ok (.iload 9, 2) := by decide +kernel
theorem dL_agree_140 : decode cL_agree 140 = .ok (.iload 10, 2) := by decide +kernel
theorem dL_agree_142 : decode cL_agree 142 = .ok (.iconst 3, 1) := by decide +kernel
theorem dL_agree_143 : decode cL_agree 143 = .ok (.invokevirtual 69, 3) := by decide +kernel
theorem dL_agree_146 : decode cL_agree 146 = .ok (.aload_n 3, 1) := by decide +kernel
theorem dL_agree_147 : decode cL_agree 147 = .ok (.bipush 16, 2) := by decide +kernel
theorem dL_agree_149 : decode cL_agree 149 = .ok (.iload 9, 2) := by decide +kernel
theorem dL_agree_151 : decode cL_agree 151 = .ok (.imul, 1) := by decide +kernel
theorem dL_agree_152 : decode cL_agree 152 = .ok (.iload 11, 2) := by decide +kernel
theorem dL_agree_154 : decode cL_agree 154 = .ok (.iadd, 1) := by decide +kernel
theorem dL_agree_155 : decode cL_agree 155 = .ok (.iaload, 1) := by decide +kernel
theorem dL_agree_156 : decode cL_agree 156 = .ok (.iconst 2, 1) := by decide +kernel
theorem dL_agree_157 : decode cL_agree 157 = .ok (.if_icmp .ne 7, 3) := by decide +kernel
theorem dL_agree_160 : decode cL_agree 160 = .ok (.iconst 1, 1) := by decide +kernel
theorem dL_agree_161 : decode cL_agree 161 = .ok (.goto 4, 3) := by decide +kernel
theorem dL_agree_164 : decode cL_agree 164 = .ok (.iconst 0, 1) := by decide +kernel
theorem dL_agree_165 : decode cL_agree 165 = .ok (.if_icmp .eq 5, 3) := by decide +kernel
theorem dL_agree_168 : decode cL_agree 168 = .ok (.iconst 0, 1) := by decide +kernel
theorem dL_agree_169 : decode cL_agree 169 = .ok (.ireturn, 1) := by decide +kernel
theorem dL_agree_170 : decode cL_agree 170 = .ok (.iinc 10 1, 3) := by decide +kernel
theorem dL_agree_173 : decode cL_agree 173 = .ok (.iinc 11 1, 3) := by decide +kernel
theorem dL_agree_176 : decode cL_agree 176 = .ok (.goto (-155), 3) := by decide +kernel
theorem dL_agree_179 : decode cL_agree 179 = .ok (.aload_n 0, 1) := by decide +kernel
theorem dL_agree_180 : decode cL_agree 180 = .ok (.iload 9, 2) := by decide +kernel
theorem dL_agree_182 : decode cL_agree 182 = .ok (.iconst 0, 1) := by decide +kernel
theorem dL_agree_183 : decode cL_agree 183 = .ok (.invokevirtual 44, 3) := by decide +kernel
theorem dL_agree_186 : decode cL_agree 186 = .ok (.aload_n 1, 1) := by decide +kernel
theorem dL_agree_187 : decode cL_agree 187 = .ok (.iload 9, 2) := by decide +kernel
theorem dL_agree_189 : decode cL_agree 189 = .ok (.iaload, 1) := by decide +kernel
theorem dL_agree_190 : decode cL_agree 190 = .ok (.if_icmp .ne 15, 3) := by decide +kernel
theorem dL_agree_193 : decode cL_agree 193 = .ok (.aload_n 0, 1) := by decide +kernel
theorem dL_agree_194 : decode cL_agree 194 = .ok (.iload 9, 2) := by decide +kernel
theorem dL_agree_196 : decode cL_agree 196 = .ok (.iconst 1, 1) := by decide +kernel
theorem dL_agree_197 : decode cL_agree 197 = .ok (.invokevirtual 44, 3) := by decide +kernel
theorem dL_agree_200 : decode cL_agree 200 = .ok (.iload 10, 2) := by decide +kernel
theorem dL_agree_202 : decode cL_agree 202 = .ok (.if_icmp .eq 5, 3) := by decide +kernel
theorem dL_agree_205 : decode cL_agree 205 = .ok (.iconst 0, 1) := by decide +kernel
theorem dL_agree_206 : decode cL_agree 206 = .ok (.ireturn, 1) := by decide +kernel
theorem dL_agree_207 : decode cL_agree 207 = .ok (.iinc 9 1, 3) := by decide +kernel
theorem dL_agree_210 : decode cL_agree 210 = .ok (.goto (-201), 3) := by decide +kernel
theorem dL_agree_213 : decode cL_agree 213 = .ok (.iconst 0, 1) := by decide +kernel
theorem dL_agree_214 : decode cL_agree 214 = .ok (.istore 9, 2) := by decide +kernel
theorem dL_agree_216 : decode cL_agree 216 = .ok (.iload 9, 2) := by decide +kernel
theorem dL_agree_218 : decode cL_agree 218 = .ok (.bipush 60, 2) := by decide +kernel
theorem dL_agree_220 : decode cL_agree 220 = .ok (.if_icmp .ge 86, 3) := by decide +kernel
theorem dL_agree_223 : decode cL_agree 223 = .ok (.aload_n 0, 1) := by decide +kernel
theorem dL_agree_224 : decode cL_agree 224 = .ok (.iload 9, 2) := by decide +kernel
theorem dL_agree_226 : decode cL_agree 226 = .ok (.iconst 0, 1) := by decide +kernel
theorem dL_agree_227 : decode cL_agree 227 = .ok (.invokevirtual 72, 3) := by decide +kernel
theorem dL_agree_230 : decode cL_agree 230 = .ok (.aload 5, 2) := by decide +kernel
theorem dL_agree_232 : decode cL_agree 232 = .ok (.iload 9, 2) := by decide +kernel
theorem dL_agree_234 : decode cL_agree 234 = .ok (.iaload, 1) := by decide +kernel
theorem dL_agree_235 : decode cL_agree 235 = .ok (.ifCond .ne 7, 3) := by decide +kernel
theorem dL_agree_238 : decode cL_agree 238 = .ok (.iconst (-1), 1) := by decide +kernel
theorem dL_agree_239 : decode cL_agree 239 = .ok (.goto 8, 3) := by decide +kernel
theorem dL_agree_242 : decode cL_agree 242 = .ok (.aload 5, 2) := by decide +kernel
theorem dL_agree_244 : decode cL_agree 244 = .ok (.iload 9, 2) := by decide +kernel
theorem dL_agree_246 : decode cL_agree 246 = .ok (.iaload, 1) := by decide +kernel
theorem dL_agree_247 : decode cL_agree 247 = .ok (.if_icmp .ne 30, 3) := by decide +kernel
theorem dL_agree_250 : decode cL_agree 250 = .ok (.aload_n 0, 1) := by decide +kernel
theorem dL_agree_251 : decode cL_agree 251 = .ok (.iload 9, 2) := by decide +kernel
theorem dL_agree_253 : decode cL_agree 253 = .ok (.iconst 1, 1) := by decide +kernel
theorem dL_agree_254 : decode cL_agree 254 = .ok (.invokevirtual 72, 3) := by decide +kernel
theorem dL_agree_257 : decode cL_agree 257 = .ok (.aload 5, 2) := by decide +kernel
theorem dL_agree_259 : decode cL_agree 259 = .ok (.iload 9, 2) := by decide +kernel
theorem dL_agree_261 : decode cL_agree 261 = .ok (.iaload, 1) := by decide +kernel
theorem dL_agree_262 : decode cL_agree 262 = .ok (.ifCond .ne 7, 3) := by decide +kernel
theorem dL_agree_265 : decode cL_agree 265 = .ok (.iconst (-1), 1) := by decide +kernel
theorem dL_agree_266 : decode cL_agree 266 = .ok (.goto 8, 3) := by decide +kernel
theorem dL_agree_269 : decode cL_agree 269 = .ok (.aload 6, 2) := by decide +kernel
theorem dL_agree_271 : decode cL_agree 271 = .ok (.iload 9, 2) := by decide +kernel
theorem dL_agree_273 : decode cL_agree 273 = .ok (.iaload, 1) := by decide +kernel
theorem dL_agree_274 : decode cL_agree 274 = .ok (.if_icmp .eq 5, 3) := by decide +kernel
theorem dL_agree_277 : decode cL_agree 277 = .ok (.iconst 0, 1) := by decide +kernel
theorem dL_agree_278 : decode cL_agree 278 = .ok (.ireturn, 1) := by decide +kernel
theorem dL_agree_279 : decode cL_agree 279 = .ok (.aload 5, 2) := by decide +kernel
theorem dL_agree_281 : decode cL_agree 281 = .ok (.iload 9, 2) := by decide +kernel
theorem dL_agree_283 : decode cL_agree 283 = .ok (.iaload, 1) := by decide +kernel
theorem dL_agree_284 : decode cL_agree 284 = .ok (.ifCond .le 6, 3) := by decide +kernel
theorem dL_agree_287 : decode cL_agree 287 = .ok (.iinc 7 1, 3) := by decide +kernel
theorem dL_agree_290 : decode cL_agree 290 = .ok (.iload 8, 2) := by decide +kernel
theorem dL_agree_292 : decode cL_agree 292 = .ok (.aload 5, 2) := by decide +kernel
theorem dL_agree_294 : decode cL_agree 294 = .ok (.iload 9, 2) := by decide +kernel
theorem dL_agree_296 : decode cL_agree 296 = .ok (.iaload, 1) := by decide +kernel
theorem dL_agree_297 : decode cL_agree 297 = .ok (.iadd, 1) := by decide +kernel
theorem dL_agree_298 : decode cL_agree 298 = .ok (.istore 8, 2) := by decide +kernel
theorem dL_agree_300 : decode cL_agree 300 = .ok (.iinc 9 1, 3) := by decide +kernel
theorem dL_agree_303 : decode cL_agree 303 = .ok (.goto (-87), 3) := by decide +kernel
theorem dL_agree_306 : decode cL_agree 306 = .ok (.aload_n 0, 1) := by decide +kernel
theorem dL_agree_307 : decode cL_agree 307 = .ok (.iconst 2, 1) := by decide +kernel
theorem dL_agree_308 : decode cL_agree 308 = .ok (.invokevirtual 74, 3) := by decide +kernel
theorem dL_agree_311 : decode cL_agree 311 = .ok (.iload 7, 2) := by decide +kernel
theorem dL_agree_313 : decode cL_agree 313 = .ok (.if_icmp .ne 56, 3) := by decide +kernel
theorem dL_agree_316 : decode cL_agree 316 = .ok (.aload_n 0, 1) := by decide +kernel
theorem dL_agree_317 : decode cL_agree 317 = .ok (.iconst 3, 1) := by decide +kernel
theorem dL_agree_318 : decode cL_agree 318 = .ok (.invokevirtual 74, 3) := by decide +kernel
theorem dL_agree_321 : decode cL_agree 321 = .ok (.iload 8, 2) := by decide +kernel
theorem dL_agree_323 : decode cL_agree 323 = .ok (.if_icmp .ne 46, 3) := by decide +kernel
theorem dL_agree_326 : decode cL_agree 326 = .ok (.aload_n 0, 1) := by decide +kernel
theorem dL_agree_327 : decode cL_agree 327 = .ok (.bipush 7, 2) := by decide +kernel
theorem dL_agree_329 : decode cL_agree 329 = .ok (.invokevirtual 74, 3) := by decide +kernel
theorem dL_agree_332 : decode cL_agree 332 = .ok (.aload_n 1, 1) := by decide +kernel
theorem dL_agree_333 : decode cL_agree 333 = .ok (.bipush 10, 2) := by decide +kernel
theorem dL_agree_335 : decode cL_agree 335 = .ok (.iaload, 1) := by decide +kernel
theorem dL_agree_336 : decode cL_agree 336 = .ok (.if_icmp .ne 33, 3) := by decide +kernel
theorem dL_agree_339 : decode cL_agree 339 = .ok (.aload_n 0, 1) := by decide +kernel
theorem dL_agree_340 : decode cL_agree 340 = .ok (.bipush 8, 2) := by decide +kernel
theorem dL_agree_342 : decode cL_agree 342 = .ok (.invokevirtual 74, 3) := by decide +kernel
theorem dL_agree_345 : decode cL_agree 345 = .ok (.aload_n 1, 1) := by decide +kernel
theorem dL_agree_346 : decode cL_agree 346 = .ok (.bipush 11, 2) := by decide +kernel
theorem dL_agree_348 : decode cL_agree 348 = .ok (.iaload, 1) := by decide +kernel
theorem dL_agree_349 : decode cL_agree 349 = .ok (.if_icmp .ne 20, 3) := by decide +kernel
theorem dL_agree_352 : decode cL_agree 352 = .ok (.aload_n 0, 1) := by decide +kernel
theorem dL_agree_353 : decode cL_agree 353 = .ok (.bipush 9, 2) := by decide +kernel
theorem dL_agree_355 : decode cL_agree 355 = .ok (.invokevirtual 74, 3) := by decide +kernel
theorem dL_agree_358 : decode cL_agree 358 = .ok (.aload_n 1, 1) := by decide +kernel
theorem dL_agree_359 : decode cL_agree 359 = .ok (.bipush 9, 2) := by decide +kernel
theorem dL_agree_361 : decode cL_agree 361 = .ok (.iaload, 1) := by decide +kernel
theorem dL_agree_362 : decode cL_agree 362 = .ok (.if_icmp .ne 7, 3) := by decide +kernel
theorem dL_agree_365 : decode cL_agree 365 = .ok (.iconst 1, 1) := by decide +kernel
theorem dL_agree_366 : decode cL_agree 366 = .ok (.goto 4, 3) := by decide +kernel
theorem dL_agree_369 : decode cL_agree 369 = .ok (.iconst 0, 1) := by decide +kernel
theorem dL_agree_370 : decode cL_agree 370 = .ok (.ireturn, 1) := by decide +kernel
theorem dL_law_0 : decode cL_law 0 = .ok (.new 25, 3) := by decide +kernel
theorem dL_law_3 : decode cL_law 3 = .ok (.dup, 1) := by decide +kernel
theorem dL_law_4 : decode cL_law 4 = .ok (.invokespecial 77, 3) := by decide +kernel
theorem dL_law_7 : decode cL_law 7 = .ok (.astore_n 1, 1) := by decide +kernel
theorem dL_law_8 : decode cL_law 8 = .ok (.bipush 12, 2) := by decide +kernel
theorem dL_law_10 : decode cL_law 10 = .ok (.newarray .int, 2) := by decide +kernel
theorem dL_law_12 : decode cL_law 12 = .ok (.astore_n 2, 1) := by decide +kernel
theorem dL_law_13 : decode cL_law 13 = .ok (.bipush 64, 2) := by decide +kernel
theorem dL_law_15 : decode cL_law 15 = .ok (.newarray .int, 2) := by decide +kernel
theorem dL_law_17 : decode cL_law 17 = .ok (.astore_n 3, 1) := by decide +kernel
theorem dL_law_18 : decode cL_law 18 = .ok (.bipush 64, 2) := by decide +kernel
theorem dL_law_20 : decode cL_law 20 = .ok (.newarray .int, 2) := by decide +kernel
theorem dL_law_22 : decode cL_law 22 = .ok (.astore 4, 2) := by decide +kernel
theorem dL_law_24 : decode cL_law 24 = .ok (.bipush 64, 2) := by decide +kernel
theorem dL_law_26 : decode cL_law 26 = .ok (.newarray .int, 2) := by decide +kernel
theorem dL_law_28 : decode cL_law 28 = .ok (.astore 5, 2) := by decide +kernel
theorem dL_law_30 : decode cL_law 30 = .ok (.bipush 60, 2) := by decide +kernel
theorem dL_law_32 : decode cL_law 32 = .ok (.newarray .long, 2) := by decide +kernel
theorem dL_law_34 : decode cL_law 34 = .ok (.astore 6, 2) := by decide +kernel
theorem dL_law_36 : decode cL_law 36 = .ok (.bipush 60, 2) := by decide +kernel
theorem dL_law_38 : decode cL_law 38 = .ok (.newarray .int, 2) := by decide +kernel
theorem dL_law_40 : decode cL_law 40 = .ok (.astore 7, 2) := by decide +kernel
theorem dL_law_42 : decode cL_law 42 = .ok (.bipush 60, 2) := by decide +kernel
theorem dL_law_44 : decode cL_law 44 = .ok (.newarray .int, 2) := by decide +kernel
theorem dL_law_46 : decode cL_law 46 = .ok (.astore 8, 2) := by decide +kernel
theorem dL_law_48 : decode cL_law 48 = .ok (.aload_n 2, 1) := by decide +kernel
theorem dL_law_49 : decode cL_law 49 = .ok (.iconst 4, 1) := by decide +kernel
theorem dL_law_50 : decode cL_law 50 = .ok (.iconst 3, 1) := by decide +kernel
theorem dL_law_51 : decode cL_law 51 = .ok (.iastore, 1) := by decide +kernel
theorem dL_law_52 : decode cL_law 52 = .ok (.aload_n 2, 1) := by decide +kernel
theorem dL_law_53 : decode cL_law 53 = .ok (.iconst 5, 1) := by decide +kernel
theorem dL_law_54 : decode cL_law 54 = .ok (.iconst 4, 1) := by decide +kernel
theorem dL_law_55 : decode cL_law 55 = .ok (.iastore, 1) := by decide +kernel
theorem dL_law_56 : decode cL_law 56 = .ok (.aload_n 2, 1) := by decide +kernel
theorem dL_law_57 : decode cL_law 57 = .ok (.bipush 7, 2) := by decide +kernel
theorem dL_law_59 : decode cL_law 59 = .ok (.iconst 2, 1) := by decide +kernel
theorem dL_law_60 : decode cL_law 60 = .ok (.iastore, 1) := by decide +kernel
theorem dL_law_61 : decode cL_law 61 = .ok (.aload_n 2, 1) := by decide +kernel
theorem dL_law_62 : decode cL_law 62 = .ok (.bipush 8, 2) := by decide +kernel
theorem dL_law_64 : decode cL_law 64 = .ok (.bipush 10, 2) := by decide +kernel
theorem dL_law_66 : decode cL_law 66 = .ok (.iastore, 1) := by decide +kernel
theorem dL_law_67 : decode cL_law 67 = .ok (.iconst 0, 1) := by decide +kernel
theorem dL_law_68 : decode cL_law 68 = .ok (.istore 9, 2) := by decide +kernel
theorem dL_law_70 : decode cL_law 70 = .ok (.iload 9, 2) := by decide +kernel
theorem dL_law_72 : decode cL_law 72 = .ok (.bipush 50, 2) := by decide +kernel
theorem dL_law_74 : decode cL_law 74 = .ok (.if_icmp .ge 65, 3) := by decide +kernel
theorem dL_law_77 : decode cL_law 77 = .ok (.aload_n 1, 1) := by decide +kernel
theorem dL_law_78 : decode cL_law 78 = .ok (.aload_n 0, 1) := by decide +kernel
theorem dL_law_79 : decode cL_law 79 = .ok (.iconst 2, 1) := by decide +kernel
theorem dL_law_80 : decode cL_law 80 = .ok (.iload 9, 2) := by decide +kernel
theorem dL_law_82 : decode cL_law 82 = .ok (.imul, 1) := by decide +kernel
theorem dL_law_83 : decode cL_law 83 = .ok (.invokestatic 78, 3) := by decide +kernel
theorem dL_law_86 : decode cL_law 86 = .ok (.aload_n 0, 1) := by decide +kernel
theorem dL_law_87 : decode cL_law 87 = .ok (.iconst 2, 1) := by decide +kernel
theorem dL_law_88 : decode cL_law 88 = .ok (.iload 9, 2) := by decide +kernel
theorem dL_law_90 : decode cL_law 90 = .ok (.imul, 1) := by decide +kernel
theorem dL_law_91 : decode cL_law 91 = .ok (.iconst 1, 1) := by decide +kernel
theorem dL_law_92 : decode cL_law 92 = .ok (.iadd, 1) := by decide +kernel
theorem dL_law_93 : decode cL_law 93 = .ok (.invokestatic 78, 3) := by decide +kernel
theorem dL_law_96 : decode cL_law 96 = .ok (.aload_n 2, 1) := by decide +kernel
theorem dL_law_97 : decode cL_law 97 = .ok (.aload_n 3, 1) := by decide +kernel
theorem dL_law_98 : decode cL_law 98 = .ok (.aload 4, 2) := by decide +kernel
theorem dL_law_100 : decode cL_law 100 = .ok (.aload 5, 2) := by decide +kernel
theorem dL_law_102 : decode cL_law 102 = .ok (.aload 6, 2) := by decide +kernel
theorem dL_law_104 : decode cL_law 104 = .ok (.aload 7, 2) := by decide +kernel
theorem dL_law_106 : decode cL_law 106 = .ok (.aload 8, 2) := by decide +kernel
theorem dL_law_108 : decode cL_law 108 = .ok (.invokestatic 82, 3) := by decide +kernel
theorem dL_law_111 : decode cL_law 111 = .ok (.ifCond .eq 20, 3) := by decide +kernel
theorem dL_law_114 : decode cL_law 114 = .ok (.aload_n 1, 1) := by decide +kernel
theorem dL_law_115 : decode cL_law 115 = .ok (.aload_n 2, 1) := by decide +kernel
theorem dL_law_116 : decode cL_law 116 = .ok (.aload_n 3, 1) := by decide +kernel
theorem dL_law_117 : decode cL_law 117 = .ok (.aload 4, 2) := by decide +kernel
theorem dL_law_119 : decode cL_law 119 = .ok (.aload 5, 2) := by decide +kernel
theorem dL_law_121 : decode cL_law 121 = .ok (.aload 7, 2) := by decide +kernel
theorem dL_law_123 : decode cL_law 123 = .ok (.aload 8, 2) := by decide +kernel
theorem dL_law_125 : decode cL_law 125 = .ok (.invokestatic 86, 3) := by decide +kernel
theorem dL_law_128 : decode cL_law 128 = .ok (.ifCond .ne 5, 3) := by decide +kernel
theorem dL_law_131 : decode cL_law 131 = .ok (.iconst 0, 1) := by decide +kernel
theorem dL_law_132 : decode cL_law 132 = .ok (.ireturn, 1) := by decide +kernel
theorem dL_law_133 : decode cL_law 133 = .ok (.iinc 9 1, 3) := by decide +kernel
theorem dL_law_136 : decode cL_law 136 = .ok (.goto (-66), 3) := by decide +kernel
theorem dL_law_139 : decode cL_law 139 = .ok (.iconst 1, 1) := by decide +kernel
theorem dL_law_140 : decode cL_law 140 = .ok (.ireturn, 1) := by decide +kernel
end
section
/-! A SMALL MACHINE OVER THE KIT: cells by number (number i lies at lo + i), values and locals as lists, a triple Ev for a place in a method's body, a contract Cn for a whole method. -/
abbrev mAc : Type := (Nat × (Nat → Int32)) ⊕ (Nat × (Nat → Int64)) ⊕ (Nat × Nat × (Nat → Option Nat)) ⊕ (Nat × List Value)
abbrev aI (n : Nat) (f : Nat → Int32) : mAc := .inl (n, f)
abbrev aL (n : Nat) (f : Nat → Int64) : mAc := .inr (.inl (n, f))
abbrev aR (t n : Nat) (f : Nat → Option Nat) : mAc := .inr (.inr (.inl (t, n, f)))
abbrev aO (c : Nat) (fs : List Value) : mAc := .inr (.inr (.inr (c, fs)))
abbrev mH : Type := Nat → Option mAc
def mset (h : mH) (a : Nat) (e : mAc) : mH := fun q => if q = a then some e else h q
theorem mset_s (h : mH) (a : Nat) (e : mAc) : mset h a e a = some e := by simp [mset]
theorem mset_n {h : mH} {a : Nat} {e : mAc} {q : Nat} (hq : q ≠ a) : mset h a e q = h q := by simp [mset, hq]
/-- what stays the same over a run: the launch, the kit's tables, classes of arrays, the first address, addresses of what is read alone, what is read alone -/
abbrev mX : Type := Launch × va_G × (Nat → ClassId) × Nat × (Nat → Nat) × (Nat → Option (Nat × (Nat → Int32)))
def xl (X : mX) : Launch := X.1
def xD (X : mX) : va_G := X.2.1
def xK (X : mX) : Nat → ClassId := X.2.2.1
def xlo (X : mX) : Nat := X.2.2.2.1
def xta (X : mX) : Nat → Nat := X.2.2.2.2.1
def xro (X : mX) : Nat → Option (Nat × (Nat → Int32)) := X.2.2.2.2.2
def xA (X : mX) : Nat → Prop := fun q => xlo X ≤ q
def xad (X : mX) (i : Nat) : Nat := if i < 1000000 then xlo X + i else xta X (i - 1000000)
def cv (X : mX) : Value → Value
  | .ref i => .ref (xad X i)
  | .int x => .int x
  | .long x => .long x
  | .double x => .double x
  | .float x => .float x
  | .null => .null
  | .retAddr x => .retAddr x
def cvE (X : mX) : mAc → va_E
  | .inl (n, f) => .inl (xK X 0, n, .inl f)
  | .inr (.inl (n, f)) => .inl (xK X 1, n, .inr (.inl f))
  | .inr (.inr (.inl (t, n, f))) => .inl (xK X t, n, .inr (.inr (.inr (.inr (fun j => (f j).map (xad X))))))
  | .inr (.inr (.inr (c, fs))) => .inr (c, fs.map (cv X))
theorem cv_cat (X : mX) (v : Value) : (cv X v).category = v.category := by cases v <;> rfl
theorem cv_cats (X : mX) (l : List Value) : ((l.map (cv X)).map fun v => v.category).sum = (l.map fun v => v.category).sum := by
  rw [List.map_map]
  congr 1
  exact List.map_congr_left fun v _ => cv_cat X v
/-- a method: the number of its class, its name, bytes, locals, answer, handlers, the frames and words that it nests -/
abbrev mMD : Type := Nat × MethodName × ByteArray × Nat × Option FieldType × List (Nat × Nat × Nat × Nat) × Nat × Nat
abbrev mOwn (M : mMD) : Nat := M.1
abbrev mNm (M : mMD) : MethodName := M.2.1
abbrev mBy (M : mMD) : ByteArray := M.2.2.1
abbrev mML (M : mMD) : Nat := M.2.2.2.1
abbrev mRt (M : mMD) : Option FieldType := M.2.2.2.2.1
abbrev mHH (M : mMD) : List (Nat × Nat × Nat × Nat) := M.2.2.2.2.2.1
abbrev mFr (M : mMD) : Nat := M.2.2.2.2.2.2.1
abbrev mLo (M : mMD) : Nat := M.2.2.2.2.2.2.2
def RN : Nat → String := fun k => match k with
  | 0 => RX0
  | 1 => RX1
  | 2 => RX2
  | 3 => RX3
  | 4 => RX4
  | 5 => RX5
  | 6 => RX6
  | 7 => RX6
  | 8 => RL
  | 9 => RJ6
  | 10 => RJ6
  | _ => RJ9
def WL : List Cond := lw_tbl.filter goodWord
theorem WL_mem {w : Cond} (i : Nat) (h : lw_tbl[i]? = some w) (g : goodWord w = true) : w ∈ WL := List.mem_filter.mpr ⟨List.mem_of_getElem? h, g⟩
theorem WL_good : GoodIn WL WL := fun _ h => ⟨h, good_of_word (List.mem_filter.mp h).2⟩
theorem WL_tbl {w : Cond} (h : w ∈ WL) : w ∈ lw_tbl := (List.mem_filter.mp h).1
def wsM (M : mMD) : List Cond := .code (mNm M) (mBy M) (mML M) (mRt M) :: WL
def wsH (M : mMD) : List Cond := .codeWith (mNm M) (mBy M) (mML M) (mRt M) (mHH M) :: WL
def xtys (X : mX) : List (ClassId × FieldType) := [(xK X 0, .int), (xK X 1, .long), (xK X 2, .object RX1), (xK X 3, .object RX4)]
def exn : Nat → String := fun k => match k with
  | 0 => "java/lang/IndexOutOfBoundsException"
  | 1 => "java/lang/IllegalArgumentException"
  | _ => "java/lang/IllegalStateException"
def xstrs : List (Nat × String) := [(141, "code is not 33 to 126"), (144, "the buffer is full"), (321, "no such text"), (333, "what is out of range"), (335, "the buffer is not a complete text"), (337, "the store has not enough slots or room"), (80, "no such place"), (104, "many is out of range"), (323, "no such setting"), (331, "value is out of range"), (176, "piece is below 0"), (205, "no such slot")]
def xstat : Nat → String := fun k => match k with
  | 0 => "FIRST_VALUES"
  | 1 => "LOWEST_VALUES"
  | _ => "HIGHEST_VALUES"
def exDc : List String := ["java/lang/RuntimeException", "java/lang/Exception", "java/lang/Throwable"]
/-- an array of ints that is read alone: its cell whole, its class that of int arrays -/
def va_R (X : mX) (t n : Nat) (f : Nat → Int32) (U : State) (H : Heap) : Prop := ∃ cell : Cell, H[t]? = some cell ∧ U.isArrayOf cell .int ∧ cell.vm ≠ .unknown ∧ cell.slots.size = n ∧ (∀ j : Nat, j < n → cell.slots[j]? = some (.int (f j))) ∧ ¬ xA X t
/-- what stays the same, of a state's tables and of the heap below lo -/
def Fx (X : mX) (U : State) (H : Heap) : Prop :=
  (xl X).stackTraces = false ∧ va_K (xD X) vwCl (xtys X) U ∧ (∀ k, k < 3 → va_Nw (.castable (exn k) (exn k)) U) ∧ (∀ j k, j < 3 → k < 3 → j ≠ k → va_Nc (exn j) (exn k) U) ∧ va_Nw (.castable "[I" "java/lang/Cloneable") U ∧
  (∀ q ∈ xstrs, ∃ a, vk_R RX6 q.1 q.2 a U) ∧ vx_Zq Bundle.tN "UNASSIGNED_STACK" Bundle.steD (xA X) U H ∧ vx_Zq Bundle.tN "SUPPRESSED_SENTINEL" Bundle.listD (xA X) U H ∧
  (∀ k, k < 3 → va_Z RX6 (xstat k) "[I" (.ref (xta X k)) (xA X) U H) ∧ (∀ k n f, xro X (1000000 + k) = some (n, f) → va_R X (xta X k) n f U H) ∧ va_AO RX1 U ∧ va_AO RX4 U ∧ ((∃ cell : Cell, H[xta X 0]? = some cell ∧ U.vm.findClass "[I" = some cell.cls) ∧ ¬ xA X (xta X 0)) ∧ (∀ n ∈ exDc, va_Nw (.declares (Bundle.initS n)) U) ∧ va_Nw (.fieldLinkNest RX3 9 RX6 "FIRST_VALUES" "[I" RX6) U
theorem va_R.go {X : mX} {t n : Nat} {f : Nat → Int32} {u U : State} {H H1 : Heap} (hvm : u.vm.Alike U.vm) (hq : ∀ a : Nat, a < H.size → ¬ xA X a → H1[a]? = H[a]?) (h : va_R X t n f u H) : va_R X t n f U H1 := by
  obtain ⟨cell, h1, h2, h3, h4, h5, h6⟩ := h
  exact ⟨cell, by rw [hq t (Array.getElem?_eq_some_iff.mp h1).1 h6]; exact h1, State.isArrayOf_alike hvm h2, h3, h4, h5, h6⟩
theorem Fx.go {X : mX} {s U : State} {H H1 : Heap} (h : Fx X s H) (hW : s.WarmedH U.vm) (hq : ∀ a : Nat, a < H.size → ¬ xA X a → H1[a]? = H[a]?) : Fx X U H1 := by
  obtain ⟨h1, h2, h3, h3b, h4, h5, h6, h7, h8, h9, h10, h11, ⟨⟨cell, e1, e2⟩, h12⟩, h13, h14⟩ := h
  have hvm := hW.alike
  refine ⟨h1, h2.moved hvm, fun k hk => (h3 k hk).warmC hW, fun j k hj hk hn => va_Nc.moved hvm (h3b j k hj hk hn), h4.warmC hW, fun q hq' => ?_, (h6.moved hvm).kept hq, (h7.moved hvm).kept hq, fun k hk => ((h8 k hk).moved hvm).kept hq, fun k n f e => (h9 k n f e).go hvm hq, h10.moved hvm, h11.moved hvm, ⟨⟨cell, ?_, ?_⟩, h12⟩, fun n hn => (h13 n hn).warmD hW, h14.warmF hW⟩
  · obtain ⟨a, ha⟩ := h5 q hq'
    exact ⟨a, ha.warm hW⟩
  · rw [hq _ (Array.getElem?_eq_some_iff.mp e1).1 h12]; exact e1
  · rw [hvm.findClass]; exact e2
/-- the numbered cells lie in the heap; f: the heap's size, where it is known -/
def Wd (X : mX) (h : mH) (f : Option Nat) (H : Heap) : Prop :=
  (∀ a e, h a = some e → a < 1000000 ∧ va_at (xD X) vwCl (xlo X + a, cvE X e) H) ∧ xlo X ≤ H.size ∧ ∀ n, f = some n → H.size = xlo X + n ∧ n < 1000000 ∧ ∀ a, n ≤ a → h a = none
theorem Wd.no {X : mX} {h : mH} {f : Option Nat} {H : Heap} (w : Wd X h f H) : Wd X h none H := ⟨w.1, w.2.1, fun n hn => by cases hn⟩
theorem Wd.to {X : mX} {h : mH} {f f' : Option Nat} {H : Heap} (w : Wd X h f H) (hf : f = f' ∨ f' = none) : Wd X h f' H := by
  rcases hf with rfl | rfl
  · exact w
  · exact w.no
/-- one cell is written -/
theorem Wd.put {X : mX} {h : mH} {f : Option Nat} {H H1 : Heap} {a : Nat} {e0 e : mAc} (w : Wd X h f H) (ha : h a = some e0) (z : H1.size = H.size) (hq : ∀ q, q ≠ xlo X + a → H1[q]? = H[q]?) (he : va_at (xD X) vwCl (xlo X + a, cvE X e) H1) : Wd X (mset h a e) f H1 := by
  refine ⟨fun b e1 hb => ?_, by rw [z]; exact w.2.1, fun n hn => ?_⟩
  · by_cases hba : b = a
    · subst hba
      rw [mset_s] at hb
      cases hb
      exact ⟨(w.1 b e0 ha).1, he⟩
    · rw [mset_n hba] at hb
      obtain ⟨k1, k2⟩ := w.1 b e1 hb
      exact ⟨k1, va_at.kept k2 (hq _ (by show xlo X + b ≠ xlo X + a; omega))⟩
  · obtain ⟨k1, k2, k3⟩ := w.2.2 n hn
    refine ⟨by rw [z]; exact k1, k2, fun b hb => ?_⟩
    have hba : b ≠ a := fun q => by
      subst q
      rw [k3 b hb] at ha
      cases ha
    rw [mset_n hba]
    exact k3 b hb
/-- one cell is new -/
theorem Wd.push {X : mX} {h : mH} {n : Nat} {H H1 : Heap} {e : mAc} (w : Wd X h (some n) H) (hn1 : n + 1 < 1000000) (z : H1.size = H.size + 1) (hq : ∀ q, q < H.size → H1[q]? = H[q]?) (he : va_at (xD X) vwCl (H.size, cvE X e) H1) : Wd X (mset h n e) (some (n + 1)) H1 := by
  obtain ⟨k1, k2, k3⟩ := w.2.2 n rfl
  refine ⟨fun b e1 hb => ?_, by rw [z]; have := w.2.1; omega, fun n' hn => ?_⟩
  · by_cases hba : b = n
    · subst hba
      rw [mset_s] at hb
      cases hb
      rw [k1] at he
      exact ⟨k2, he⟩
    · rw [mset_n hba] at hb
      obtain ⟨j1, j2⟩ := w.1 b e1 hb
      exact ⟨j1, va_at.kept j2 (hq _ j2.lt)⟩
  · cases hn
    refine ⟨by rw [z, k1]; omega, hn1, fun b hb => ?_⟩
    rw [mset_n (by omega)]
    exact k3 b (by omega)
abbrev jk : Value := .retAddr 0
/-- the machine's locals hold the listed ones, but for those that are unset -/
def LR (X : mX) (L : List Value) (ls : Array Slot) (n : Nat) : Prop := ls.size = n ∧ L.length = n ∧ lv_wf ls ∧ ∀ (i : Nat) (v : Value), L[i]? = some v → v ≠ jk → ls[i]? = some (.val (cv X v))
/-- the first half of a long or double goes when its second is written over -/
def stk (L : List Value) (j : Nat) : List Value := match L[j]? with
  | some (.long _) => L.set j jk
  | some (.double _) => L.set j jk
  | _ => L
def stl (L : List Value) (i : Nat) (v : Value) : List Value := (if i = 0 then L else stk L (i - 1)).set i v
def stl2 (L : List Value) (i : Nat) (v : Value) : List Value := (stl L i v).set (i + 1) jk
/-- the listed locals as the kit wants them -/
def lvl (X : mX) (L : List Value) : List (Nat × Value) := (List.range L.length).filterMap (fun i => match L[i]? with
  | some v => if v = jk then none else some (i, cv X v)
  | none => none)
theorem lvl_mem {X : mX} {L : List Value} {i : Nat} {w : Value} : (i, w) ∈ lvl X L ↔ ∃ v, L[i]? = some v ∧ v ≠ jk ∧ w = cv X v := by
  unfold lvl
  rw [List.mem_filterMap]
  constructor
  · rintro ⟨j, hj, h⟩
    cases hv : L[j]? with
    | none => rw [hv] at h; cases h
    | some v =>
      rw [hv] at h
      by_cases hjk : v = jk
      · simp [hjk] at h
      · simp only [hjk, if_false, Option.some.injEq, Prod.mk.injEq] at h
        obtain ⟨rfl, rfl⟩ := h
        exact ⟨v, hv, hjk, rfl⟩
  · rintro ⟨v, hv, hjk, rfl⟩
    refine ⟨i, List.mem_range.mpr (List.getElem?_eq_some_iff.mp hv).1, ?_⟩
    rw [hv]
    simp [hjk]
theorem LR.has {X : mX} {L : List Value} {ls : Array Slot} {n : Nat} (h : LR X L ls n) : lv_has ls n (lvl X L) := by
  refine ⟨h.1, h.2.2.1, fun q hq => ?_⟩
  obtain ⟨i, w⟩ := q
  obtain ⟨v, hv, hjk, rfl⟩ := lvl_mem.mp hq
  exact h.2.2.2 i v hv hjk
theorem stk_len (L : List Value) (j : Nat) : (stk L j).length = L.length := by
  unfold stk
  split <;> simp
theorem stk_get {L : List Value} {j k : Nat} {w : Value} (h : (stk L j)[k]? = some w) (hw : w ≠ jk) : L[k]? = some w ∧ ¬ (k = j ∧ w.category = 2) := by
  have set : ∀ u : Value, L[j]? = some u → (L.set j jk)[k]? = some w → L[k]? = some w ∧ ¬ (k = j ∧ w.category = 2) := by
    intro u hu h
    by_cases hk : k = j
    · subst hk
      rw [List.getElem?_set_self (List.getElem?_eq_some_iff.mp hu).1] at h
      exact absurd (Option.some.inj h).symm hw
    · rw [List.getElem?_set_ne (by omega)] at h
      exact ⟨h, fun q => hk q.1⟩
  unfold stk at h
  cases e : L[j]? with
  | none =>
    rw [e] at h
    exact ⟨h, fun q => by rw [q.1, e] at h; cases h⟩
  | some u =>
    rw [e] at h
    cases u with
    | long x => exact set _ e h
    | double x => exact set _ e h
    | _ => exact ⟨h, fun q => by rw [q.1, e] at h; rw [← Option.some.inj h] at q; exact absurd q.2 (Nat.ne_of_lt (Nat.lt_succ_self 1))⟩
theorem stl_len (L : List Value) (i : Nat) (v : Value) : (stl L i v).length = L.length := by
  unfold stl
  rw [List.length_set]
  split
  · rfl
  · exact stk_len _ _
theorem stl_get {L : List Value} {i j : Nat} {v w : Value} (hi : i < L.length) (h : (stl L i v)[j]? = some w) (hw : w ≠ jk) : (j = i ∧ w = v) ∨ (j ≠ i ∧ L[j]? = some w ∧ ¬ (j + 1 = i ∧ w.category = 2)) := by
  unfold stl at h
  by_cases hj : j = i
  · subst hj
    rw [List.getElem?_set_self (by split; exact hi; rw [stk_len]; exact hi)] at h
    exact Or.inl ⟨rfl, (Option.some.inj h).symm⟩
  · rw [List.getElem?_set_ne (by omega)] at h
    by_cases h0 : i = 0
    · rw [if_pos h0] at h
      exact Or.inr ⟨hj, h, by omega⟩
    · rw [if_neg h0] at h
      obtain ⟨h1, h2⟩ := stk_get h hw
      exact Or.inr ⟨hj, h1, fun q => h2 ⟨by omega, q.2⟩⟩
theorem LR.st1 {X : mX} {L : List Value} {ls ls' : Array Slot} {n i : Nat} {v : Value} (h : LR X L ls n) (hi : i < n) (h' : lv_has ls' n ((i, cv X v) :: (lvl X L).filter (fun q => !(q.1 == i) && !(q.1 + 1 == i && q.2.category == 2)))) : LR X (stl L i v) ls' n := by
  refine ⟨h'.1, by rw [stl_len]; exact h.2.1, h'.2.1, fun j w hj hw => ?_⟩
  refine h'.2.2 (j, cv X w) ?_
  rcases stl_get (by rw [h.2.1]; exact hi) hj hw with ⟨rfl, rfl⟩ | ⟨h1, h2, h3⟩
  · exact List.mem_cons_self
  · refine List.mem_cons_of_mem _ (List.mem_filter.mpr ⟨lvl_mem.mpr ⟨w, h2, hw, rfl⟩, ?_⟩)
    simp only [cv_cat]
    by_cases h4 : j + 1 = i
    · have h5 : ¬ w.category = 2 := fun q => h3 ⟨h4, q⟩
      simp [h1, h5]
    · simp [h1, h4]
theorem LR.st2 {X : mX} {L : List Value} {ls ls' : Array Slot} {n i : Nat} {v : Value} (h : LR X L ls n) (hi : i + 1 < n) (h' : lv_has ls' n ((i, cv X v) :: (lvl X L).filter (fun q => !(q.1 == i) && (!(q.1 == i + 1) && !(q.1 + 1 == i && q.2.category == 2))))) : LR X (stl2 L i v) ls' n := by
  refine ⟨h'.1, by unfold stl2; rw [List.length_set, stl_len]; exact h.2.1, h'.2.1, fun j w hj hw => ?_⟩
  refine h'.2.2 (j, cv X w) ?_
  unfold stl2 at hj
  by_cases h6 : j = i + 1
  · subst h6
    rw [List.getElem?_set_self (by rw [stl_len, h.2.1]; exact hi)] at hj
    exact absurd (Option.some.inj hj).symm hw
  · rw [List.getElem?_set_ne (by omega)] at hj
    rcases stl_get (by rw [h.2.1]; omega) hj hw with ⟨rfl, rfl⟩ | ⟨h1, h2, h3⟩
    · exact List.mem_cons_self
    · refine List.mem_cons_of_mem _ (List.mem_filter.mpr ⟨lvl_mem.mpr ⟨w, h2, hw, rfl⟩, ?_⟩)
      simp only [cv_cat]
      by_cases h4 : j + 1 = i
      · have h5 : ¬ w.category = 2 := fun q => h3 ⟨h4, q⟩
        simp [h1, h5, h6]
      · simp [h1, h4, h6]
/-- how a method ends: an answer, or an exception by its number -/
abbrev mO : Type := Option Value ⊕ Nat
def Qcv (X : mX) (Q : mO → mH → Prop) (f : Option Nat) : Array Value → State → Outcome → State → Prop := fun _ st oc t => ∃ (v : Option Value) (h : mH), oc = .returned (v.map (cv X)) ∧ Q (.inl v) h ∧ Wd X h f t.heap ∧ va_F (xA X) st t
def Qxv (X : mX) (Q : mO → mH → Prop) : String → State → State → Prop := fun E st t => ∃ (k : Nat) (h : mH), k < 3 ∧ E = exn k ∧ Q (.inr k) h ∧ Wd X h none t.heap ∧ va_F (xA X) st t
/-- the machine at a place of a method's body -/
def Cx (X : mX) (M : mMD) (R : Room) (p : Program) (s : State) (m : MethodId) (args : Array Value) (meth : Method) (c : Code) : Prop :=
  p.tables.exec = Jvm.exec ∧ c.code = mBy M ∧ meth.sig.returnType = mRt M ∧ c.maxLocals = mML M ∧ s.vm.findClass (RN (mOwn M)) = some m.cls ∧ (∀ w ∈ WL, w.before args s = true) ∧ meth.locks = false ∧ meth.name = (mNm M).name ∧ c.exceptionTable.toList.map (fun h => (h.startPc, h.endPc, h.handlerPc, h.catchType)) = mHH M ∧ R.frames = mFr M ∧ R.locals = mLo M ∧ Fx X s s.heap ∧ xlo X ≤ s.heap.size
/-- the heap's size if known, at the end too; cells and slots made so far, and those that the whole may make -/
abbrev mB : Type := Option Nat × Option Nat × Nat × Nat × Nat × Nat
def Ev (X : mX) (M : mMD) (B : mB) (pc : Nat) (L st : List Value) (h : mH) (Q : mO → mH → Prop) : Prop :=
  ∀ (p : Program) (e : Env) (s : State) (m : MethodId) (args : Array Value) (below : List Frame) (meth : Method) (c : Code) (H : Heap) (locs : List Loc) (ls : Array Slot) (R : Room),
    Cx X M R p s m args meth c → R.cells = B.2.2.2.2.1 → R.slots = B.2.2.2.2.2 → Wd X h B.1 H → va_S (xA X) s.heap H locs → LR X L ls (mML M) →
    W p (xl X) e R s m args below meth c H locs B.2.2.1 B.2.2.2.1 (vx_MQ below (Qcv X Q B.2.1) (Qxv X Q) args s B.2.2.2.2.1 B.2.2.2.2.2 (xA X)) (F0 m pc ls (st.map (cv X)))
def mRm (M : mMD) (mc ms : Nat) : Room := { frames := mFr M, cells := mc, slots := ms, locals := mLo M }
def mPc (X : mX) (f : Option Nat) (as : List Value) (h : mH) : Array Value → State → Prop := va_Pc (as.map (cv X)) (fun U => Wd X h f U.heap ∧ Fx X U U.heap)
/-- a whole method, from these arguments and cells; ws: its words -/
def CnW (X : mX) (M : mMD) (ws : List Cond) (f f' : Option Nat) (mc ms : Nat) (as : List Value) (h : mH) (Q : mO → mH → Prop) : Prop :=
  vx_Met (xl X) (mNm M) ws (mRm M mc ms) (mPc X f as h) (Qcv X Q f') (Qxv X Q) mc ms (xA X)
abbrev Cn (X : mX) (M : mMD) (f f' : Option Nat) (mc ms : Nat) (as : List Value) (h : mH) (Q : mO → mH → Prop) : Prop := CnW X M (wsM M) f f' mc ms as h Q
abbrev CnH (X : mX) (M : mMD) (f f' : Option Nat) (mc ms : Nat) (as : List Value) (h : mH) (Q : mO → mH → Prop) : Prop := CnW X M (wsH M) f f' mc ms as h Q
/-- the locals with which a method begins -/
def entA : List Value → List Value
  | [] => []
  | .long x :: vs => .long x :: jk :: entA vs
  | .double x :: vs => .double x :: jk :: entA vs
  | v :: vs => v :: entA vs
def ent (as : List Value) (n : Nat) : List Value := entA as ++ List.replicate (n - (entA as).length) jk
end
section
theorem ev_iconst {X : mX} {M : mMD} {B : mB} {pc : Nat} {L st : List Value} {h : mH} {Q : mO → mH → Prop} {n : Int} (v : Int32) (hd : decode (mBy M) pc = .ok (.iconst n, 1)) (hv : Int32.ofInt n = v) (k : Ev X M B (pc + 1) L (.int v :: st) h Q) : Ev X M B pc L (st) h Q :=
  fun p e s m args below meth c H locs ls R C hc hs hW hS hL => lv_iconst C.1 C.2.1 hd hv (k p e s m args below meth c H locs ls R C hc hs hW hS hL)
theorem ev_bipush {X : mX} {M : mMD} {B : mB} {pc : Nat} {L st : List Value} {h : mH} {Q : mO → mH → Prop} {n : Int} (v : Int32) (hd : decode (mBy M) pc = .ok (.bipush n, 2)) (hv : (Int8.ofInt n).toInt32 = v) (k : Ev X M B (pc + 2) L (.int v :: st) h Q) : Ev X M B pc L (st) h Q :=
  fun p e s m args below meth c H locs ls R C hc hs hW hS hL => lv_bipush C.1 C.2.1 hd hv (k p e s m args below meth c H locs ls R C hc hs hW hS hL)
theorem ev_sipush {X : mX} {M : mMD} {B : mB} {pc : Nat} {L st : List Value} {h : mH} {Q : mO → mH → Prop} {n : Int} (v : Int32) (hd : decode (mBy M) pc = .ok (.sipush n, 3)) (hv : (Int16.ofInt n).toInt32 = v) (k : Ev X M B (pc + 3) L (.int v :: st) h Q) : Ev X M B pc L (st) h Q :=
  fun p e s m args below meth c H locs ls R C hc hs hW hS hL => lv_sipush C.1 C.2.1 hd hv (k p e s m args below meth c H locs ls R C hc hs hW hS hL)
theorem ev_lconst {X : mX} {M : mMD} {B : mB} {pc : Nat} {L st : List Value} {h : mH} {Q : mO → mH → Prop} {n : Fin 2} (v : Int64) (hd : decode (mBy M) pc = .ok (.lconst n, 1)) (hv : Int64.ofNat (n : Nat) = v) (k : Ev X M B (pc + 1) L (.long v :: st) h Q) : Ev X M B pc L (st) h Q :=
  fun p e s m args below meth c H locs ls R C hc hs hW hS hL => lv_lconst C.1 C.2.1 hd hv (k p e s m args below meth c H locs ls R C hc hs hW hS hL)
theorem ev_dconst0 {X : mX} {M : mMD} {B : mB} {pc : Nat} {L st : List Value} {h : mH} {Q : mO → mH → Prop}  (hd : decode (mBy M) pc = .ok (.dconst 0, 1))  (k : Ev X M B (pc + 1) L (.double FP.dconst0 :: st) h Q) : Ev X M B pc L (st) h Q :=
  fun p e s m args below meth c H locs ls R C hc hs hW hS hL => lv_dconst0 C.1 C.2.1 hd  (k p e s m args below meth c H locs ls R C hc hs hW hS hL)
theorem ev_dconst1 {X : mX} {M : mMD} {B : mB} {pc : Nat} {L st : List Value} {h : mH} {Q : mO → mH → Prop}  (hd : decode (mBy M) pc = .ok (.dconst 1, 1))  (k : Ev X M B (pc + 1) L (.double FP.dconst1 :: st) h Q) : Ev X M B pc L (st) h Q :=
  fun p e s m args below meth c H locs ls R C hc hs hW hS hL => lv_dconst1 C.1 C.2.1 hd  (k p e s m args below meth c H locs ls R C hc hs hW hS hL)
theorem ev_iload_n {X : mX} {M : mMD} {B : mB} {pc : Nat} {L st : List Value} {h : mH} {Q : mO → mH → Prop} {k : Fin 4} {i : Nat} {x : Int32} (hd : decode (mBy M) pc = .ok (.iload_n k, 1)) (hi : (k : Nat) = i) (hl : L[i]? = some (.int x)) (k : Ev X M B (pc + 1) L (.int x :: st) h Q) : Ev X M B pc L (st) h Q :=
  fun p e s m args below meth c H locs ls R C hc hs hW hS hL => lv_iload_n C.1 C.2.1 hd hi (hL.2.2.2 _ _ hl (fun q => by cases q)) (k p e s m args below meth c H locs ls R C hc hs hW hS hL)
theorem ev_iload {X : mX} {M : mMD} {B : mB} {pc : Nat} {L st : List Value} {h : mH} {Q : mO → mH → Prop} {i : Nat} {x : Int32} (hd : decode (mBy M) pc = .ok (.iload i, 2)) (hl : L[i]? = some (.int x)) (k : Ev X M B (pc + 2) L (.int x :: st) h Q) : Ev X M B pc L (st) h Q :=
  fun p e s m args below meth c H locs ls R C hc hs hW hS hL => lv_iload C.1 C.2.1 hd (hL.2.2.2 _ _ hl (fun q => by cases q)) (k p e s m args below meth c H locs ls R C hc hs hW hS hL)
theorem ev_lload_n {X : mX} {M : mMD} {B : mB} {pc : Nat} {L st : List Value} {h : mH} {Q : mO → mH → Prop} {k : Fin 4} {i : Nat} {x : Int64} (hd : decode (mBy M) pc = .ok (.lload_n k, 1)) (hi : (k : Nat) = i) (hl : L[i]? = some (.long x)) (k : Ev X M B (pc + 1) L (.long x :: st) h Q) : Ev X M B pc L (st) h Q :=
  fun p e s m args below meth c H locs ls R C hc hs hW hS hL => lv_lload_n C.1 C.2.1 hd hi (hL.2.2.2 _ _ hl (fun q => by cases q)) (k p e s m args below meth c H locs ls R C hc hs hW hS hL)
theorem ev_lload {X : mX} {M : mMD} {B : mB} {pc : Nat} {L st : List Value} {h : mH} {Q : mO → mH → Prop} {i : Nat} {x : Int64} (hd : decode (mBy M) pc = .ok (.lload i, 2)) (hl : L[i]? = some (.long x)) (k : Ev X M B (pc + 2) L (.long x :: st) h Q) : Ev X M B pc L (st) h Q :=
  fun p e s m args below meth c H locs ls R C hc hs hW hS hL => lv_lload C.1 C.2.1 hd (hL.2.2.2 _ _ hl (fun q => by cases q)) (k p e s m args below meth c H locs ls R C hc hs hW hS hL)
theorem ev_dload_n {X : mX} {M : mMD} {B : mB} {pc : Nat} {L st : List Value} {h : mH} {Q : mO → mH → Prop} {k : Fin 4} {i : Nat} {x : UInt64} (hd : decode (mBy M) pc = .ok (.dload_n k, 1)) (hi : (k : Nat) = i) (hl : L[i]? = some (.double x)) (k : Ev X M B (pc + 1) L (.double x :: st) h Q) : Ev X M B pc L (st) h Q :=
  fun p e s m args below meth c H locs ls R C hc hs hW hS hL => lv_dload_n C.1 C.2.1 hd hi (hL.2.2.2 _ _ hl (fun q => by cases q)) (k p e s m args below meth c H locs ls R C hc hs hW hS hL)
theorem ev_dload {X : mX} {M : mMD} {B : mB} {pc : Nat} {L st : List Value} {h : mH} {Q : mO → mH → Prop} {i : Nat} {x : UInt64} (hd : decode (mBy M) pc = .ok (.dload i, 2)) (hl : L[i]? = some (.double x)) (k : Ev X M B (pc + 2) L (.double x :: st) h Q) : Ev X M B pc L (st) h Q :=
  fun p e s m args below meth c H locs ls R C hc hs hW hS hL => lv_dload C.1 C.2.1 hd (hL.2.2.2 _ _ hl (fun q => by cases q)) (k p e s m args below meth c H locs ls R C hc hs hW hS hL)
theorem ev_aload_n {X : mX} {M : mMD} {B : mB} {pc : Nat} {L st : List Value} {h : mH} {Q : mO → mH → Prop} {k : Fin 4} {i : Nat} {x : Nat} (hd : decode (mBy M) pc = .ok (.aload_n k, 1)) (hi : (k : Nat) = i) (hl : L[i]? = some (.ref x)) (k : Ev X M B (pc + 1) L (.ref x :: st) h Q) : Ev X M B pc L (st) h Q :=
  fun p e s m args below meth c H locs ls R C hc hs hW hS hL => lv_aload_n C.1 C.2.1 hd hi (hL.2.2.2 _ _ hl (fun q => by cases q)) (k p e s m args below meth c H locs ls R C hc hs hW hS hL)
theorem ev_aload {X : mX} {M : mMD} {B : mB} {pc : Nat} {L st : List Value} {h : mH} {Q : mO → mH → Prop} {i : Nat} {x : Nat} (hd : decode (mBy M) pc = .ok (.aload i, 2)) (hl : L[i]? = some (.ref x)) (k : Ev X M B (pc + 2) L (.ref x :: st) h Q) : Ev X M B pc L (st) h Q :=
  fun p e s m args below meth c H locs ls R C hc hs hW hS hL => lv_aload C.1 C.2.1 hd (hL.2.2.2 _ _ hl (fun q => by cases q)) (k p e s m args below meth c H locs ls R C hc hs hW hS hL)
theorem ev_iadd {X : mX} {M : mMD} {B : mB} {pc : Nat} {L st : List Value} {h : mH} {Q : mO → mH → Prop} {x y : Int32} (hd : decode (mBy M) pc = .ok (.iadd, 1))  (k : Ev X M B (pc + 1) L (.int (x + y) :: st) h Q) : Ev X M B pc L (.int y :: .int x :: st) h Q :=
  fun p e s m args below meth c H locs ls R C hc hs hW hS hL => lv_iadd C.1 C.2.1 hd  (k p e s m args below meth c H locs ls R C hc hs hW hS hL)
theorem ev_isub {X : mX} {M : mMD} {B : mB} {pc : Nat} {L st : List Value} {h : mH} {Q : mO → mH → Prop} {x y : Int32} (hd : decode (mBy M) pc = .ok (.isub, 1))  (k : Ev X M B (pc + 1) L (.int (x - y) :: st) h Q) : Ev X M B pc L (.int y :: .int x :: st) h Q :=
  fun p e s m args below meth c H locs ls R C hc hs hW hS hL => lv_isub C.1 C.2.1 hd  (k p e s m args below meth c H locs ls R C hc hs hW hS hL)
theorem ev_imul {X : mX} {M : mMD} {B : mB} {pc : Nat} {L st : List Value} {h : mH} {Q : mO → mH → Prop} {x y : Int32} (hd : decode (mBy M) pc = .ok (.imul, 1))  (k : Ev X M B (pc + 1) L (.int (x * y) :: st) h Q) : Ev X M B pc L (.int y :: .int x :: st) h Q :=
  fun p e s m args below meth c H locs ls R C hc hs hW hS hL => lv_imul C.1 C.2.1 hd  (k p e s m args below meth c H locs ls R C hc hs hW hS hL)
theorem ev_iand {X : mX} {M : mMD} {B : mB} {pc : Nat} {L st : List Value} {h : mH} {Q : mO → mH → Prop} {x y : Int32} (hd : decode (mBy M) pc = .ok (.iand, 1))  (k : Ev X M B (pc + 1) L (.int (x &&& y) :: st) h Q) : Ev X M B pc L (.int y :: .int x :: st) h Q :=
  fun p e s m args below meth c H locs ls R C hc hs hW hS hL => lv_iand C.1 C.2.1 hd  (k p e s m args below meth c H locs ls R C hc hs hW hS hL)
theorem ev_ior {X : mX} {M : mMD} {B : mB} {pc : Nat} {L st : List Value} {h : mH} {Q : mO → mH → Prop} {x y : Int32} (hd : decode (mBy M) pc = .ok (.ior, 1))  (k : Ev X M B (pc + 1) L (.int (x ||| y) :: st) h Q) : Ev X M B pc L (.int y :: .int x :: st) h Q :=
  fun p e s m args below meth c H locs ls R C hc hs hW hS hL => lv_ior C.1 C.2.1 hd  (k p e s m args below meth c H locs ls R C hc hs hW hS hL)
theorem ev_ixor {X : mX} {M : mMD} {B : mB} {pc : Nat} {L st : List Value} {h : mH} {Q : mO → mH → Prop} {x y : Int32} (hd : decode (mBy M) pc = .ok (.ixor, 1))  (k : Ev X M B (pc + 1) L (.int (x ^^^ y) :: st) h Q) : Ev X M B pc L (.int y :: .int x :: st) h Q :=
  fun p e s m args below meth c H locs ls R C hc hs hW hS hL => lv_ixor C.1 C.2.1 hd  (k p e s m args below meth c H locs ls R C hc hs hW hS hL)
theorem ev_ishl {X : mX} {M : mMD} {B : mB} {pc : Nat} {L st : List Value} {h : mH} {Q : mO → mH → Prop} {x y : Int32} (hd : decode (mBy M) pc = .ok (.ishl, 1))  (k : Ev X M B (pc + 1) L (.int (x <<< (y &&& 31)) :: st) h Q) : Ev X M B pc L (.int y :: .int x :: st) h Q :=
  fun p e s m args below meth c H locs ls R C hc hs hW hS hL => lv_ishl C.1 C.2.1 hd  (k p e s m args below meth c H locs ls R C hc hs hW hS hL)
theorem ev_ishr {X : mX} {M : mMD} {B : mB} {pc : Nat} {L st : List Value} {h : mH} {Q : mO → mH → Prop} {x y : Int32} (hd : decode (mBy M) pc = .ok (.ishr, 1))  (k : Ev X M B (pc + 1) L (.int (x >>> (y &&& 31)) :: st) h Q) : Ev X M B pc L (.int y :: .int x :: st) h Q :=
  fun p e s m args below meth c H locs ls R C hc hs hW hS hL => lv_ishr C.1 C.2.1 hd  (k p e s m args below meth c H locs ls R C hc hs hW hS hL)
theorem ev_idiv {X : mX} {M : mMD} {B : mB} {pc : Nat} {L st : List Value} {h : mH} {Q : mO → mH → Prop} {x y : Int32} (hd : decode (mBy M) pc = .ok (.idiv, 1)) (hne : ¬ y = 0) (k : Ev X M B (pc + 1) L (.int (x / y) :: st) h Q) : Ev X M B pc L (.int y :: .int x :: st) h Q :=
  fun p e s m args below meth c H locs ls R C hc hs hW hS hL => lv_idiv C.1 C.2.1 hd hne (k p e s m args below meth c H locs ls R C hc hs hW hS hL)
theorem ev_irem {X : mX} {M : mMD} {B : mB} {pc : Nat} {L st : List Value} {h : mH} {Q : mO → mH → Prop} {x y : Int32} (hd : decode (mBy M) pc = .ok (.irem, 1)) (hne : ¬ y = 0) (k : Ev X M B (pc + 1) L (.int (x - x / y * y) :: st) h Q) : Ev X M B pc L (.int y :: .int x :: st) h Q :=
  fun p e s m args below meth c H locs ls R C hc hs hW hS hL => lv_irem C.1 C.2.1 hd hne (k p e s m args below meth c H locs ls R C hc hs hW hS hL)
theorem ev_iushr {X : mX} {M : mMD} {B : mB} {pc : Nat} {L st : List Value} {h : mH} {Q : mO → mH → Prop} {x y : Int32} (hd : decode (mBy M) pc = .ok (.iushr, 1))  (k : Ev X M B (pc + 1) L (.int ((x.toUInt32 >>> (y.toUInt32 &&& Int32.toUInt32 31)).toInt32) :: st) h Q) : Ev X M B pc L (.int y :: .int x :: st) h Q :=
  fun p e s m args below meth c H locs ls R C hc hs hW hS hL => lv_iushr C.1 C.2.1 hd rfl (k p e s m args below meth c H locs ls R C hc hs hW hS hL)
theorem ev_ladd {X : mX} {M : mMD} {B : mB} {pc : Nat} {L st : List Value} {h : mH} {Q : mO → mH → Prop} {x y : Int64} (hd : decode (mBy M) pc = .ok (.ladd, 1))  (k : Ev X M B (pc + 1) L (.long (x + y) :: st) h Q) : Ev X M B pc L (.long y :: .long x :: st) h Q :=
  fun p e s m args below meth c H locs ls R C hc hs hW hS hL => lv_ladd C.1 C.2.1 hd  (k p e s m args below meth c H locs ls R C hc hs hW hS hL)
theorem ev_lsub {X : mX} {M : mMD} {B : mB} {pc : Nat} {L st : List Value} {h : mH} {Q : mO → mH → Prop} {x y : Int64} (hd : decode (mBy M) pc = .ok (.lsub, 1))  (k : Ev X M B (pc + 1) L (.long (x - y) :: st) h Q) : Ev X M B pc L (.long y :: .long x :: st) h Q :=
  fun p e s m args below meth c H locs ls R C hc hs hW hS hL => lv_lsub C.1 C.2.1 hd  (k p e s m args below meth c H locs ls R C hc hs hW hS hL)
theorem ev_lmul {X : mX} {M : mMD} {B : mB} {pc : Nat} {L st : List Value} {h : mH} {Q : mO → mH → Prop} {x y : Int64} (hd : decode (mBy M) pc = .ok (.lmul, 1))  (k : Ev X M B (pc + 1) L (.long (x * y) :: st) h Q) : Ev X M B pc L (.long y :: .long x :: st) h Q :=
  fun p e s m args below meth c H locs ls R C hc hs hW hS hL => lv_lmul C.1 C.2.1 hd  (k p e s m args below meth c H locs ls R C hc hs hW hS hL)
theorem ev_land {X : mX} {M : mMD} {B : mB} {pc : Nat} {L st : List Value} {h : mH} {Q : mO → mH → Prop} {x y : Int64} (hd : decode (mBy M) pc = .ok (.land, 1))  (k : Ev X M B (pc + 1) L (.long (x &&& y) :: st) h Q) : Ev X M B pc L (.long y :: .long x :: st) h Q :=
  fun p e s m args below meth c H locs ls R C hc hs hW hS hL => lv_land C.1 C.2.1 hd  (k p e s m args below meth c H locs ls R C hc hs hW hS hL)
theorem ev_lor {X : mX} {M : mMD} {B : mB} {pc : Nat} {L st : List Value} {h : mH} {Q : mO → mH → Prop} {x y : Int64} (hd : decode (mBy M) pc = .ok (.lor, 1))  (k : Ev X M B (pc + 1) L (.long (x ||| y) :: st) h Q) : Ev X M B pc L (.long y :: .long x :: st) h Q :=
  fun p e s m args below meth c H locs ls R C hc hs hW hS hL => lv_lor C.1 C.2.1 hd  (k p e s m args below meth c H locs ls R C hc hs hW hS hL)
theorem ev_lshl {X : mX} {M : mMD} {B : mB} {pc : Nat} {L st : List Value} {h : mH} {Q : mO → mH → Prop} {x : Int64} {y : Int32} (hd : decode (mBy M) pc = .ok (.lshl, 1))  (k : Ev X M B (pc + 1) L (.long (x <<< (y.toInt64 &&& 63)) :: st) h Q) : Ev X M B pc L (.int y :: .long x :: st) h Q :=
  fun p e s m args below meth c H locs ls R C hc hs hW hS hL => lv_lshl C.1 C.2.1 hd rfl (k p e s m args below meth c H locs ls R C hc hs hW hS hL)
theorem ev_lshr {X : mX} {M : mMD} {B : mB} {pc : Nat} {L st : List Value} {h : mH} {Q : mO → mH → Prop} {x : Int64} {y : Int32} (hd : decode (mBy M) pc = .ok (.lshr, 1))  (k : Ev X M B (pc + 1) L (.long (x >>> (y.toInt64 &&& 63)) :: st) h Q) : Ev X M B pc L (.int y :: .long x :: st) h Q :=
  fun p e s m args below meth c H locs ls R C hc hs hW hS hL => lv_lshr C.1 C.2.1 hd rfl (k p e s m args below meth c H locs ls R C hc hs hW hS hL)
theorem ev_lcmp {X : mX} {M : mMD} {B : mB} {pc : Nat} {L st : List Value} {h : mH} {Q : mO → mH → Prop} {x y : Int64} (hd : decode (mBy M) pc = .ok (.lcmp, 1))  (k : Ev X M B (pc + 1) L (.int (lg_cmp x y) :: st) h Q) : Ev X M B pc L (.long y :: .long x :: st) h Q :=
  fun p e s m args below meth c H locs ls R C hc hs hW hS hL => W.lcmp C.1 C.2.1 hd  (k p e s m args below meth c H locs ls R C hc hs hW hS hL)
theorem ev_i2l {X : mX} {M : mMD} {B : mB} {pc : Nat} {L st : List Value} {h : mH} {Q : mO → mH → Prop} {x : Int32} (hd : decode (mBy M) pc = .ok (.i2l, 1))  (k : Ev X M B (pc + 1) L (.long x.toInt64 :: st) h Q) : Ev X M B pc L (.int x :: st) h Q :=
  fun p e s m args below meth c H locs ls R C hc hs hW hS hL => lv_i2l C.1 C.2.1 hd rfl (k p e s m args below meth c H locs ls R C hc hs hW hS hL)
theorem ev_l2i {X : mX} {M : mMD} {B : mB} {pc : Nat} {L st : List Value} {h : mH} {Q : mO → mH → Prop} {x : Int64} (hd : decode (mBy M) pc = .ok (.l2i, 1))  (k : Ev X M B (pc + 1) L (.int x.toInt32 :: st) h Q) : Ev X M B pc L (.long x :: st) h Q :=
  fun p e s m args below meth c H locs ls R C hc hs hW hS hL => lv_l2i C.1 C.2.1 hd rfl (k p e s m args below meth c H locs ls R C hc hs hW hS hL)
theorem ev_i2d {X : mX} {M : mMD} {B : mB} {pc : Nat} {L st : List Value} {h : mH} {Q : mO → mH → Prop} {x : Int32} (hd : decode (mBy M) pc = .ok (.i2d, 1))  (k : Ev X M B (pc + 1) L (.double (FP.i2d x) :: st) h Q) : Ev X M B pc L (.int x :: st) h Q :=
  fun p e s m args below meth c H locs ls R C hc hs hW hS hL => lv_i2d C.1 C.2.1 hd  (k p e s m args below meth c H locs ls R C hc hs hW hS hL)
theorem ev_d2l {X : mX} {M : mMD} {B : mB} {pc : Nat} {L st : List Value} {h : mH} {Q : mO → mH → Prop} {x : UInt64} (hd : decode (mBy M) pc = .ok (.d2l, 1))  (k : Ev X M B (pc + 1) L (.long (FP.d2l x) :: st) h Q) : Ev X M B pc L (.double x :: st) h Q :=
  fun p e s m args below meth c H locs ls R C hc hs hW hS hL => lv_d2l C.1 C.2.1 hd  (k p e s m args below meth c H locs ls R C hc hs hW hS hL)
theorem ev_dsub {X : mX} {M : mMD} {B : mB} {pc : Nat} {L st : List Value} {h : mH} {Q : mO → mH → Prop} {x y : UInt64} (hd : decode (mBy M) pc = .ok (.dsub, 1)) (hne : vf_n64 (FP.dsub x y)) (k : Ev X M B (pc + 1) L (.double (FP.dsub x y) :: st) h Q) : Ev X M B pc L (.double y :: .double x :: st) h Q :=
  fun p e s m args below meth c H locs ls R C hc hs hW hS hL => lv_dsub C.1 C.2.1 hd hne (k p e s m args below meth c H locs ls R C hc hs hW hS hL)
theorem ev_dmul {X : mX} {M : mMD} {B : mB} {pc : Nat} {L st : List Value} {h : mH} {Q : mO → mH → Prop} {x y : UInt64} (hd : decode (mBy M) pc = .ok (.dmul, 1)) (hne : vf_n64 (FP.dmul x y)) (k : Ev X M B (pc + 1) L (.double (FP.dmul x y) :: st) h Q) : Ev X M B pc L (.double y :: .double x :: st) h Q :=
  fun p e s m args below meth c H locs ls R C hc hs hW hS hL => lv_dmul C.1 C.2.1 hd hne (k p e s m args below meth c H locs ls R C hc hs hW hS hL)
theorem ev_ddiv {X : mX} {M : mMD} {B : mB} {pc : Nat} {L st : List Value} {h : mH} {Q : mO → mH → Prop} {x y : UInt64} (hd : decode (mBy M) pc = .ok (.ddiv, 1)) (hne : vf_n64 (FP.ddiv x y)) (k : Ev X M B (pc + 1) L (.double (FP.ddiv x y) :: st) h Q) : Ev X M B pc L (.double y :: .double x :: st) h Q :=
  fun p e s m args below meth c H locs ls R C hc hs hW hS hL => lv_ddiv C.1 C.2.1 hd hne (k p e s m args below meth c H locs ls R C hc hs hW hS hL)
theorem ev_dcmp {X : mX} {M : mMD} {B : mB} {pc : Nat} {L st : List Value} {h : mH} {Q : mO → mH → Prop} {x y : UInt64} {op : CmpOp} (hd : decode (mBy M) pc = .ok (.dcmp op, 1))  (k : Ev X M B (pc + 1) L (.int (Op.cmpValue (FP.dcmp x y) op) :: st) h Q) : Ev X M B pc L (.double y :: .double x :: st) h Q :=
  fun p e s m args below meth c H locs ls R C hc hs hW hS hL => lv_dcmp C.1 C.2.1 hd  (k p e s m args below meth c H locs ls R C hc hs hW hS hL)
theorem ev_dup {X : mX} {M : mMD} {B : mB} {pc : Nat} {L st : List Value} {h : mH} {Q : mO → mH → Prop} {v : Value} (hd : decode (mBy M) pc = .ok (.dup, 1)) (hv : v.category = 1) (k : Ev X M B (pc + 1) L (v :: v :: st) h Q) : Ev X M B pc L (v :: st) h Q :=
  fun p e s m args below meth c H locs ls R C hc hs hW hS hL => lv_dup C.1 C.2.1 hd ((cv_cat X v).trans hv) (k p e s m args below meth c H locs ls R C hc hs hW hS hL)
theorem ev_pop {X : mX} {M : mMD} {B : mB} {pc : Nat} {L st : List Value} {h : mH} {Q : mO → mH → Prop} {v : Value} (hd : decode (mBy M) pc = .ok (.pop, 1)) (hv : v.category = 1) (k : Ev X M B (pc + 1) L (st) h Q) : Ev X M B pc L (v :: st) h Q :=
  fun p e s m args below meth c H locs ls R C hc hs hW hS hL => lv_pop C.1 C.2.1 hd ((cv_cat X v).trans hv) (k p e s m args below meth c H locs ls R C hc hs hW hS hL)
theorem ev_dup2 {X : mX} {M : mMD} {B : mB} {pc : Nat} {L st : List Value} {h : mH} {Q : mO → mH → Prop} {v w : Value} (hd : decode (mBy M) pc = .ok (.dup2, 1)) (hv : v.category = 1) (hw : w.category = 1) (k : Ev X M B (pc + 1) L (v :: w :: v :: w :: st) h Q) : Ev X M B pc L (v :: w :: st) h Q :=
  fun p e s m args below meth c H locs ls R C hc hs hW hS hL => lv_dup2_11 C.1 C.2.1 hd ((cv_cat X v).trans hv) ((cv_cat X w).trans hw) (k p e s m args below meth c H locs ls R C hc hs hW hS hL)
theorem ev_ldc {X : mX} {M : mMD} {B : mB} {pc : Nat} {L st : List Value} {h : mH} {Q : mO → mH → Prop} {i : Nat} (v : Int32) (hd : decode (mBy M) pc = .ok (.ldc i, 2)) (hw : Cond.constant (RN (mOwn M)) i v ∈ WL) (k : Ev X M B (pc + 2) L (.int v :: st) h Q) : Ev X M B pc L st h Q :=
  fun p e s m args below meth c H locs ls R C hc hs hW hS hL => lv_ldc C.1 C.2.1 C.2.2.2.2.1 (C.2.2.2.2.2.1 _ hw) hd (k p e s m args below meth c H locs ls R C hc hs hW hS hL)
theorem ev_ldcw {X : mX} {M : mMD} {B : mB} {pc : Nat} {L st : List Value} {h : mH} {Q : mO → mH → Prop} {i : Nat} (v : Int32) (hd : decode (mBy M) pc = .ok (.ldc_w i, 3)) (hw : Cond.constant (RN (mOwn M)) i v ∈ WL) (k : Ev X M B (pc + 3) L (.int v :: st) h Q) : Ev X M B pc L st h Q :=
  fun p e s m args below meth c H locs ls R C hc hs hW hS hL => lv_ldcw C.1 C.2.1 C.2.2.2.2.1 (C.2.2.2.2.2.1 _ hw) hd (k p e s m args below meth c H locs ls R C hc hs hW hS hL)
theorem ev_ldc2 {X : mX} {M : mMD} {B : mB} {pc : Nat} {L st : List Value} {h : mH} {Q : mO → mH → Prop} {i : Nat} (v : Int64) (hd : decode (mBy M) pc = .ok (.ldc2_w i, 3)) (hw : Cond.constantLong (RN (mOwn M)) i v ∈ WL) (k : Ev X M B (pc + 3) L (.long v :: st) h Q) : Ev X M B pc L st h Q :=
  fun p e s m args below meth c H locs ls R C hc hs hW hS hL => lv_ldc2 C.1 C.2.1 C.2.2.2.2.1 (C.2.2.2.2.2.1 _ hw) hd (k p e s m args below meth c H locs ls R C hc hs hW hS hL)
theorem ev_ldc2d {X : mX} {M : mMD} {B : mB} {pc : Nat} {L st : List Value} {h : mH} {Q : mO → mH → Prop} {i : Nat} (v : UInt64) (hd : decode (mBy M) pc = .ok (.ldc2_w i, 3)) (hw : Cond.constantDouble (RN (mOwn M)) i v ∈ WL) (k : Ev X M B (pc + 3) L (.double v :: st) h Q) : Ev X M B pc L st h Q :=
  fun p e s m args below meth c H locs ls R C hc hs hW hS hL => lv_ldc2d C.1 C.2.1 C.2.2.2.2.1 (C.2.2.2.2.2.1 _ hw) hd (k p e s m args below meth c H locs ls R C hc hs hW hS hL)
theorem ev_istore_n {X : mX} {M : mMD} {B : mB} {pc : Nat} {L st : List Value} {h : mH} {Q : mO → mH → Prop} {k : Fin 4} {i : Nat} {x : Int32} {L' : List Value} (hd : decode (mBy M) pc = .ok (.istore_n k, 1)) (hi : (k : Nat) = i) (hn : i < mML M) (hL' : stl L i (.int x) = L') (k : Ev X M B (pc + 1) L' st h Q) : Ev X M B pc L (.int x :: st) h Q := by
  subst hL'
  intro p e s m args below meth c H locs ls R C hc hs hW hS hL
  exact lv_istore_n C.1 C.2.1 hd hi hL.has hn rfl (fun ls' hl => k p e s m args below meth c H locs ls' R C hc hs hW hS (hL.st1 (v := .int x) hn hl))
theorem ev_istore {X : mX} {M : mMD} {B : mB} {pc : Nat} {L st : List Value} {h : mH} {Q : mO → mH → Prop} {i : Nat} {x : Int32} {L' : List Value} (hd : decode (mBy M) pc = .ok (.istore i, 2))  (hn : i < mML M) (hL' : stl L i (.int x) = L') (k : Ev X M B (pc + 2) L' st h Q) : Ev X M B pc L (.int x :: st) h Q := by
  subst hL'
  intro p e s m args below meth c H locs ls R C hc hs hW hS hL
  exact lv_istore C.1 C.2.1 hd  hL.has hn rfl (fun ls' hl => k p e s m args below meth c H locs ls' R C hc hs hW hS (hL.st1 (v := .int x) hn hl))
theorem ev_astore_n {X : mX} {M : mMD} {B : mB} {pc : Nat} {L st : List Value} {h : mH} {Q : mO → mH → Prop} {k : Fin 4} {i : Nat} {x : Nat} {L' : List Value} (hd : decode (mBy M) pc = .ok (.astore_n k, 1)) (hi : (k : Nat) = i) (hn : i < mML M) (hL' : stl L i (.ref x) = L') (k : Ev X M B (pc + 1) L' st h Q) : Ev X M B pc L (.ref x :: st) h Q := by
  subst hL'
  intro p e s m args below meth c H locs ls R C hc hs hW hS hL
  exact lv_astore_n C.1 C.2.1 hd hi hL.has hn rfl (fun ls' hl => k p e s m args below meth c H locs ls' R C hc hs hW hS (hL.st1 (v := .ref x) hn hl))
theorem ev_astore {X : mX} {M : mMD} {B : mB} {pc : Nat} {L st : List Value} {h : mH} {Q : mO → mH → Prop} {i : Nat} {x : Nat} {L' : List Value} (hd : decode (mBy M) pc = .ok (.astore i, 2))  (hn : i < mML M) (hL' : stl L i (.ref x) = L') (k : Ev X M B (pc + 2) L' st h Q) : Ev X M B pc L (.ref x :: st) h Q := by
  subst hL'
  intro p e s m args below meth c H locs ls R C hc hs hW hS hL
  exact lv_astore C.1 C.2.1 hd  hL.has hn rfl (fun ls' hl => k p e s m args below meth c H locs ls' R C hc hs hW hS (hL.st1 (v := .ref x) hn hl))
theorem ev_lstore_n {X : mX} {M : mMD} {B : mB} {pc : Nat} {L st : List Value} {h : mH} {Q : mO → mH → Prop} {k : Fin 4} {i : Nat} {x : Int64} {L' : List Value} (hd : decode (mBy M) pc = .ok (.lstore_n k, 1)) (hi : (k : Nat) = i) (hn : i + 1 < mML M) (hL' : stl2 L i (.long x) = L') (k : Ev X M B (pc + 1) L' st h Q) : Ev X M B pc L (.long x :: st) h Q := by
  subst hL'
  intro p e s m args below meth c H locs ls R C hc hs hW hS hL
  exact lv_lstore_n C.1 C.2.1 hd hi hL.has hn rfl (fun ls' hl => k p e s m args below meth c H locs ls' R C hc hs hW hS (hL.st2 (v := .long x) hn hl))
theorem ev_lstore {X : mX} {M : mMD} {B : mB} {pc : Nat} {L st : List Value} {h : mH} {Q : mO → mH → Prop} {i : Nat} {x : Int64} {L' : List Value} (hd : decode (mBy M) pc = .ok (.lstore i, 2))  (hn : i + 1 < mML M) (hL' : stl2 L i (.long x) = L') (k : Ev X M B (pc + 2) L' st h Q) : Ev X M B pc L (.long x :: st) h Q := by
  subst hL'
  intro p e s m args below meth c H locs ls R C hc hs hW hS hL
  exact lv_lstore C.1 C.2.1 hd  hL.has hn rfl (fun ls' hl => k p e s m args below meth c H locs ls' R C hc hs hW hS (hL.st2 (v := .long x) hn hl))
theorem ev_dstore_n {X : mX} {M : mMD} {B : mB} {pc : Nat} {L st : List Value} {h : mH} {Q : mO → mH → Prop} {k : Fin 4} {i : Nat} {x : UInt64} {L' : List Value} (hd : decode (mBy M) pc = .ok (.dstore_n k, 1)) (hi : (k : Nat) = i) (hn : i + 1 < mML M) (hL' : stl2 L i (.double x) = L') (k : Ev X M B (pc + 1) L' st h Q) : Ev X M B pc L (.double x :: st) h Q := by
  subst hL'
  intro p e s m args below meth c H locs ls R C hc hs hW hS hL
  exact lv_dstore_n C.1 C.2.1 hd hi hL.has hn rfl (fun ls' hl => k p e s m args below meth c H locs ls' R C hc hs hW hS (hL.st2 (v := .double x) hn hl))
theorem ev_dstore {X : mX} {M : mMD} {B : mB} {pc : Nat} {L st : List Value} {h : mH} {Q : mO → mH → Prop} {i : Nat} {x : UInt64} {L' : List Value} (hd : decode (mBy M) pc = .ok (.dstore i, 2))  (hn : i + 1 < mML M) (hL' : stl2 L i (.double x) = L') (k : Ev X M B (pc + 2) L' st h Q) : Ev X M B pc L (.double x :: st) h Q := by
  subst hL'
  intro p e s m args below meth c H locs ls R C hc hs hW hS hL
  exact lv_dstore C.1 C.2.1 hd  hL.has hn rfl (fun ls' hl => k p e s m args below meth c H locs ls' R C hc hs hW hS (hL.st2 (v := .double x) hn hl))
theorem ev_iinc {X : mX} {M : mMD} {B : mB} {pc : Nat} {L st : List Value} {h : mH} {Q : mO → mH → Prop} {i : Nat} {n : Int} {x : Int32} {L' : List Value} (v : Int32) (hd : decode (mBy M) pc = .ok (.iinc i n, 3)) (hl : L[i]? = some (.int x)) (hv : x + Int32.ofInt n = v) (hL' : stl L i (.int v) = L') (k : Ev X M B (pc + 3) L' st h Q) : Ev X M B pc L st h Q := by
  subst hL'
  intro p e s m args below meth c H locs ls R C hc hs hW hS hL
  obtain ⟨q, hq⟩ := List.getElem?_of_mem (lvl_mem.mpr ⟨.int x, hl, (fun q => by cases q), rfl⟩ : (i, cv X (.int x)) ∈ lvl X L)
  have hn : i < mML M := by rw [← hL.2.1]; exact (List.getElem?_eq_some_iff.mp hl).1
  exact lv_iinc C.1 C.2.1 hd hL.has hq hv hn rfl (fun ls' hl2 => k p e s m args below meth c H locs ls' R C hc hs hW hS (hL.st1 (v := .int v) hn hl2))
theorem ev_if_eq {X : mX} {M : mMD} {B : mB} {pc : Nat} {L st : List Value} {h : mH} {Q : mO → mH → Prop} {x : Int32} {off : Int} (tgt : Nat) (hd : decode (mBy M) pc = .ok (.ifCond .eq off, 3)) (ht : (pc : Int) + off = (tgt : Int)) (kt : x = 0 → Ev X M B tgt L st h Q) (kf : ¬ x = 0 → Ev X M B (pc + 3) L st h Q) : Ev X M B pc L (.int x :: st) h Q :=
  fun p e s m args below meth c H locs ls R C hc hs hW hS hL => lv_if_eq C.1 C.2.1 hd ht (fun z => kt z p e s m args below meth c H locs ls R C hc hs hW hS hL) (fun z => kf z p e s m args below meth c H locs ls R C hc hs hW hS hL)
theorem ev_if_ne {X : mX} {M : mMD} {B : mB} {pc : Nat} {L st : List Value} {h : mH} {Q : mO → mH → Prop} {x : Int32} {off : Int} (tgt : Nat) (hd : decode (mBy M) pc = .ok (.ifCond .ne off, 3)) (ht : (pc : Int) + off = (tgt : Int)) (kt : ¬ x = 0 → Ev X M B tgt L st h Q) (kf : x = 0 → Ev X M B (pc + 3) L st h Q) : Ev X M B pc L (.int x :: st) h Q :=
  fun p e s m args below meth c H locs ls R C hc hs hW hS hL => lv_if_ne C.1 C.2.1 hd ht (fun z => kt z p e s m args below meth c H locs ls R C hc hs hW hS hL) (fun z => kf z p e s m args below meth c H locs ls R C hc hs hW hS hL)
theorem ev_if_lt {X : mX} {M : mMD} {B : mB} {pc : Nat} {L st : List Value} {h : mH} {Q : mO → mH → Prop} {x : Int32} {off : Int} (tgt : Nat) (hd : decode (mBy M) pc = .ok (.ifCond .lt off, 3)) (ht : (pc : Int) + off = (tgt : Int)) (kt : x < 0 → Ev X M B tgt L st h Q) (kf : ¬ x < 0 → Ev X M B (pc + 3) L st h Q) : Ev X M B pc L (.int x :: st) h Q :=
  fun p e s m args below meth c H locs ls R C hc hs hW hS hL => lv_if_lt C.1 C.2.1 hd ht (fun z => kt z p e s m args below meth c H locs ls R C hc hs hW hS hL) (fun z => kf z p e s m args below meth c H locs ls R C hc hs hW hS hL)
theorem ev_if_ge {X : mX} {M : mMD} {B : mB} {pc : Nat} {L st : List Value} {h : mH} {Q : mO → mH → Prop} {x : Int32} {off : Int} (tgt : Nat) (hd : decode (mBy M) pc = .ok (.ifCond .ge off, 3)) (ht : (pc : Int) + off = (tgt : Int)) (kt : 0 ≤ x → Ev X M B tgt L st h Q) (kf : ¬ 0 ≤ x → Ev X M B (pc + 3) L st h Q) : Ev X M B pc L (.int x :: st) h Q :=
  fun p e s m args below meth c H locs ls R C hc hs hW hS hL => lv_if_ge C.1 C.2.1 hd ht (fun z => kt z p e s m args below meth c H locs ls R C hc hs hW hS hL) (fun z => kf z p e s m args below meth c H locs ls R C hc hs hW hS hL)
theorem ev_if_gt {X : mX} {M : mMD} {B : mB} {pc : Nat} {L st : List Value} {h : mH} {Q : mO → mH → Prop} {x : Int32} {off : Int} (tgt : Nat) (hd : decode (mBy M) pc = .ok (.ifCond .gt off, 3)) (ht : (pc : Int) + off = (tgt : Int)) (kt : 0 < x → Ev X M B tgt L st h Q) (kf : ¬ 0 < x → Ev X M B (pc + 3) L st h Q) : Ev X M B pc L (.int x :: st) h Q :=
  fun p e s m args below meth c H locs ls R C hc hs hW hS hL => lv_if_gt C.1 C.2.1 hd ht (fun z => kt z p e s m args below meth c H locs ls R C hc hs hW hS hL) (fun z => kf z p e s m args below meth c H locs ls R C hc hs hW hS hL)
theorem ev_if_le {X : mX} {M : mMD} {B : mB} {pc : Nat} {L st : List Value} {h : mH} {Q : mO → mH → Prop} {x : Int32} {off : Int} (tgt : Nat) (hd : decode (mBy M) pc = .ok (.ifCond .le off, 3)) (ht : (pc : Int) + off = (tgt : Int)) (kt : x ≤ 0 → Ev X M B tgt L st h Q) (kf : ¬ x ≤ 0 → Ev X M B (pc + 3) L st h Q) : Ev X M B pc L (.int x :: st) h Q :=
  fun p e s m args below meth c H locs ls R C hc hs hW hS hL => lv_if_le C.1 C.2.1 hd ht (fun z => kt z p e s m args below meth c H locs ls R C hc hs hW hS hL) (fun z => kf z p e s m args below meth c H locs ls R C hc hs hW hS hL)
theorem ev_icmp_eq {X : mX} {M : mMD} {B : mB} {pc : Nat} {L st : List Value} {h : mH} {Q : mO → mH → Prop} {x y : Int32} {off : Int} (tgt : Nat) (hd : decode (mBy M) pc = .ok (.if_icmp .eq off, 3)) (ht : (pc : Int) + off = (tgt : Int)) (kt : x = y → Ev X M B tgt L st h Q) (kf : ¬ x = y → Ev X M B (pc + 3) L st h Q) : Ev X M B pc L (.int y :: .int x :: st) h Q :=
  fun p e s m args below meth c H locs ls R C hc hs hW hS hL => lv_icmp_eq C.1 C.2.1 hd ht (fun z => kt z p e s m args below meth c H locs ls R C hc hs hW hS hL) (fun z => kf z p e s m args below meth c H locs ls R C hc hs hW hS hL)
theorem ev_icmp_ne {X : mX} {M : mMD} {B : mB} {pc : Nat} {L st : List Value} {h : mH} {Q : mO → mH → Prop} {x y : Int32} {off : Int} (tgt : Nat) (hd : decode (mBy M) pc = .ok (.if_icmp .ne off, 3)) (ht : (pc : Int) + off = (tgt : Int)) (kt : ¬ x = y → Ev X M B tgt L st h Q) (kf : x = y → Ev X M B (pc + 3) L st h Q) : Ev X M B pc L (.int y :: .int x :: st) h Q :=
  fun p e s m args below meth c H locs ls R C hc hs hW hS hL => lv_icmp_ne C.1 C.2.1 hd ht (fun z => kt z p e s m args below meth c H locs ls R C hc hs hW hS hL) (fun z => kf z p e s m args below meth c H locs ls R C hc hs hW hS hL)
theorem ev_icmp_lt {X : mX} {M : mMD} {B : mB} {pc : Nat} {L st : List Value} {h : mH} {Q : mO → mH → Prop} {x y : Int32} {off : Int} (tgt : Nat) (hd : decode (mBy M) pc = .ok (.if_icmp .lt off, 3)) (ht : (pc : Int) + off = (tgt : Int)) (kt : x < y → Ev X M B tgt L st h Q) (kf : ¬ x < y → Ev X M B (pc + 3) L st h Q) : Ev X M B pc L (.int y :: .int x :: st) h Q :=
  fun p e s m args below meth c H locs ls R C hc hs hW hS hL => lv_icmp_lt C.1 C.2.1 hd ht (fun z => kt z p e s m args below meth c H locs ls R C hc hs hW hS hL) (fun z => kf z p e s m args below meth c H locs ls R C hc hs hW hS hL)
theorem ev_icmp_ge {X : mX} {M : mMD} {B : mB} {pc : Nat} {L st : List Value} {h : mH} {Q : mO → mH → Prop} {x y : Int32} {off : Int} (tgt : Nat) (hd : decode (mBy M) pc = .ok (.if_icmp .ge off, 3)) (ht : (pc : Int) + off = (tgt : Int)) (kt : y ≤ x → Ev X M B tgt L st h Q) (kf : ¬ y ≤ x → Ev X M B (pc + 3) L st h Q) : Ev X M B pc L (.int y :: .int x :: st) h Q :=
  fun p e s m args below meth c H locs ls R C hc hs hW hS hL => lv_icmp_ge C.1 C.2.1 hd ht (fun z => kt z p e s m args below meth c H locs ls R C hc hs hW hS hL) (fun z => kf z p e s m args below meth c H locs ls R C hc hs hW hS hL)
theorem ev_icmp_gt {X : mX} {M : mMD} {B : mB} {pc : Nat} {L st : List Value} {h : mH} {Q : mO → mH → Prop} {x y : Int32} {off : Int} (tgt : Nat) (hd : decode (mBy M) pc = .ok (.if_icmp .gt off, 3)) (ht : (pc : Int) + off = (tgt : Int)) (kt : y < x → Ev X M B tgt L st h Q) (kf : ¬ y < x → Ev X M B (pc + 3) L st h Q) : Ev X M B pc L (.int y :: .int x :: st) h Q :=
  fun p e s m args below meth c H locs ls R C hc hs hW hS hL => lv_icmp_gt C.1 C.2.1 hd ht (fun z => kt z p e s m args below meth c H locs ls R C hc hs hW hS hL) (fun z => kf z p e s m args below meth c H locs ls R C hc hs hW hS hL)
theorem ev_icmp_le {X : mX} {M : mMD} {B : mB} {pc : Nat} {L st : List Value} {h : mH} {Q : mO → mH → Prop} {x y : Int32} {off : Int} (tgt : Nat) (hd : decode (mBy M) pc = .ok (.if_icmp .le off, 3)) (ht : (pc : Int) + off = (tgt : Int)) (kt : x ≤ y → Ev X M B tgt L st h Q) (kf : ¬ x ≤ y → Ev X M B (pc + 3) L st h Q) : Ev X M B pc L (.int y :: .int x :: st) h Q :=
  fun p e s m args below meth c H locs ls R C hc hs hW hS hL => lv_icmp_le C.1 C.2.1 hd ht (fun z => kt z p e s m args below meth c H locs ls R C hc hs hW hS hL) (fun z => kf z p e s m args below meth c H locs ls R C hc hs hW hS hL)
theorem ev_goto {X : mX} {M : mMD} {B : mB} {pc : Nat} {L st : List Value} {h : mH} {Q : mO → mH → Prop} {off : Int} (tgt : Nat) (hd : decode (mBy M) pc = .ok (.goto off, 3)) (ht : (pc : Int) + off = (tgt : Int)) (k : Ev X M B tgt L st h Q) : Ev X M B pc L st h Q :=
  fun p e s m args below meth c H locs ls R C hc hs hW hS hL => lv_goto C.1 C.2.1 hd ht (k p e s m args below meth c H locs ls R C hc hs hW hS hL)
theorem ev_tableOut {X : mX} {M : mMD} {B : mB} {pc : Nat} {L st : List Value} {h : mH} {Q : mO → mH → Prop} {dflt lo hi : Int} {offs : Array Int} {len : Nat} {x : Int32} (tgt : Nat) (hd : decode (mBy M) pc = .ok (.tableswitch dflt lo hi offs, len)) (hx : x.toInt < lo ∨ hi < x.toInt) (ht : (pc : Int) + dflt = (tgt : Int)) (k : Ev X M B tgt L st h Q) : Ev X M B pc L (.int x :: st) h Q :=
  fun p e s m args below meth c H locs ls R C hc hs hW hS hL => lv_tableOut C.1 C.2.1 hd hx ht (k p e s m args below meth c H locs ls R C hc hs hW hS hL)
theorem ev_tableIn {X : mX} {M : mMD} {B : mB} {pc : Nat} {L st : List Value} {h : mH} {Q : mO → mH → Prop} {dflt lo hi : Int} {offs : Array Int} {len : Nat} {x : Int32} {off : Int} (tgt : Nat) (hd : decode (mBy M) pc = .ok (.tableswitch dflt lo hi offs, len)) (h1 : ¬ x.toInt < lo) (h2 : ¬ hi < x.toInt) (ho : offs[(x.toInt - lo).toNat]? = some off) (ht : (pc : Int) + off = (tgt : Int)) (k : Ev X M B tgt L st h Q) : Ev X M B pc L (.int x :: st) h Q :=
  fun p e s m args below meth c H locs ls R C hc hs hW hS hL => lv_tableIn C.1 C.2.1 hd h1 h2 ho ht (k p e s m args below meth c H locs ls R C hc hs hW hS hL)
theorem ev_lookup {X : mX} {M : mMD} {B : mB} {pc : Nat} {L st : List Value} {h : mH} {Q : mO → mH → Prop} {dflt : Int} {ps : Array (Int × Int)} {len : Nat} {x : Int32} {off : Int} (tgt : Nat) (hd : decode (mBy M) pc = .ok (.lookupswitch dflt ps, len)) (hp : (ps.toList.zip (ps.toList.drop 1)).all (fun (a, next) => a.1 < next.1) = true) (ho : Op.lookupswitch.offset ps.toList dflt x.toInt = off) (ht : (pc : Int) + off = (tgt : Int)) (k : Ev X M B tgt L st h Q) : Ev X M B pc L (.int x :: st) h Q :=
  fun p e s m args below meth c H locs ls R C hc hs hW hS hL => lv_lookup C.1 C.2.1 hd hp ho ht (k p e s m args below meth c H locs ls R C hc hs hW hS hL)
end
section
def TN : Nat → u_T := fun c => match c with
  | 0 => TX0
  | 1 => TX1
  | 2 => TX2
  | 3 => TX3
  | 4 => TX4
  | 5 => TX5
  | _ => TX6
def NN : Nat → Nat := fun c => match c with
  | 0 => 2
  | 1 => 7
  | 2 => 2
  | 3 => 1
  | 4 => 3
  | 5 => 5
  | _ => 7
def tyN : Nat → Nat → FieldType := fun c => match c with
  | 0 => tyX0
  | 1 => tyX1
  | 2 => tyX2
  | 3 => tyX3
  | 4 => tyX4
  | 5 => tyX5
  | _ => tyX6
theorem lt7 {P : Nat → Prop} (h0 : P 0) (h1 : P 1) (h2 : P 2) (h3 : P 3) (h4 : P 4) (h5 : P 5) (h6 : P 6) {c : Nat} (hc : c < 7) : P c := by
  match c, hc with
  | 0, _ => exact h0
  | 1, _ => exact h1
  | 2, _ => exact h2
  | 3, _ => exact h3
  | 4, _ => exact h4
  | 5, _ => exact h5
  | 6, _ => exact h6
theorem cl_at {c : Nat} (hc : c < 7) : vwCl[c]? = some (RN c, TN c, NN c) := lt7 (P := fun c => vwCl[c]? = some (RN c, TN c, NN c)) rfl rfl rfl rfl rfl rfl rfl hc
theorem nm_N {c : Nat} (hc : c < 7) : ∀ a, a < NN c → ∀ b, b < NN c → a ≠ b → (TN c a).2.1 ≠ (TN c b).2.1 := lt7 (P := fun c => ∀ a, a < NN c → ∀ b, b < NN c → a ≠ b → (TN c a).2.1 ≠ (TN c b).2.1) nmX0 nmX1 nmX2 nmX3 nmX4 nmX5 nmX6 hc
theorem ty_N {c : Nat} (hc : c < 7) : ∀ k, k < NN c → parseFieldDescriptor (TN c k).2.2.1 = some (tyN c k) := lt7 (P := fun c => ∀ k, k < NN c → parseFieldDescriptor (TN c k).2.2.1 = some (tyN c k)) tyX0_ok tyX1_ok tyX2_ok tyX3_ok tyX4_ok tyX5_ok tyX6_ok hc
theorem in_N {c : Nat} (hc : c < 7) : ∀ w ∈ u_ws (RN c) (TN c) (NN c), w ∈ WL := by
  have key : ∀ ws : List Cond, (∀ w ∈ ws, w ∈ lw_tbl ∧ goodWord w = true) → ∀ w ∈ ws, w ∈ WL := fun ws h w hw => List.mem_filter.mpr (h w hw)
  refine lt7 (P := fun c => ∀ w ∈ u_ws (RN c) (TN c) (NN c), w ∈ WL) ?_ ?_ ?_ ?_ ?_ ?_ ?_ hc <;> exact key _ (by decide +kernel)
/-- the pool's entry idx of class own means field k of class ci -/
def LkF (own idx ci k : Nat) : Prop := ci < 7 ∧ k < NN ci ∧ Cond.fieldLink (RN own) idx (TN ci k).1 (TN ci k).2.1 (TN ci k).2.2.1 ∈ WL
theorem xad_lo {X : mX} {h : mH} {f : Option Nat} {H : Heap} {a : Nat} {e : mAc} (w : Wd X h f H) (ha : h a = some e) : xad X a = xlo X + a := if_pos (w.1 a e ha).1
theorem Wd.one {X : mX} {h : mH} {f : Option Nat} {H : Heap} {a : Nat} {e : mAc} (w : Wd X h f H) (ha : h a = some e) : va_P (xD X) vwCl [(xlo X + a, cvE X e)] H := by
  intro k q hk
  have hz : k < 1 := (List.getElem?_eq_some_iff.mp hk).1
  rw [show k = 0 by omega] at hk
  cases hk
  exact (w.1 a e ha).2
theorem ev_getfield {X : mX} {M : mMD} {B : mB} {pc : Nat} {L st : List Value} {h : mH} {Q : mO → mH → Prop} {idx ci k a : Nat} {fs : List Value} {v : Value} (hd : decode (mBy M) pc = .ok (.getfield idx, 3)) (hk : LkF (mOwn M) idx ci k) (ha : h a = some (aO ci fs)) (hv : fs[k]? = some v) (kk : Ev X M B (pc + 3) L (v :: st) h Q) : Ev X M B pc L (.ref a :: st) h Q := by
  intro p e s m args below meth c H locs ls R C hc hs hW hS hL
  show W _ _ _ _ _ _ _ _ _ _ _ _ _ _ _ (F0 m pc ls (.ref (xad X a) :: st.map (cv X)))
  rw [xad_lo hW ha]
  exact va_get (D := xD X) (ci := ci) C.1 C.2.1 C.2.2.2.2.2.1 (in_N hk.1) C.2.2.2.2.1 C.2.2.2.2.2.2.2.2.2.2.2.1.2.1 (hW.one ha) 0 rfl (cl_at hk.1) k hk.2.1 (C.2.2.2.2.2.1 _ hk.2.2) (fun _ z => z) (by rw [List.getElem?_map, hv]; rfl) hd (kk p e s m args below meth c H locs ls R C hc hs hW hS hL)
theorem ev_putfield {X : mX} {M : mMD} {B : mB} {pc : Nat} {L st : List Value} {h : mH} {Q : mO → mH → Prop} {idx ci k a : Nat} {fs fs' : List Value} {v : Value} (hd : decode (mBy M) pc = .ok (.putfield idx, 3)) (hk : LkF (mOwn M) idx ci k) (hfin : (TN ci k).2.2.2 = false) (ha : h a = some (aO ci fs)) (hl : k < fs.length) (hn : narrow (tyN ci k) (cv X v) = cv X v) (hfit : fits (tyN ci k) (cv X v) = true) (hfs : fs.set k v = fs') (kk : Ev X M B (pc + 3) L st (mset h a (aO ci fs')) Q) : Ev X M B pc L (v :: .ref a :: st) h Q := by
  subst hfs
  intro p e s m args below meth c H locs ls R C hc hs hW hS hL
  show W _ _ _ _ _ _ _ _ _ _ _ _ _ _ _ (F0 m pc ls (cv X v :: .ref (xad X a) :: st.map (cv X)))
  rw [xad_lo hW ha]
  have hap := va_apart (own := RN (mOwn M)) C.2.2.2.2.2.1 (in_N hk.1) (tyN ci) (ty_N hk.1) (nm_N hk.1) C.2.2.2.2.2.2.2.2.2.2.2.1.2.1 (cl_at hk.1)
  obtain ⟨r, h1, cell, q1, q2, q3, q4⟩ := (hW.1 a _ ha).2
  have hr : r = (RN ci, TN ci, NN ci) := Option.some.inj (h1.symm.trans (cl_at hk.1))
  subst hr
  obtain ⟨hSl, hfc, kC, hkC, hkind⟩ := C.2.2.2.2.2.2.2.2.2.2.2.1.2.1.1 ci _ (cl_at hk.1)
  obtain ⟨cf, kf, fi, f, hi, hsl⟩ := hSl k hk.2.1
  have hlay := C.2.2.2.2.2.1 _ (in_N hk.1 _ (u_in_lay hk.2.1))
  unfold u_lay at hlay
  rw [if_neg (by rw [hfin]; decide)] at hlay
  have hst := (u_facts hfc hkC (u_lays C.2.2.2.2.2.1 (in_N hk.1) hk.2.1) hi).1
  have h6 := u_store hfc hkC hkind hlay hi (ty_N hk.1 k hk.2.1) hn hfit
  refine W.putK C.1 C.2.1 (f := f) ⟨C.2.2.2.2.1, C.2.2.2.2.2.1 _ hk.2.2, ⟨_, _, _, hi⟩, hst⟩ (by rw [q2]; exact h6) q1 q3 (by rw [hsl]; exact k2_hasslot (q4 k hk.2.1)) rfl rfl hd fun H' e1 e2 e3 => ?_
  rw [hsl] at e1 ⊢
  refine kk p e s m args below meth c H' _ ls R C hc hs (hW.put ha e2 e3 ⟨_, cl_at hk.1, t_OB.to (V := updV (vp_V (fs.map (cv X))) k (cv X v)) ⟨_, e1, q2, q3, t_set q4 hap hk.2.1 (cv X v)⟩ (fun j _ => ?_)⟩) (hS.put e2 e3 (Nat.le_add_right _ _)) hL
  rw [vp_updV_set (by rw [List.length_map]; exact hl), ← List.map_set]
theorem ev_putfinal {X : mX} {M : mMD} {B : mB} {pc : Nat} {L st : List Value} {h : mH} {Q : mO → mH → Prop} {idx ci k a : Nat} {fs fs' : List Value} {v : Value} (hd : decode (mBy M) pc = .ok (.putfield idx, 3)) (hk : LkF (mOwn M) idx ci k) (hfin : (TN ci k).2.2.2 = true) (hin : (mNm M).name = "<init>") (hdecl : (TN ci k).1 = RN (mOwn M)) (ha : h a = some (aO ci fs)) (hl : k < fs.length) (hn : narrow (tyN ci k) (cv X v) = cv X v) (hfit : fits (tyN ci k) (cv X v) = true) (hfs : fs.set k v = fs') (kk : Ev X M B (pc + 3) L st (mset h a (aO ci fs')) Q) : Ev X M B pc L (v :: .ref a :: st) h Q := by
  subst hfs
  intro p e s m args below meth c H locs ls R C hc hs hW hS hL
  show W _ _ _ _ _ _ _ _ _ _ _ _ _ _ _ (F0 m pc ls (cv X v :: .ref (xad X a) :: st.map (cv X)))
  rw [xad_lo hW ha]
  have hap := va_apart (own := RN (mOwn M)) C.2.2.2.2.2.1 (in_N hk.1) (tyN ci) (ty_N hk.1) (nm_N hk.1) C.2.2.2.2.2.2.2.2.2.2.2.1.2.1 (cl_at hk.1)
  obtain ⟨r, h1, cell, q1, q2, q3, q4⟩ := (hW.1 a _ ha).2
  have hr : r = (RN ci, TN ci, NN ci) := Option.some.inj (h1.symm.trans (cl_at hk.1))
  subst hr
  obtain ⟨hSl, hfc, kC, hkC, hkind⟩ := C.2.2.2.2.2.2.2.2.2.2.2.1.2.1.1 ci _ (cl_at hk.1)
  obtain ⟨cf, kf, fi, f, hi, hsl⟩ := hSl k hk.2.1
  have hlay := C.2.2.2.2.2.1 _ (in_N hk.1 _ (u_in_lay hk.2.1))
  unfold u_lay at hlay
  rw [if_pos hfin] at hlay
  have hst := (u_facts hfc hkC (u_lays C.2.2.2.2.2.1 (in_N hk.1) hk.2.1) hi).1
  have hcf : m.cls = cf := by
    obtain ⟨_, _, c', _, _, _, -, -, hf', -, -, -, hown2, -⟩ := Cond.laysFinal_spec hlay
    have e1 : c' = cf := by have := hi.symm.trans hf'; simp at this; exact this.1.symm
    rw [hdecl] at hown2
    rw [← e1]; exact Option.some.inj (C.2.2.2.2.1.symm.trans hown2)
  have h6 := u_fits hfc hkC hkind (Or.inr hlay) hi (ty_N hk.1 k hk.2.1) hn hfit
  refine W.putFinK C.1 C.2.1 C.2.2.2.2.1 (C.2.2.2.2.2.1 _ hk.2.2) hi hst hcf (C.2.2.2.2.2.2.2.1.trans hin) (by rw [q2]; exact h6) q1 q3 (by rw [hsl]; exact k2_hasslot (q4 k hk.2.1)) rfl rfl hd fun H' e1 e2 e3 => ?_
  rw [hsl] at e1 ⊢
  refine kk p e s m args below meth c H' _ ls R C hc hs (hW.put ha e2 e3 ⟨_, cl_at hk.1, t_OB.to (V := updV (vp_V (fs.map (cv X))) k (cv X v)) ⟨_, e1, q2, q3, t_set q4 hap hk.2.1 (cv X v)⟩ (fun j _ => ?_)⟩) (hS.put e2 e3 (Nat.le_add_right _ _)) hL
  rw [vp_updV_set (by rw [List.length_map]; exact hl), ← List.map_set]
theorem ev_iaload {X : mX} {M : mMD} {B : mB} {pc : Nat} {L st : List Value} {h : mH} {Q : mO → mH → Prop} {a n : Nat} {f : Nat → Int32} {i : Int32} (hd : decode (mBy M) pc = .ok (.iaload, 1)) (ha : h a = some (aI n f)) (hin : vp_in i n) (kk : Ev X M B (pc + 1) L (.int (f i.toNatClampNeg) :: st) h Q) : Ev X M B pc L (.int i :: .ref a :: st) h Q := by
  intro p e s m args below meth c H locs ls R C hc hs hW hS hL
  show W _ _ _ _ _ _ _ _ _ _ _ _ _ _ _ (F0 m pc ls (.int i :: .ref (xad X a) :: st.map (cv X)))
  rw [xad_lo hW ha]
  exact va_iald C.1 C.2.1 C.2.2.2.2.2.2.2.2.2.2.2.1.2.1 (hW.one ha) 0 0 rfl rfl hin hd (kk p e s m args below meth c H locs ls R C hc hs hW hS hL)
theorem ev_laload {X : mX} {M : mMD} {B : mB} {pc : Nat} {L st : List Value} {h : mH} {Q : mO → mH → Prop} {a n : Nat} {f : Nat → Int64} {i : Int32} (hd : decode (mBy M) pc = .ok (.laload, 1)) (ha : h a = some (aL n f)) (hin : vp_in i n) (kk : Ev X M B (pc + 1) L (.long (f i.toNatClampNeg) :: st) h Q) : Ev X M B pc L (.int i :: .ref a :: st) h Q := by
  intro p e s m args below meth c H locs ls R C hc hs hW hS hL
  show W _ _ _ _ _ _ _ _ _ _ _ _ _ _ _ (F0 m pc ls (.int i :: .ref (xad X a) :: st.map (cv X)))
  rw [xad_lo hW ha]
  exact va_lald C.1 C.2.1 C.2.2.2.2.2.2.2.2.2.2.2.1.2.1 (hW.one ha) 0 1 rfl rfl hin hd (kk p e s m args below meth c H locs ls R C hc hs hW hS hL)
def kC : Nat → String := fun t => if t = 2 then RX1 else RX4
theorem ev_aaload {X : mX} {M : mMD} {B : mB} {pc : Nat} {L st : List Value} {h : mH} {Q : mO → mH → Prop} {a n t b : Nat} {f : Nat → Option Nat} {i : Int32} (hd : decode (mBy M) pc = .ok (.aaload, 1)) (ht : t = 2 ∨ t = 3) (ha : h a = some (aR t n f)) (hin : vp_in i n) (hb : f i.toNatClampNeg = some b) (kk : Ev X M B (pc + 1) L (.ref b :: st) h Q) : Ev X M B pc L (.int i :: .ref a :: st) h Q := by
  intro p e s m args below meth c H locs ls R C hc hs hW hS hL
  show W _ _ _ _ _ _ _ _ _ _ _ _ _ _ _ (F0 m pc ls (.int i :: .ref (xad X a) :: st.map (cv X)))
  rw [xad_lo hW ha]
  refine va_aldq (C := kC t) (f := fun j => (f j).map (xad X)) C.1 C.2.1 C.2.2.2.2.2.2.2.2.2.2.2.1.2.1 (hW.one ha) 0 t rfl (by rcases ht with rfl | rfl <;> rfl) hin hd ?_
  rw [hb]
  exact kk p e s m args below meth c H locs ls R C hc hs hW hS hL
theorem ev_ialoadR {X : mX} {M : mMD} {B : mB} {pc : Nat} {L st : List Value} {h : mH} {Q : mO → mH → Prop} {j n : Nat} {f : Nat → Int32} {i : Int32} (hd : decode (mBy M) pc = .ok (.iaload, 1)) (ha : xro X (1000000 + j) = some (n, f)) (hin : vp_in i n) (kk : Ev X M B (pc + 1) L (.int (f i.toNatClampNeg) :: st) h Q) : Ev X M B pc L (.int i :: .ref (1000000 + j) :: st) h Q := by
  intro p e s m args below meth c H locs ls R C hc hs hW hS hL
  show W _ _ _ _ _ _ _ _ _ _ _ _ _ _ _ (F0 m pc ls (.int i :: .ref (xad X (1000000 + j)) :: st.map (cv X)))
  have ead : xad X (1000000 + j) = xta X j := by
    unfold xad
    rw [if_neg (by omega), Nat.add_sub_cancel_left]
  rw [ead]
  obtain ⟨cell, h1, h2, h3, h4, h5, h6⟩ := C.2.2.2.2.2.2.2.2.2.2.2.1.2.2.2.2.2.2.2.2.2.1 j n f ha
  have hlt : i.toNatClampNeg < n := Nat.not_le.mp fun q => hin (Or.inr q)
  exact W.iald (v := .int (f i.toNatClampNeg)) C.1 C.2.1 (by rw [hS.2.1 _ (Array.getElem?_eq_some_iff.mp h1).1 h6]; exact h1) h2 h3 (by rw [h4]; exact hin) (h5 _ hlt) rfl rfl hd (kk p e s m args below meth c H locs ls R C hc hs hW hS hL)
theorem ev_arraylengthR {X : mX} {M : mMD} {B : mB} {pc : Nat} {L st : List Value} {h : mH} {Q : mO → mH → Prop} {j n : Nat} {f : Nat → Int32} (hd : decode (mBy M) pc = .ok (.arraylength, 1)) (ha : xro X (1000000 + j) = some (n, f)) (kk : Ev X M B (pc + 1) L (.int (nI n) :: st) h Q) : Ev X M B pc L (.ref (1000000 + j) :: st) h Q := by
  intro p e s m args below meth c H locs ls R C hc hs hW hS hL
  show W _ _ _ _ _ _ _ _ _ _ _ _ _ _ _ (F0 m pc ls (.ref (xad X (1000000 + j)) :: st.map (cv X)))
  have ead : xad X (1000000 + j) = xta X j := by
    unfold xad
    rw [if_neg (by omega), Nat.add_sub_cancel_left]
  rw [ead]
  obtain ⟨cell, h1, h2, h3, h4, h5, h6⟩ := C.2.2.2.2.2.2.2.2.2.2.2.1.2.2.2.2.2.2.2.2.2.1 j n f ha
  exact W.alen (n := Int32.ofNat n) C.1 C.2.1 (by rw [hS.2.1 _ (Array.getElem?_eq_some_iff.mp h1).1 h6]; exact h1) h2 (by rw [h4] <;> rfl) rfl rfl hd (kk p e s m args below meth c H locs ls R C hc hs hW hS hL)
theorem ev_arraylengthL {X : mX} {M : mMD} {B : mB} {pc : Nat} {L st : List Value} {h : mH} {Q : mO → mH → Prop} {a n : Nat} {f : Nat → Int64} (hd : decode (mBy M) pc = .ok (.arraylength, 1)) (ha : h a = some (aL n f)) (kk : Ev X M B (pc + 1) L (.int (nI n) :: st) h Q) : Ev X M B pc L (.ref a :: st) h Q := by
  intro p e s m args below meth c H locs ls R C hc hs hW hS hL
  show W _ _ _ _ _ _ _ _ _ _ _ _ _ _ _ (F0 m pc ls (.ref (xad X a) :: st.map (cv X)))
  rw [xad_lo hW ha]
  exact va_alen (x := (n, .inr (.inl f))) C.1 C.2.1 C.2.2.2.2.2.2.2.2.2.2.2.1.2.1 (hW.one ha) 0 1 rfl (ty := .long) rfl rfl hd (kk p e s m args below meth c H locs ls R C hc hs hW hS hL)
theorem ev_iastore {X : mX} {M : mMD} {B : mB} {pc : Nat} {L st : List Value} {h : mH} {Q : mO → mH → Prop} {a n : Nat} {f : Nat → Int32} {i x : Int32} (hd : decode (mBy M) pc = .ok (.iastore, 1)) (ha : h a = some (aI n f)) (hin : vp_in i n) (kk : Ev X M B (pc + 1) L st (mset h a (aI n (upd f i.toNatClampNeg x))) Q) : Ev X M B pc L (.int x :: .int i :: .ref a :: st) h Q := by
  intro p e s m args below meth c H locs ls R C hc hs hW hS hL
  show W _ _ _ _ _ _ _ _ _ _ _ _ _ _ _ (F0 m pc ls (.int x :: .int i :: .ref (xad X a) :: st.map (cv X)))
  rw [xad_lo hW ha]
  refine W.iast C.1 C.2.1 ((hW.1 a _ ha).2) ((C.2.2.2.2.2.2.2.2.2.2.2.1.2.1.2 0 _ rfl).1 n (fun j => .int (f j))) (fun q => by cases q) (by show ¬ (i < 0 ∨ (arrV _ _ _).slots.size ≤ _); rw [arrV_size]; exact hin) rfl rfl hd fun H1 e1 z oq => ?_
  refine kk p e s m args below meth c H1 _ ls R C hc hs (hW.put ha z oq ?_) (hS.put z oq (Nat.le_add_right _ _)) hL
  show H1[xlo X + a]? = some (vp_cell _ _)
  rw [e1, vp_cell_i, vp_cell_i, arrV_store]
  congr 2
  funext q
  by_cases hq : q = i.toNatClampNeg
  · subst hq
    simp [updV, upd]
  · simp [updV, upd, hq]
theorem ev_lastore {X : mX} {M : mMD} {B : mB} {pc : Nat} {L st : List Value} {h : mH} {Q : mO → mH → Prop} {a n : Nat} {f : Nat → Int64} {i : Int32} {x : Int64} (hd : decode (mBy M) pc = .ok (.lastore, 1)) (ha : h a = some (aL n f)) (hin : vp_in i n) (kk : Ev X M B (pc + 1) L st (mset h a (aL n (vp_updL f i.toNatClampNeg x))) Q) : Ev X M B pc L (.long x :: .int i :: .ref a :: st) h Q := by
  intro p e s m args below meth c H locs ls R C hc hs hW hS hL
  show W _ _ _ _ _ _ _ _ _ _ _ _ _ _ _ (F0 m pc ls (.long x :: .int i :: .ref (xad X a) :: st.map (cv X)))
  rw [xad_lo hW ha]
  refine W.last C.1 C.2.1 ((hW.1 a _ ha).2) ((C.2.2.2.2.2.2.2.2.2.2.2.1.2.1.2 1 _ rfl).1 n (fun j => .long (f j))) (fun q => by cases q) (by show ¬ (i < 0 ∨ (arrV _ _ _).slots.size ≤ _); rw [arrV_size]; exact hin) rfl rfl hd fun H1 e1 z oq => ?_
  refine kk p e s m args below meth c H1 _ ls R C hc hs (hW.put ha z oq ?_) (hS.put z oq (Nat.le_add_right _ _)) hL
  show H1[xlo X + a]? = some (vp_cell _ _)
  rw [e1, vp_cell_l, vp_cell_l, arrV_store]
  congr 2
  funext q
  by_cases hq : q = i.toNatClampNeg
  · subst hq
    simp [updV, vp_updL]
  · simp [updV, vp_updL, hq]
def upR (f : Nat → Option Nat) (k : Nat) (v : Option Nat) : Nat → Option Nat := fun j => if j = k then v else f j
theorem ev_aastore {X : mX} {M : mMD} {B : mB} {pc : Nat} {L st : List Value} {h : mH} {Q : mO → mH → Prop} {a n t b cb : Nat} {f : Nat → Option Nat} {i : Int32} {fb : List Value} (hd : decode (mBy M) pc = .ok (.aastore, 1)) (ht : t = 2 ∧ cb = 1 ∨ t = 3 ∧ cb = 4) (ha : h a = some (aR t n f)) (hb : h b = some (aO cb fb)) (hin : vp_in i n) (kk : Ev X M B (pc + 1) L st (mset h a (aR t n (upR f i.toNatClampNeg (some b)))) Q) : Ev X M B pc L (.ref b :: .int i :: .ref a :: st) h Q := by
  intro p e s m args below meth c H locs ls R C hc hs hW hS hL
  show W _ _ _ _ _ _ _ _ _ _ _ _ _ _ _ (F0 m pc ls (.ref (xad X b) :: .int i :: .ref (xad X a) :: st.map (cv X)))
  rw [xad_lo hW ha, xad_lo hW hb]
  have hK := C.2.2.2.2.2.2.2.2.2.2.2.1.2.1
  have hcb : cb < 7 := by omega
  have htc : (xtys X)[t]? = some (xK X t, .object (RN cb)) := by rcases ht with ⟨rfl, rfl⟩ | ⟨rfl, rfl⟩ <;> rfl
  have hlt : i.toNatClampNeg < n := Nat.not_le.mp fun q => hin (Or.inr q)
  have h0 : ¬ i < 0 := fun q => hin (Or.inl q)
  obtain ⟨r', hr', cellV, g1, g2, g3, -⟩ := (hW.1 b _ hb).2
  have hcls := (hK.1 cb _ (cl_at hcb)).2
  obtain ⟨kA, comp, k1, k2, k3, -⟩ := (hK.2 t _ htc).2
  have hcomp : comp = (xD X).1 cb := Option.some.inj (k3.symm.trans hcls.1)
  subst hcomp
  obtain ⟨kC, hkC, -⟩ := hcls.2
  refine W.aast C.1 C.2.1 ((hW.1 a _ ha).2) (fun q h => by cases h) (fun h => by cases h) k1 k2 rfl hkC ⟨h0, by show _ < (arrV _ _ _).slots.size; rw [arrV_size]; exact hlt⟩ g1 (fun q h => by rw [g3] at h; cases h) (by rw [g2]; exact hkC) (by rw [g2]; exact va_assign hcls) rfl rfl hd fun H1 e1 z oq => ?_
  refine kk p e s m args below meth c H1 _ ls R C hc hs (hW.put ha z oq ?_) (hS.put z oq (Nat.le_add_right _ _)) hL
  show H1[xlo X + a]? = some (vp_cell _ _)
  rw [e1, vp_cell_q, vp_cell_q, arrV_store]
  congr 2
  funext q
  by_cases hq : q = i.toNatClampNeg
  · subst hq
    simp [updV, upR, va_rf, xad_lo hW hb]
  · simp [updV, upR, hq]
theorem ev_getstatic {X : mX} {M : mMD} {B : mB} {pc : Nat} {L st : List Value} {h : mH} {Q : mO → mH → Prop} {idx k : Nat} (hd : decode (mBy M) pc = .ok (.getstatic idx, 3)) (hk : k < 3) (hl : Cond.fieldLink (RN (mOwn M)) idx RX6 (xstat k) "[I" ∈ WL) (kk : Ev X M B (pc + 3) L (.ref (1000000 + k) :: st) h Q) : Ev X M B pc L st h Q := by
  intro p e s m args below meth c H locs ls R C hc hs hW hS hL
  have ead : xad X (1000000 + k) = xta X k := by
    unfold xad
    rw [if_neg (by omega), Nat.add_sub_cancel_left]
  have K := kk p e s m args below meth c H locs ls R C hc hs hW hS hL
  have e2 : cv X (.ref (1000000 + k)) = .ref (xta X k) := congrArg Value.ref ead
  rw [List.map_cons, e2] at K
  exact va_gets C.1 C.2.1 (C.2.2.2.2.2.2.2.2.2.2.2.1.2.2.2.2.2.2.2.2.1 k hk) hS C.2.2.2.2.1 (C.2.2.2.2.2.1 _ hl) (fun _ z => z) hd K
theorem ev_getstaticN {X : mX} {M : mMD} {B : mB} {pc : Nat} {L st : List Value} {h : mH} {Q : mO → mH → Prop} (hd : decode (mBy M) pc = .ok (.getstatic 9, 3)) (hM : mOwn M = 3) (kk : Ev X M B (pc + 3) L (.ref 1000000 :: st) h Q) : Ev X M B pc L st h Q := by
  intro p e s m args below meth c H locs ls R C hc hs hW hS hL
  have ead : xad X 1000000 = xta X 0 := by
    unfold xad
    rw [if_neg (by omega)]
  have K := kk p e s m args below meth c H locs ls R C hc hs hW hS hL
  have e2 : cv X (.ref 1000000) = .ref (xta X 0) := congrArg Value.ref ead
  rw [List.map_cons, e2] at K
  have hF := C.2.2.2.2.2.2.2.2.2.2.2.1
  have hown := C.2.2.2.2.1
  rw [hM] at hown
  exact va_getsN C.1 C.2.1 (hF.2.2.2.2.2.2.2.2.1 0 (by decide)) hS hown (va_Nw.use rfl hF.2.2.2.2.2.2.2.2.2.2.2.2.2.2) (fun _ z => z) hd K
end
section
section VXIA
variable {p : Program} {l : Launch} {e : Env} {R : Room} {s : State} {m : MethodId} {args : Array Value} {below : List Frame} {meth : Method} {c : Code} {T : State} {locs : List Loc} {cells slots : Nat}
theorem vx_callI (X : Stand p l e R s m args below meth c T locs cells slots) (hexec : p.tables.exec = Jvm.exec) {own : String} {index : Nat} {y : MethodName} {bytes : ByteArray} {maxL : Nat}
    (hown : s.vm.findClass own = some m.cls) (hy1 : y.name = "<init>") (hlink : (Cond.methodLink own index y).before args s = true) (hinst : (Cond.instanceMethod y).before args s = true)
    (hcode : (Cond.code y bytes maxL none).before args s = true) (hy : y.cls ≠ "java/lang/invoke/MethodHandle" ∧ y.cls ≠ "java/lang/invoke/VarHandle")
    {W9 : Nat} {Pre : Pt → Array Value → Prop} {Post : Pt → Array Value → Option Value → Pt → Prop} {PostX : Pt → Array Value → Addr → Pt → Prop} (hK : vx_Back l R p e below s args y 3 W9 Pre Post PostX)
    {g : JFrame} (hg : g.method = m) (hsize : g.locals.size = c.maxLocals) {a : Addr} {argsL rest : List Value} (hlen : ∀ sig, parseMethodDescriptor y.desc = some sig → argsL.length = sig.parameters.length)
    (hstack : g.stack = argsL.reverse ++ .ref a :: rest) (hW : 2 * g.monitorRoom + (rest.map fun v => v.category).sum ≤ W9) (hdg : decode c.code g.pc = .ok (.invokespecial index, 3))
    (hpre : ∀ vm₁, s.WarmedH vm₁ → Pre ⟨T.setVm vm₁, locs, cells, slots⟩ (Value.ref a :: argsL).toArray) :
    (∃ (v : Option Value) (vm₁ : Vm) (B : Pt), s.WarmedH vm₁ ∧ Stand p l e R s m args below meth c B.U B.locs B.cells B.slots ∧ Post ⟨T.setVm vm₁, locs, cells, slots⟩ (Value.ref a :: argsL).toArray v B ∧
      ∀ target, Steps p.tables e below (B.U.setTop { g with pc := g.pc + 3, stack := v.toList ++ rest }) target → Steps p.tables e below (T.setTop g) target) ∨
    (∃ (q : Addr) (vm₁ : Vm) (B : Pt), s.WarmedH vm₁ ∧ Stand p l e R s m args below meth c B.U B.locs B.cells B.slots ∧ PostX ⟨T.setVm vm₁, locs, cells, slots⟩ (Value.ref a :: argsL).toArray q B ∧
      Steps p.tables e below (T.setTop g) ((B.U.setTop { g with stack := rest }).pushFrame (.throwing q))) := by
  subst hg
  have hpl : e.platform.magicAccessors = ({} : Platform).magicAccessors := by rw [X.admits.platform]
  obtain ⟨mk, methM, cM, kP, vm₁, hnamed, hmethM, hcodeM, -, hlocalsM, -, hkP, -, hW₁, hstep₁⟩ := Steps.initColdArgs (e := e) X.here hexec X.warmed hpl hown hy1 hy hlink hinst hcode (f := g) rfl hlen hstack hdg
  have X₁ := X.noted hW₁
  rcases hK g.method meth c ⟨T.setVm vm₁, locs, cells, slots⟩ { g with stack := rest } (.invokespecial index) mk (Value.ref a :: argsL).toArray X₁ rfl hsize hdg hW (X₁.named hnamed) (hpre vm₁ X₁.warmed) with ⟨v, B, X', hpost, hsteps⟩ | ⟨q, B, X', hpost, hsteps⟩
  · exact Or.inl ⟨v, vm₁, B, X₁.warmed, X', hpost, fun target h => hstep₁ _ fun acts => by rw [doInvoke_state]; exact hsteps.trans h⟩
  · exact Or.inr ⟨q, vm₁, B, X₁.warmed, X', hpost, hstep₁ _ fun acts => by rw [doInvoke_state]; exact hsteps⟩
end VXIA
section VXIB
variable {p : Program} {l : Launch} {e : Env} {R : Room} {s : State} {m : MethodId} {args : Array Value} {below : List Frame} {meth : Method} {c : Code} {H : Heap} {locs : List Loc} {cells slots : Nat}
variable {y : MethodName} {bytes cc : ByteArray} {maxL nL mc ms n index : Nat} {ret : Option FieldType} {ws : List Cond} {rm : Room} {Pc : Array Value → State → Prop} {Qc : Array Value → State → Outcome → State → Prop} {XC : String → State → State → Prop} {free : Addr → Prop} {Ts : List Cond} {own C : String} {b : Addr} {As rest : List Value} {g : JFrame}
theorem vx_runI (S : CallFix p m c cc nL s args Ts own) (hM : vx_Met l y ws rm Pc Qc XC mc ms free) (cw : CallB R s args own index y bytes maxL none ws rm mc ms n ∧ y.name = "<init>" ∧ (Cond.instanceMethod y).before args s = true) (hp : PreS s H Pc (.ref b :: As))
    (hg : g.method = m) (hn : As.length = n) (hsize : g.locals.size = nL) (hstack : g.stack = As.reverse ++ .ref b :: rest) (hW : 2 * g.monitorRoom + (rest.map fun v => v.category).sum ≤ 8) (hdg : decode cc g.pc = .ok (.invokespecial index, 3)) (hf : cells + mc ≤ R.cells ∧ slots + ms ≤ R.slots) :
    vx_Run p l e R s m args below meth c H locs cells slots mc ms g rest (Qc (Value.ref b :: As).toArray) XC free := by
  have hK : vx_Back l R p e below s args y 3 8 (PreOf R mc ms Pc) (PostOf Qc mc ms free) (vx_Post XC mc ms free) := vx_callBack cw.1 hM hp.1
  obtain ⟨⟨-, -, -, -, -, -, hcode, -, hy, hlen, hl⟩, hy1, hin⟩ := cw
  obtain ⟨hx, hb, hml, ho, -⟩ := S
  have hPc := hp.2
  intro T hT X
  rcases vx_callI X hx (bytes := bytes) (maxL := maxL) ho hy1 hl hin hcode hy hK hg (hsize.trans hml.symm) (a := b) (argsL := As) (rest := rest) (fun sig h => hn.trans (hlen sig h)) hstack hW (by rw [hb]; exact hdg)
    (fun vm₁ hW₁ => ⟨hf.1, hf.2, hPc (T.setVm vm₁) hT hW₁⟩) with ⟨v, vm₁, ⟨U', l2, c2, s2⟩, hW₁, X', ⟨g', mk, t, L, e1, e2, hq, h1, hL, h2, h3⟩, st⟩ | ⟨q, vm₁, ⟨U', l2, c2, s2⟩, hW₁, X', ⟨g', mk, t, L, E, ce, e1, e2, hq, hce, hcv, hcl, h1, hL, h2, h3⟩, st⟩
  · dsimp only [Pt.U, Pt.locs, Pt.cells, Pt.slots] at X' e1 e2 h1 h2 h3 st
    subst h1; subst h2; subst h3
    exact Or.inl ⟨v, (T.setVm vm₁).calling g' mk (Value.ref b :: As).toArray, t, U', L, hT, X', hL, e1, e2, hq, st⟩
  · dsimp only [Pt.U, Pt.locs, Pt.cells, Pt.slots] at X' e1 e2 h1 h2 h3 st hcl
    subst h1; subst h2; subst h3
    exact Or.inr ⟨q, (T.setVm vm₁).calling g' mk (Value.ref b :: As).toArray, t, U', L, E, ce, hT, X', hL, e1, e2, hq, hce, hcv, vx_cls hW₁ hcl, st⟩
end VXIB
theorem ev_ireturn {X : mX} {M : mMD} {f f' : Option Nat} {ce sl mc ms pc : Nat} {L : List Value} {h : mH} {Q : mO → mH → Prop} {x : Int32} (hd : decode (mBy M) pc = .ok (.ireturn, 1)) (hr : mRt M = some .int)  (hf : f = f' ∨ f' = none) (hce : ce ≤ mc) (hsl : sl ≤ ms) (hq : Q (.inl (some (.int x))) h) : Ev X M (f, f', ce, sl, mc, ms) pc L [.int x] h Q := by
  intro p e s m args below meth c H locs ls R C hc hs hW hS hL
  refine vx_ret (W.widen hce hsl ?_)
  exact W.iret C.1 C.2.1 (C.2.2.1.trans hr) (fun t ht _ => ⟨(some (.int x)), h, rfl, hq, by rw [ht]; exact hW.to hf, hS.F ht⟩) hS.2.2 hd C.2.2.2.2.2.2.1
theorem ev_zreturn {X : mX} {M : mMD} {f f' : Option Nat} {ce sl mc ms pc : Nat} {L : List Value} {h : mH} {Q : mO → mH → Prop} {x : Int32} (hd : decode (mBy M) pc = .ok (.ireturn, 1)) (hr : mRt M = some .boolean) (hx : narrow .boolean (.int x) = .int x) (hf : f = f' ∨ f' = none) (hce : ce ≤ mc) (hsl : sl ≤ ms) (hq : Q (.inl (some (.int x))) h) : Ev X M (f, f', ce, sl, mc, ms) pc L [.int x] h Q := by
  intro p e s m args below meth c H locs ls R C hc hs hW hS hL
  refine vx_ret (W.widen hce hsl ?_)
  exact W.zret C.1 C.2.1 (C.2.2.1.trans hr) hx (fun t ht _ => ⟨(some (.int x)), h, rfl, hq, by rw [ht]; exact hW.to hf, hS.F ht⟩) hS.2.2 hd C.2.2.2.2.2.2.1
theorem ev_lreturn {X : mX} {M : mMD} {f f' : Option Nat} {ce sl mc ms pc : Nat} {L : List Value} {h : mH} {Q : mO → mH → Prop} {x : Int64} (hd : decode (mBy M) pc = .ok (.lreturn, 1)) (hr : mRt M = some .long)  (hf : f = f' ∨ f' = none) (hce : ce ≤ mc) (hsl : sl ≤ ms) (hq : Q (.inl (some (.long x))) h) : Ev X M (f, f', ce, sl, mc, ms) pc L [.long x] h Q := by
  intro p e s m args below meth c H locs ls R C hc hs hW hS hL
  refine vx_ret (W.widen hce hsl ?_)
  exact W.lret C.1 C.2.1 (C.2.2.1.trans hr) (fun t ht _ => ⟨(some (.long x)), h, rfl, hq, by rw [ht]; exact hW.to hf, hS.F ht⟩) hS.2.2 hd C.2.2.2.2.2.2.1
theorem ev_dreturn {X : mX} {M : mMD} {f f' : Option Nat} {ce sl mc ms pc : Nat} {L : List Value} {h : mH} {Q : mO → mH → Prop} {x : UInt64} (hd : decode (mBy M) pc = .ok (.dreturn, 1)) (hr : mRt M = some .double)  (hf : f = f' ∨ f' = none) (hce : ce ≤ mc) (hsl : sl ≤ ms) (hq : Q (.inl (some (.double x))) h) : Ev X M (f, f', ce, sl, mc, ms) pc L [.double x] h Q := by
  intro p e s m args below meth c H locs ls R C hc hs hW hS hL
  refine vx_ret (W.widen hce hsl ?_)
  exact W.dret C.1 C.2.1 (C.2.2.1.trans hr) (fun t ht _ => ⟨(some (.double x)), h, rfl, hq, by rw [ht]; exact hW.to hf, hS.F ht⟩) hS.2.2 hd C.2.2.2.2.2.2.1
theorem ev_return {X : mX} {M : mMD} {f f' : Option Nat} {ce sl mc ms pc : Nat} {L : List Value} {h : mH} {Q : mO → mH → Prop}  (hd : decode (mBy M) pc = .ok (.return_, 1)) (hr : mRt M = none)  (hf : f = f' ∨ f' = none) (hce : ce ≤ mc) (hsl : sl ≤ ms) (hq : Q (.inl none) h) : Ev X M (f, f', ce, sl, mc, ms) pc L [] h Q := by
  intro p e s m args below meth c H locs ls R C hc hs hW hS hL
  refine vx_ret (W.widen hce hsl ?_)
  exact W.vret C.1 C.2.1 (C.2.2.1.trans hr) (fun t ht _ => ⟨none, h, rfl, hq, by rw [ht]; exact hW.to hf, hS.F ht⟩) hS.2.2 hd C.2.2.2.2.2.2.1
theorem ev_new {X : mX} {M : mMD} {f' : Option Nat} {n ce sl mc ms pc : Nat} {L st : List Value} {h : mH} {Q : mO → mH → Prop} {idx ci : Nat} {fs : List Value} (hd : decode (mBy M) pc = .ok (.new idx, 3)) (hci : ci < 7) (hcl : Cond.classLink (RN (mOwn M)) idx (RN ci) ∈ WL) (hinst : Cond.instantiable (RN ci) (NN ci) ∈ WL) (hini : Cond.initialized (RN ci) ∈ WL) (hfs : ∀ j, j < NN ci → defaultValue (tyN ci j) = vp_V (fs.map (cv X)) j) (hn : n + 1 < 1000000) (hcells : ce + 1 ≤ mc) (hslots : sl + NN ci ≤ ms) (kk : Ev X M (some (n + 1), f', ce + 1, sl + NN ci, mc, ms) (pc + 3) L (.ref n :: st) (mset h n (aO ci fs)) Q) : Ev X M (some n, f', ce, sl, mc, ms) pc L st h Q := by
  intro p e s m args below meth c H locs ls R C hc hs hW hS hL
  have hK := C.2.2.2.2.2.2.2.2.2.2.2.1.2.1
  have hKn := hK.1 ci _ (cl_at hci)
  refine W.newcK C.1 C.2.1 C.2.2.2.2.1 (C.2.2.2.2.2.1 _ hcl) (C.2.2.2.2.2.1 _ hinst) (C.2.2.2.2.2.1 _ hini) rfl hd (by rw [hc]; exact hcells) (by rw [hs]; exact hslots) hKn.2.1 rfl fun H1 kC hkC e1 z1 o1 => ?_
  have hz := (hW.2.2 n rfl).1
  have e9 : Value.ref H.size = cv X (.ref n) := by
    show Value.ref H.size = Value.ref (xad X n)
    rw [hz, xad, if_pos (hW.2.2 n rfl).2.1]
  rw [e9]
  refine kk p e s m args below meth c H1 locs ls R C hc hs (hW.push hn z1 o1 ⟨_, cl_at hci, (u_born (tyN ci) C.2.2.2.2.2.1 (in_N hci) hKn hkC e1 (ty_N hci)).to hfs⟩) ⟨Nat.le_trans hS.1 (by omega), fun x h1 h2 => (o1 x (Nat.lt_of_lt_of_le h1 hS.1)).trans (hS.2.1 x h1 h2), hS.2.2⟩ hL
theorem ev_newI {X : mX} {M : mMD} {f' : Option Nat} {n ce sl mc ms pc : Nat} {L st : List Value} {h : mH} {Q : mO → mH → Prop} {z : Int32} (k : Nat) (hd : decode (mBy M) pc = .ok (.newarray .int, 2)) (hw : Cond.arrayClass .int ∈ WL) (hz0 : ¬ z < 0) (hzk : z.toNatClampNeg = k) (hk9 : k ≤ 60000) (hn : n + 1 < 1000000) (hcells : ce + 1 ≤ mc) (hslots : sl + k ≤ ms) (kk : Ev X M (some (n + 1), f', ce + 1, sl + k, mc, ms) (pc + 2) L (.ref n :: st) (mset h n (aI k (fun _ => 0))) Q) : Ev X M (some n, f', ce, sl, mc, ms) pc L (.int z :: st) h Q := by
  intro p e s m args below meth c H locs ls R C hc hs hW hS hL
  have hK := C.2.2.2.2.2.2.2.2.2.2.2.1.2.1
  have h8 : componentBytes (newarray.typeOf .int) ≤ 8 := by decide
  have hby : k * componentBytes (newarray.typeOf .int) ≤ 536870912 := by
    have := Nat.mul_le_mul hk9 h8
    omega
  refine va_newaK (atype := .int) C.1 C.2.1 (C.2.2.2.2.2.1 _ hw) rfl hd rfl hz0 hzk hby (by rw [hc]; exact hcells) (by rw [hs]; exact hslots) rfl fun H1 cA e1 z1 o1 hAr hNm => ?_
  have hcA : cA = xK X 0 := Option.some.inj (hNm.symm.trans (hK.2 0 _ rfl).2)
  subst hcA
  have hz := (hW.2.2 n rfl).1
  have e9 : Value.ref H.size = cv X (.ref n) := by
    show Value.ref H.size = Value.ref (xad X n)
    rw [hz, xad, if_pos (hW.2.2 n rfl).2.1]
  rw [e9]
  exact kk p e s m args below meth c H1 locs ls R C hc hs (hW.push hn z1 o1 e1) ⟨Nat.le_trans hS.1 (by omega), fun x h1 h2 => (o1 x (Nat.lt_of_lt_of_le h1 hS.1)).trans (hS.2.1 x h1 h2), hS.2.2⟩ hL
theorem ev_newL {X : mX} {M : mMD} {f' : Option Nat} {n ce sl mc ms pc : Nat} {L st : List Value} {h : mH} {Q : mO → mH → Prop} {z : Int32} (k : Nat) (hd : decode (mBy M) pc = .ok (.newarray .long, 2)) (hw : Cond.arrayClass .long ∈ WL) (hz0 : ¬ z < 0) (hzk : z.toNatClampNeg = k) (hk9 : k ≤ 60000) (hn : n + 1 < 1000000) (hcells : ce + 1 ≤ mc) (hslots : sl + k ≤ ms) (kk : Ev X M (some (n + 1), f', ce + 1, sl + k, mc, ms) (pc + 2) L (.ref n :: st) (mset h n (aL k (fun _ => 0))) Q) : Ev X M (some n, f', ce, sl, mc, ms) pc L (.int z :: st) h Q := by
  intro p e s m args below meth c H locs ls R C hc hs hW hS hL
  have hK := C.2.2.2.2.2.2.2.2.2.2.2.1.2.1
  have h8 : componentBytes (newarray.typeOf .long) ≤ 8 := by decide
  have hby : k * componentBytes (newarray.typeOf .long) ≤ 536870912 := by
    have := Nat.mul_le_mul hk9 h8
    omega
  refine va_newaK (atype := .long) C.1 C.2.1 (C.2.2.2.2.2.1 _ hw) rfl hd rfl hz0 hzk hby (by rw [hc]; exact hcells) (by rw [hs]; exact hslots) rfl fun H1 cA e1 z1 o1 hAr hNm => ?_
  have hcA : cA = xK X 1 := Option.some.inj (hNm.symm.trans (hK.2 1 _ rfl).2)
  subst hcA
  have hz := (hW.2.2 n rfl).1
  have e9 : Value.ref H.size = cv X (.ref n) := by
    show Value.ref H.size = Value.ref (xad X n)
    rw [hz, xad, if_pos (hW.2.2 n rfl).2.1]
  rw [e9]
  exact kk p e s m args below meth c H1 locs ls R C hc hs (hW.push hn z1 o1 e1) ⟨Nat.le_trans hS.1 (by omega), fun x h1 h2 => (o1 x (Nat.lt_of_lt_of_le h1 hS.1)).trans (hS.2.1 x h1 h2), hS.2.2⟩ hL
theorem ev_anew {X : mX} {M : mMD} {f' : Option Nat} {n ce sl mc ms pc : Nat} {L st : List Value} {h : mH} {Q : mO → mH → Prop} {idx : Nat} {z : Int32} (t k : Nat) (hd : decode (mBy M) pc = .ok (.anewarray idx, 3)) (ht : t = 2 ∨ t = 3) (hw : Cond.classLink (RN (mOwn M)) idx (kC t) ∈ WL) (hz0 : ¬ z < 0) (hzk : z.toNatClampNeg = k) (hk9 : k ≤ 60000) (hn : n + 1 < 1000000) (hcells : ce + 1 ≤ mc) (hslots : sl + k ≤ ms) (kk : Ev X M (some (n + 1), f', ce + 1, sl + k, mc, ms) (pc + 3) L (.ref n :: st) (mset h n (aR t k (fun _ => none))) Q) : Ev X M (some n, f', ce, sl, mc, ms) pc L (.int z :: st) h Q := by
  subst hzk
  intro p e s m args below meth c H locs ls R C hc hs hW hS hL
  have hF := C.2.2.2.2.2.2.2.2.2.2.2.1
  have hK := hF.2.1
  have hAO : va_AO (kC t) s := by
    rcases ht with rfl | rfl
    · exact hF.2.2.2.2.2.2.2.2.2.2.1
    · exact hF.2.2.2.2.2.2.2.2.2.2.2.1
  have htc : (xtys X)[t]? = some (xK X t, .object (kC t)) := by rcases ht with rfl | rfl <;> rfl
  refine W.anew C.1 C.2.1 C.2.2.2.2.1 (C.2.2.2.2.2.1 _ hw) (va_AO.use hAO) rfl hd rfl hz0 (by omega) (by rw [hc]; exact hcells) (by rw [hs]; exact hslots) fun cA kA comp f1 f2 f3 f4 => ?_
  generalize hH1 : H.push ({ cls := cA, slots := Array.replicate z.toNatClampNeg .null, vm := .none } : Cell) = H1
  have z1 : H1.size = H.size + 1 := by rw [← hH1, Array.size_push]
  have e1 : H1[H.size]? = some (arrV cA z.toNatClampNeg (fun _ => .null)) := by rw [← hH1, Array.getElem?_push_size, ← arrV_new]
  have o1 : ∀ q : Nat, q < H.size → H1[q]? = H[q]? := fun q hq => by rw [← hH1, Array.getElem?_push, if_neg (Nat.ne_of_lt hq)]
  obtain ⟨kA2, comp2, -, -, -, k4⟩ := (hK.2 t _ htc).2
  have hcA : cA = xK X t := Option.some.inj (f1.symm.trans k4)
  subst hcA
  have hz := (hW.2.2 n rfl).1
  have e9 : Value.ref H.size = cv X (.ref n) := by
    show Value.ref H.size = Value.ref (xad X n)
    rw [hz, xad, if_pos (hW.2.2 n rfl).2.1]
  rw [e9]
  exact kk p e s m args below meth c H1 locs ls R C hc hs (hW.push hn z1 o1 (show H1[H.size]? = some (vp_cell _ _) from by rw [vp_cell_q]; exact e1)) ⟨Nat.le_trans hS.1 (by omega), fun x h1 h2 => (o1 x (Nat.lt_of_lt_of_le h1 hS.1)).trans (hS.2.1 x h1 h2), hS.2.2⟩ hL
theorem ev_objInit {X : mX} {M : mMD} {B : mB} {pc : Nat} {L st : List Value} {h : mH} {Q : mO → mH → Prop} {idx a : Nat} {e0 : mAc} (hd : decode (mBy M) pc = .ok (.invokespecial idx, 3)) (hl : Cond.methodLink (RN (mOwn M)) idx Lib.objectInit ∈ WL) (hi : Cond.instanceMethod Lib.objectInit ∈ WL) (hcd : Cond.code Lib.objectInit ⟨#[0xb1]⟩ 1 none ∈ WL) (hfr : 1 ≤ mFr M) (hlo : (st.map fun v => v.category).sum + 12 ≤ mLo M) (ha : h a = some e0) (kk : Ev X M B (pc + 3) L st h Q) : Ev X M B pc L (.ref a :: st) h Q := by
  intro p e s m args below meth c H locs ls R C hc hs hW hS hL
  show W _ _ _ _ _ _ _ _ _ _ _ _ _ _ _ (F0 m pc ls (.ref (xad X a) :: st.map (cv X)))
  have hK := kk p e s m args below meth c H locs ls R C hc hs hW hS hL
  obtain ⟨-, -, -, hml, hown, hw, -, -, -, hRf, hRl, -, -⟩ := id C
  exact W.objInit C.1 C.2.1 hown (hw _ hl) (hw _ hi) (hw _ hcd) rfl (by rw [hml]; exact hL.1) rfl hd (by rw [hRf]; exact hfr) (by rw [hRl]; show 2 * 0 + _ + 12 ≤ _; rw [cv_cats]; omega) hK
end
section
theorem mPc_blind (X : mX) (f : Option Nat) (as : List Value) (h : mH) : FrameBlind (mPc X f as h) := by
  intro a U g mk q
  obtain ⟨q0, q1, q2⟩ := q
  exact ⟨q0, q1, q2.go (U := U.calling g mk a) (State.WarmedH.refl U) (fun _ _ _ => rfl)⟩
/-- behind a call -/
theorem run_to {X : mX} {p : Program} {e : Env} {R : Room} {s : State} {m : MethodId} {args : Array Value} {below : List Frame} {meth : Method} {c : Code} {H : Heap} {locs : List Loc} {ce sl mc1 ms1 pc : Nat} {ls : Array Slot} {st0 rest : List Value} {a : Array Value} {Q1 : mO → mH → Prop} {f1 : Option Nat} {Z : State → Prop}
    (hr : vx_Run p (xl X) e R s m args below meth c H locs ce sl mc1 ms1 (F0 m pc ls st0) rest (Qcv X Q1 f1 a) (Qxv X Q1) (xA X)) (hS : va_S (xA X) s.heap H locs)
    (kk : ∀ (v : Option Value) (h1 : mH) (H1 : Heap) (locs1 : List Loc), Q1 (.inl v) h1 → Wd X h1 f1 H1 → va_S (xA X) s.heap H1 locs1 → W p (xl X) e R s m args below meth c H1 locs1 (ce + mc1) (sl + ms1) Z (F0 m (pc + 3) ls ((v.map (cv X)).toList ++ rest)))
    (kx : ∀ (k : Nat) (h1 : mH) (H1 : Heap) (locs1 : List Loc) (q : Addr) (cl : Cell), k < 3 → Q1 (.inr k) h1 → Wd X h1 none H1 → va_S (xA X) s.heap H1 locs1 → H1[q]? = some cl → cl.vm = .none → s.vm.findClass (exn k) = some cl.cls → vx_W p (xl X) e R s m args below meth c H1 locs1 (ce + mc1) (sl + ms1) Z (F0 m pc ls rest) q) :
    W p (xl X) e R s m args below meth c H locs ce sl Z (F0 m pc ls st0) := by
  intro T hT Y
  rcases hr T hT Y with ⟨v, st₀, t, T', L, h0, X', hL, e1, e2, ⟨v1, h1, hv, hq, hw, hF⟩, st⟩ | ⟨q, st₀, t, T', L, E, cl, h0, X', hL, e1, e2, ⟨k, h1, hk, hE, hq, hw, hF⟩, hce, hcv, hcl, st⟩
  · have hv2 : v = v1.map (cv X) := by cases hv; rfl
    subst hv2
    obtain ⟨k1, k2, k3⟩ := vx_keep h0 e1 hS (fun _ _ z => z) (fun _ z => z) hL hF
    obtain ⟨t2, a1, b1⟩ := kk v1 h1 T'.heap (locs ++ L) hq (by rw [e1]; exact hw) k3 T' rfl X'
    exact ⟨t2, st t2 a1, b1⟩
  · subst hE
    obtain ⟨k1, k2, k3⟩ := vx_keep h0 e1 hS (fun _ _ z => z) (fun _ z => z) hL hF
    obtain ⟨t2, a1, b1⟩ := kx k h1 T'.heap (locs ++ L) q cl hk hq (by rw [e1]; exact hw) k3 (by rw [e1]; exact hce) hcv hcl T' rfl X'
    exact ⟨t2, st.trans a1, b1⟩
/-- what a method's callers need of it: static or not, its class, its parameters -/
def CalI (M : mMD) (n : Nat) : Prop := (Cond.instanceMethod (mNm M) ∈ WL ∧ Cond.selects (mNm M).cls (mNm M) (mNm M) ∈ WL ∧ Cond.initialized (mNm M).cls ∈ WL ∧ Cond.code (mNm M) (mBy M) (mML M) (mRt M) ∈ WL) ∧ (mNm M).cls = RN (mOwn M) ∧ mOwn M < 7 ∧ ((mNm M).cls ≠ "java/lang/invoke/MethodHandle" ∧ (mNm M).cls ≠ "java/lang/invoke/VarHandle" ∧ (parseMethodDescriptor (mNm M).desc).map (fun d => d.parameters.length) = some n)
def CalS (M : mMD) (n : Nat) : Prop := (Cond.static (mNm M) ∈ WL ∧ Cond.initialized (mNm M).cls ∈ WL ∧ Cond.code (mNm M) (mBy M) (mML M) (mRt M) ∈ WL) ∧ ((mNm M).cls ≠ "java/lang/invoke/MethodHandle" ∧ (mNm M).cls ≠ "java/lang/invoke/VarHandle" ∧ (parseMethodDescriptor (mNm M).desc).map (fun d => d.parameters.length) = some n)
def CalC (M : mMD) (n : Nat) : Prop := (Cond.instanceMethod (mNm M) ∈ WL ∧ Cond.initialized (mNm M).cls ∈ WL ∧ Cond.code (mNm M) (mBy M) (mML M) none ∈ WL) ∧ mRt M = none ∧ (mNm M).name = "<init>" ∧ ((mNm M).cls ≠ "java/lang/invoke/MethodHandle" ∧ (mNm M).cls ≠ "java/lang/invoke/VarHandle" ∧ (parseMethodDescriptor (mNm M).desc).map (fun d => d.parameters.length) = some n)
def CalH (M : mMD) (n : Nat) : Prop := (Cond.static (mNm M) ∈ WL ∧ Cond.initialized (mNm M).cls ∈ WL ∧ Cond.codeWith (mNm M) (mBy M) (mML M) (mRt M) (mHH M) ∈ WL) ∧ ((mNm M).cls ≠ "java/lang/invoke/MethodHandle" ∧ (mNm M).cls ≠ "java/lang/invoke/VarHandle" ∧ (parseMethodDescriptor (mNm M).desc).map (fun d => d.parameters.length) = some n)
/-- the callee's frames and words fit -/
def Fits (M M' : mMD) : Prop := mFr M' + 1 ≤ mFr M ∧ 8 + (mML M' + 11) + mLo M' ≤ mLo M
theorem WL_to {w : Cond} (h : w ∈ WL) : w ∈ WL ∧ ((w.onTables && w.keeps) = true ∨ ∃ ty, w = .arrayClass ty) := ⟨h, (WL_good w h).2⟩
theorem WL_code {M : mMD} (h : Cond.code (mNm M) (mBy M) (mML M) (mRt M) ∈ WL) : GoodIn WL (wsM M) := fun w hw => (List.mem_cons.mp hw).elim (fun q => by rw [q]; exact WL_to h) (fun q => WL_to q)
theorem WL_codeH {M : mMD} (h : Cond.codeWith (mNm M) (mBy M) (mML M) (mRt M) (mHH M) ∈ WL) : GoodIn WL (wsH M) := fun w hw => (List.mem_cons.mp hw).elim (fun q => by rw [q]; exact WL_to h) (fun q => WL_to q)
/-- what stays of an exception that this method doesn't catch -/
theorem out_to {X : mX} {M : mMD} {p : Program} {e : Env} {R : Room} {s : State} {m : MethodId} {args : Array Value} {below : List Frame} {meth : Method} {c : Code} (C : Cx X M R p s m args meth c) (hh : mHH M = []) {Q : mO → mH → Prop} {f' : Option Nat} {ce sl mc ms pc : Nat} {ls : Array Slot} {rest : List Value} (k : Nat) (h1 : mH) (H1 : Heap) (locs1 : List Loc) (q : Addr) (cl : Cell) (hk : k < 3) (hq : Q (.inr k) h1) (hw : Wd X h1 none H1) (hS : va_S (xA X) s.heap H1 locs1) (h1c : H1[q]? = some cl) (hv : cl.vm = .none) (hcl : s.vm.findClass (exn k) = some cl.cls) (hce : ce ≤ mc) (hsl : sl ≤ ms) :
    vx_W p (xl X) e R s m args below meth c H1 locs1 ce sl (vx_MQ below (Qcv X Q f') (Qxv X Q) args s mc ms (xA X)) (F0 m pc ls rest) q := by
  refine vx_out (fun x hx => ?_) C.2.2.2.2.2.2.1 h1c hv hcl (fun t ht _ => ⟨k, h1, hk, rfl, hq, by rw [ht]; exact hw, hS.F ht⟩) hS.2.2 hce hsl
  have he := C.2.2.2.2.2.2.2.2.1
  rw [hh, List.map_eq_nil_iff] at he
  rw [he] at hx
  cases hx
theorem ev_callV {X : mX} {M M' : mMD} {f f' f1 : Option Nat} {ce sl mc ms mc1 ms1 pc : Nat} {L st : List Value} {h : mH} {Q Q1 : mO → mH → Prop} {idx n b : Nat} {as fs : List Value} (hd : decode (mBy M) pc = .ok (.invokevirtual idx, 3)) (hcal : CalI M' n) (hl : Cond.methodLink (RN (mOwn M)) idx (mNm M') ∈ WL) (hfit : Fits M M') (hh : mHH M = []) (hb : h b = some (aO (mOwn M') fs)) (hn : as.length = n) (hst : (st.map fun v => v.category).sum ≤ 8) (hm : Cn X M' f f1 mc1 ms1 (.ref b :: as) h Q1) (hce : ce + mc1 ≤ mc) (hsl : sl + ms1 ≤ ms) (kk : ∀ (v : Option Value) (h1 : mH), Q1 (.inl v) h1 → Ev X M (f1, f', ce + mc1, sl + ms1, mc, ms) (pc + 3) L (v.toList ++ st) h1 Q) (kx : ∀ (k : Nat) (h1 : mH), Q1 (.inr k) h1 → Q (.inr k) h1) : Ev X M (f, f', ce, sl, mc, ms) pc L (as.reverse ++ .ref b :: st) h Q := by
  intro p e s m args below meth c H locs ls R C hc hs hW hS hL
  obtain ⟨⟨c1, c2, c3, c4⟩, c5, c6, c7⟩ := hcal
  have hts := C.2.2.2.2.2.1
  have hF := C.2.2.2.2.2.2.2.2.2.2.2.1
  have hr : vx_Run p (xl X) e R s m args below meth c H locs ce sl mc1 ms1 (F0 m pc ls ((as.reverse ++ .ref b :: st).map (cv X))) (st.map (cv X)) (Qcv X Q1 f1 (Value.ref (xad X b) :: as.map (cv X)).toArray) (Qxv X Q1) (xA X) :=
    vx_runV (C := (mNm M').cls) (own := RN (mOwn M)) (bytes := mBy M') (maxL := mML M') (ret := mRt M') (n := n) (index := idx) (Ts := WL) (ws := wsM M') (rm := mRm M' mc1 ms1) ⟨C.1, C.2.1, C.2.2.2.1, C.2.2.2.2.1, hts⟩ hm
      (cwV n hts (fun w hw => by
        rcases List.mem_append.mp hw with q | q
        · rcases List.mem_cons.mp q with rfl | q
          · exact WL_to hl
          · rcases List.mem_cons.mp q with rfl | q
            · exact WL_to c1
            · rcases List.mem_cons.mp q with rfl | q
              · exact WL_to c2
              · rcases List.mem_cons.mp q with rfl | q
                · exact WL_to c3
                · cases q
        · exact WL_code c4 w q) rfl rfl rfl ⟨rfl, c7⟩ (by rw [C.2.2.2.2.2.2.2.2.2.1, C.2.2.2.2.2.2.2.2.2.2.1]; exact hfit))
      ⟨mPc_blind X f _ h, by rw [c5, xad_lo hW hb]; exact va_recv hF.2.1 (hW.one hb) (cl_at c6) (q0 := 0) rfl, fun U hU hWU => ⟨rfl, by rw [hU]; exact hW, by rw [hU]; exact hF.go hWU hS.2.1⟩⟩ rfl (by rw [List.length_map]; exact hn) hL.1 (by show List.map (cv X) (as.reverse ++ .ref b :: st) = _; rw [List.map_append, List.map_reverse]; rfl) (by show 2 * 0 + _ ≤ 8; rw [cv_cats]; omega) hd ⟨by rw [hc]; exact hce, by rw [hs]; exact hsl⟩
  refine run_to hr hS (fun v h1 H1 locs1 hq hw hS1 => ?_) (fun k h1 H1 locs1 q cl hk hq hw hS1 h1c hv hcl => out_to C hh k h1 H1 locs1 q cl hk (kx k h1 hq) hw hS1 h1c hv hcl hce hsl)
  have K := kk v h1 hq p e s m args below meth c H1 locs1 ls R C hc hs hw hS1 hL
  rw [List.map_append, show v.toList.map (cv X) = (v.map (cv X)).toList from by cases v <;> rfl] at K
  exact K
theorem ev_callS {X : mX} {M M' : mMD} {f f' f1 : Option Nat} {ce sl mc ms mc1 ms1 pc : Nat} {L st : List Value} {h : mH} {Q Q1 : mO → mH → Prop} {idx n : Nat} {as : List Value} (hd : decode (mBy M) pc = .ok (.invokestatic idx, 3)) (hcal : CalS M' n) (hl : Cond.methodLink (RN (mOwn M)) idx (mNm M') ∈ WL) (hfit : Fits M M') (hh : mHH M = []) (hn : as.length = n) (hst : (st.map fun v => v.category).sum ≤ 8) (hm : Cn X M' f f1 mc1 ms1 as h Q1) (hce : ce + mc1 ≤ mc) (hsl : sl + ms1 ≤ ms) (kk : ∀ (v : Option Value) (h1 : mH), Q1 (.inl v) h1 → Ev X M (f1, f', ce + mc1, sl + ms1, mc, ms) (pc + 3) L (v.toList ++ st) h1 Q) (kx : ∀ (k : Nat) (h1 : mH), Q1 (.inr k) h1 → Q (.inr k) h1) : Ev X M (f, f', ce, sl, mc, ms) pc L (as.reverse ++ st) h Q := by
  intro p e s m args below meth c H locs ls R C hc hs hW hS hL
  obtain ⟨⟨c1, c3, c4⟩, c7⟩ := hcal
  have hts := C.2.2.2.2.2.1
  have hF := C.2.2.2.2.2.2.2.2.2.2.2.1
  have hr : vx_Run p (xl X) e R s m args below meth c H locs ce sl mc1 ms1 (F0 m pc ls ((as.reverse ++ st).map (cv X))) (st.map (cv X)) (Qcv X Q1 f1 (as.map (cv X)).toArray) (Qxv X Q1) (xA X) :=
    vx_runS (own := RN (mOwn M)) (bytes := mBy M') (maxL := mML M') (ret := mRt M') (n := n) (index := idx) (Ts := WL) (ws := wsM M') (rm := mRm M' mc1 ms1) ⟨C.1, C.2.1, C.2.2.2.1, C.2.2.2.2.1, hts⟩ hm
      (va_cwS n hts (fun w hw => by
        rcases List.mem_append.mp hw with q | q
        · rcases List.mem_cons.mp q with rfl | q
          · exact WL_to hl
          · rcases List.mem_cons.mp q with rfl | q
            · exact WL_to c1
            · rcases List.mem_cons.mp q with rfl | q
              · exact WL_to c3
              · cases q
        · exact WL_code c4 w q) rfl rfl rfl c7 (by rw [C.2.2.2.2.2.2.2.2.2.1, C.2.2.2.2.2.2.2.2.2.2.1]; exact hfit))
      ⟨mPc_blind X f _ h, fun U hU hWU => ⟨rfl, by rw [hU]; exact hW, by rw [hU]; exact hF.go hWU hS.2.1⟩⟩ rfl (by rw [List.length_map]; exact hn) hL.1 (by show List.map (cv X) (as.reverse ++ st) = _; rw [List.map_append, List.map_reverse]) (by show 2 * 0 + _ ≤ 8; rw [cv_cats]; omega) hd ⟨by rw [hc]; exact hce, by rw [hs]; exact hsl⟩
  refine run_to hr hS (fun v h1 H1 locs1 hq hw hS1 => ?_) (fun k h1 H1 locs1 q cl hk hq hw hS1 h1c hv hcl => out_to C hh k h1 H1 locs1 q cl hk (kx k h1 hq) hw hS1 h1c hv hcl hce hsl)
  have K := kk v h1 hq p e s m args below meth c H1 locs1 ls R C hc hs hw hS1 hL
  rw [List.map_append, show v.toList.map (cv X) = (v.map (cv X)).toList from by cases v <;> rfl] at K
  exact K
theorem ev_callH {X : mX} {M M' : mMD} {f f' f1 : Option Nat} {ce sl mc ms mc1 ms1 pc : Nat} {L st : List Value} {h : mH} {Q Q1 : mO → mH → Prop} {idx n : Nat} {as : List Value} (hd : decode (mBy M) pc = .ok (.invokestatic idx, 3)) (hcal : CalH M' n) (hl : Cond.methodLink (RN (mOwn M)) idx (mNm M') ∈ WL) (hfit : Fits M M') (hh : mHH M = []) (hn : as.length = n) (hst : (st.map fun v => v.category).sum ≤ 8) (hm : CnH X M' f f1 mc1 ms1 as h Q1) (hce : ce + mc1 ≤ mc) (hsl : sl + ms1 ≤ ms) (kk : ∀ (v : Option Value) (h1 : mH), Q1 (.inl v) h1 → Ev X M (f1, f', ce + mc1, sl + ms1, mc, ms) (pc + 3) L (v.toList ++ st) h1 Q) (kx : ∀ (k : Nat) (h1 : mH), Q1 (.inr k) h1 → Q (.inr k) h1) : Ev X M (f, f', ce, sl, mc, ms) pc L (as.reverse ++ st) h Q := by
  intro p e s m args below meth c H locs ls R C hc hs hW hS hL
  obtain ⟨⟨c1, c3, c4⟩, c7⟩ := hcal
  have hts := C.2.2.2.2.2.1
  have hF := C.2.2.2.2.2.2.2.2.2.2.2.1
  have hr : vx_Run p (xl X) e R s m args below meth c H locs ce sl mc1 ms1 (F0 m pc ls ((as.reverse ++ st).map (cv X))) (st.map (cv X)) (Qcv X Q1 f1 (as.map (cv X)).toArray) (Qxv X Q1) (xA X) :=
    vx_runSX (hh := mHH M') (own := RN (mOwn M)) (bytes := mBy M') (maxL := mML M') (ret := mRt M') (n := n) (index := idx) (Ts := WL) (ws := wsH M') (rm := mRm M' mc1 ms1) ⟨C.1, C.2.1, C.2.2.2.1, C.2.2.2.2.1, hts⟩ hm
      (vx_cwSW n hts (fun w hw => by
        rcases List.mem_append.mp hw with q | q
        · rcases List.mem_cons.mp q with rfl | q
          · exact WL_to hl
          · rcases List.mem_cons.mp q with rfl | q
            · exact WL_to c1
            · rcases List.mem_cons.mp q with rfl | q
              · exact WL_to c3
              · cases q
        · exact WL_codeH c4 w q) rfl rfl rfl c7 (by rw [C.2.2.2.2.2.2.2.2.2.1, C.2.2.2.2.2.2.2.2.2.2.1]; exact hfit))
      ⟨mPc_blind X f _ h, fun U hU hWU => ⟨rfl, by rw [hU]; exact hW, by rw [hU]; exact hF.go hWU hS.2.1⟩⟩ rfl (by rw [List.length_map]; exact hn) hL.1 (by show List.map (cv X) (as.reverse ++ st) = _; rw [List.map_append, List.map_reverse]) (by show 2 * 0 + _ ≤ 8; rw [cv_cats]; omega) hd ⟨by rw [hc]; exact hce, by rw [hs]; exact hsl⟩
  refine run_to hr hS (fun v h1 H1 locs1 hq hw hS1 => ?_) (fun k h1 H1 locs1 q cl hk hq hw hS1 h1c hv hcl => out_to C hh k h1 H1 locs1 q cl hk (kx k h1 hq) hw hS1 h1c hv hcl hce hsl)
  have K := kk v h1 hq p e s m args below meth c H1 locs1 ls R C hc hs hw hS1 hL
  rw [List.map_append, show v.toList.map (cv X) = (v.map (cv X)).toList from by cases v <;> rfl] at K
  exact K
theorem ev_callI {X : mX} {M M' : mMD} {f f' f1 : Option Nat} {ce sl mc ms mc1 ms1 pc : Nat} {L st : List Value} {h : mH} {Q Q1 : mO → mH → Prop} {idx n b : Nat} {as : List Value} (hd : decode (mBy M) pc = .ok (.invokespecial idx, 3)) (hcal : CalC M' n) (hl : Cond.methodLink (RN (mOwn M)) idx (mNm M') ∈ WL) (hfit : Fits M M') (hh : mHH M = []) (hn : as.length = n) (hst : (st.map fun v => v.category).sum ≤ 8) (hm : Cn X M' f f1 mc1 ms1 (.ref b :: as) h Q1) (hce : ce + mc1 ≤ mc) (hsl : sl + ms1 ≤ ms) (kk : ∀ (v : Option Value) (h1 : mH), Q1 (.inl v) h1 → Ev X M (f1, f', ce + mc1, sl + ms1, mc, ms) (pc + 3) L (v.toList ++ st) h1 Q) (kx : ∀ (k : Nat) (h1 : mH), Q1 (.inr k) h1 → Q (.inr k) h1) : Ev X M (f, f', ce, sl, mc, ms) pc L (as.reverse ++ .ref b :: st) h Q := by
  intro p e s m args below meth c H locs ls R C hc hs hW hS hL
  obtain ⟨⟨c1, c3, c4⟩, c5, c6, c7⟩ := hcal
  have c4' := c4
  rw [← c5] at c4'
  have hts := C.2.2.2.2.2.1
  have hF := C.2.2.2.2.2.2.2.2.2.2.2.1
  have hr : vx_Run p (xl X) e R s m args below meth c H locs ce sl mc1 ms1 (F0 m pc ls ((as.reverse ++ .ref b :: st).map (cv X))) (st.map (cv X)) (Qcv X Q1 f1 (Value.ref (xad X b) :: as.map (cv X)).toArray) (Qxv X Q1) (xA X) :=
    vx_runI (own := RN (mOwn M)) (bytes := mBy M') (maxL := mML M') (n := n) (index := idx) (Ts := WL) (ws := wsM M') (rm := mRm M' mc1 ms1) ⟨C.1, C.2.1, C.2.2.2.1, C.2.2.2.2.1, hts⟩ hm
      (cwI (ws' := WL) n hts (WL_code c4') (by rw [wsM, c5]) rfl rfl (hts _ c3) (hts _ hl) (hts _ c1) c6 c7 (by rw [C.2.2.2.2.2.2.2.2.2.1, C.2.2.2.2.2.2.2.2.2.2.1]; exact hfit))
      ⟨mPc_blind X f _ h, fun U hU hWU => ⟨rfl, by rw [hU]; exact hW, by rw [hU]; exact hF.go hWU hS.2.1⟩⟩ rfl (by rw [List.length_map]; exact hn) hL.1 (by show List.map (cv X) (as.reverse ++ .ref b :: st) = _; rw [List.map_append, List.map_reverse]; rfl) (by show 2 * 0 + _ ≤ 8; rw [cv_cats]; omega) hd ⟨by rw [hc]; exact hce, by rw [hs]; exact hsl⟩
  refine run_to hr hS (fun v h1 H1 locs1 hq hw hS1 => ?_) (fun k h1 H1 locs1 q cl hk hq hw hS1 h1c hv hcl => out_to C hh k h1 H1 locs1 q cl hk (kx k h1 hq) hw hS1 h1c hv hcl hce hsl)
  have K := kk v h1 hq p e s m args below meth c H1 locs1 ls R C hc hs hw hS1 hL
  rw [List.map_append, show v.toList.map (cv X) = (v.map (cv X)).toList from by cases v <;> rfl] at K
  exact K
theorem ent_lv (X : mX) (as : List Value) : ∀ (i0 : Nat) (i : Nat) (v : Value), (entA as)[i]? = some v → v ≠ jk → (i0 + i, cv X v) ∈ lv_args i0 (as.map (cv X)) := by
  induction as with
  | nil => intro i0 i v h; simp [entA] at h
  | cons a as ih =>
    intro i0 i v h hv
    have one : (cv X a).category = 1 → entA (a :: as) = a :: entA as → (i0 + i, cv X v) ∈ lv_args i0 ((a :: as).map (cv X)) := by
      intro hc e
      rw [e] at h
      show _ ∈ (i0, cv X a) :: lv_args (if (cv X a).category = 2 then i0 + 2 else i0 + 1) (as.map (cv X))
      rw [if_neg (by omega)]
      cases i with
      | zero => cases h; exact List.mem_cons_self
      | succ i => exact List.mem_cons_of_mem _ (by have := ih (i0 + 1) i v h hv; rwa [show i0 + 1 + i = i0 + (i + 1) by omega] at this)
    have two : (cv X a).category = 2 → entA (a :: as) = a :: jk :: entA as → (i0 + i, cv X v) ∈ lv_args i0 ((a :: as).map (cv X)) := by
      intro hc e
      rw [e] at h
      show _ ∈ (i0, cv X a) :: lv_args (if (cv X a).category = 2 then i0 + 2 else i0 + 1) (as.map (cv X))
      rw [if_pos hc]
      cases i with
      | zero => cases h; exact List.mem_cons_self
      | succ i =>
        cases i with
        | zero => cases h; exact absurd rfl hv
        | succ i => exact List.mem_cons_of_mem _ (by have := ih (i0 + 2) i v h hv; rwa [show i0 + 2 + i = i0 + (i + 1 + 1) by omega] at this)
    cases a <;> first | exact two rfl rfl | exact one rfl rfl
theorem ent_len (X : mX) (as : List Value) : (lg_sl (as.map (cv X))).length = (entA as).length := by
  induction as with
  | nil => rfl
  | cons a as ih =>
    show (lg_sl (cv X a :: as.map (cv X))).length = _
    unfold lg_sl at ih ⊢
    rw [List.flatMap_cons, List.length_append, ih]
    cases a <;> simp [cv, Value.category, entA] <;> omega
theorem ent_LR (X : mX) (as : List Value) {n : Nat} (h : (entA as).length ≤ n) : LR X (ent as n) ((lg_sl (as.map (cv X)) ++ List.replicate (n - (lg_sl (as.map (cv X))).length) Slot.unset).toArray) n := by
  have e := lv_entry (as.map (cv X)) (n := n) (by rw [ent_len]; exact h)
  refine ⟨e.1, by simp [ent]; omega, e.2.1, fun i v hi hv => ?_⟩
  refine e.2.2 (i, cv X v) ?_
  unfold ent at hi
  by_cases hl : i < (entA as).length
  · rw [List.getElem?_append_left hl] at hi
    have := ent_lv X as 0 i v hi hv
    rwa [Nat.zero_add] at this
  · rw [List.getElem?_append_right (by omega)] at hi
    have := List.mem_of_getElem? hi
    rw [List.mem_replicate] at this
    exact absurd this.2 hv
theorem cn_of_ev {X : mX} {M : mMD} {f f' : Option Nat} {mc ms : Nat} {as L0 : List Value} {h : mH} {Q : mO → mH → Prop} (hy : plainName (mNm M).cls = true) (hcls : (mNm M).cls = RN (mOwn M)) (hh : mHH M = []) (hlen : (entA as).length ≤ mML M) (hL0 : ent as (mML M) = L0) (k : Ev X M (f, f', 0, 0, mc, ms) 0 L0 [] h Q) : Cn X M f f' mc ms as h Q := by
  subst hL0
  refine vx_ofW (cc := mBy M) (maxL := mML M) (ret := mRt M) (ws' := WL) hy rfl ?_
  intro p e s m args below meth c s₁ Bd hml htab hv
  obtain ⟨rfl, hW, hF⟩ := hv
  have hts := atoms_spec (ws := wsM M) Bd.pre
  have hown : s.vm.findClass (mNm M).cls = some m.cls := findClass_of_methodNamed Bd.named
  rw [hcls] at hown
  rw [lg_entry_eq]
  refine k p e s m (as.map (cv X)).toArray below meth c s.heap [] _ _ ⟨Bd.exec, Bd.bytes, Bd.returns, hml, hown, fun w hw => hts w (List.mem_cons_of_mem _ hw), Bd.notSynchronized, (name_of_methodNamed Bd.named Bd.method).1, ?_, rfl, rfl, hF, hW.2.1⟩ rfl rfl hW va_S.rf (ent_LR X as hlen)
  rw [hh, List.map_eq_nil_iff]
  exact List.eq_nil_iff_forall_not_mem.mpr htab
theorem cnH_of_ev {X : mX} {M : mMD} {f f' : Option Nat} {mc ms : Nat} {as L0 : List Value} {h : mH} {Q : mO → mH → Prop} (hy : plainName (mNm M).cls = true) (hcls : (mNm M).cls = RN (mOwn M)) (hlen : (entA as).length ≤ mML M) (hL0 : ent as (mML M) = L0) (k : Ev X M (f, f', 0, 0, mc, ms) 0 L0 [] h Q) : CnH X M f f' mc ms as h Q := by
  subst hL0
  refine vx_ofWH (cc := mBy M) (maxL := mML M) (ret := mRt M) (hh := mHH M) (ws' := WL) hy rfl ?_
  intro p e s m args below meth c s₁ Bd hml hv
  obtain ⟨rfl, hW, hF⟩ := hv
  have hts := atoms_spec (ws := wsH M) Bd.pre
  have hown : s.vm.findClass (mNm M).cls = some m.cls := findClass_of_methodNamed Bd.named
  rw [hcls] at hown
  obtain ⟨m9, meth9, c9, hn9, hm9, hc9, -, -, hx9, -, -, -⟩ := Cond.codeWith_spec (hts (.codeWith (mNm M) (mBy M) (mML M) (mRt M) (mHH M)) List.mem_cons_self)
  have hm : m9 = m := by
    have h1 := Bd.named
    rw [hn9] at h1
    exact Option.some.inj h1
  subst hm
  have hmm : meth9 = meth := Option.some.inj (hm9.symm.trans Bd.method)
  subst hmm
  have hcc : c9 = c := Option.some.inj (hc9.symm.trans (Stand.of_body Bd).code)
  subst hcc
  rw [lg_entry_eq]
  exact k p e s m9 (as.map (cv X)).toArray below meth9 c9 s.heap [] _ _ ⟨Bd.exec, Bd.bytes, Bd.returns, hml, hown, fun w hw => hts w (List.mem_cons_of_mem _ hw), Bd.notSynchronized, (name_of_methodNamed Bd.named Bd.method).1, hx9, rfl, rfl, hF, hW.2.1⟩ rfl rfl hW va_S.rf (ent_LR X as hlen)
end
section
theorem Wd.keep {X : mX} {h : mH} {f : Option Nat} {H H1 : Heap} (w : Wd X h f H) (hz : H.size ≤ H1.size) (hq : ∀ q, q < H.size → H1[q]? = H[q]?) : Wd X h none H1 := by
  refine ⟨fun a e ha => ?_, Nat.le_trans w.2.1 hz, fun n hn => by cases hn⟩
  obtain ⟨k1, k2⟩ := w.1 a e ha
  exact ⟨k1, va_at.kept k2 (hq _ k2.lt)⟩
def exIk : Nat → Nat := fun k => match k with
  | 0 => 78
  | 1 => 102
  | _ => 89
def exIc : Nat → Nat := fun k => match k with
  | 0 => 82
  | 1 => 106
  | _ => 93
abbrev exUp : List String := ["java/lang/RuntimeException", "java/lang/Exception"]
theorem lt3 {P : Nat → Prop} (h0 : P 0) (h1 : P 1) (h2 : P 2) {k : Nat} (hk : k < 3) : P k := by
  match k, hk with
  | 0, _ => exact h0
  | 1, _ => exact h1
  | 2, _ => exact h2
theorem ex_link {k : Nat} (hk : k < 3) : Cond.classLink RX6 (exIk k) (exn k) ∈ WL ∧ Cond.initialized (exn k) ∈ WL := by
  have key : ∀ w : Cond, w ∈ lw_tbl → goodWord w = true → w ∈ WL := fun w h g => List.mem_filter.mpr ⟨h, g⟩
  exact lt3 (P := fun k => Cond.classLink RX6 (exIk k) (exn k) ∈ WL ∧ Cond.initialized (exn k) ∈ WL) ⟨key _ (by decide +kernel) (by decide +kernel), key _ (by decide +kernel) (by decide +kernel)⟩ ⟨key _ (by decide +kernel) (by decide +kernel), key _ (by decide +kernel) (by decide +kernel)⟩ ⟨key _ (by decide +kernel) (by decide +kernel), key _ (by decide +kernel) (by decide +kernel)⟩ hk
theorem ex_words {k : Nat} (hk : k < 3) : ∀ w ∈ vx_atS RX6 (exIc k) (exn k) exUp, (w ∈ lw_tbl ∧ goodWord w = true) ∨ w = .castable (exn k) (exn k) ∨ ∃ n ∈ exDc, w = .declares (Bundle.initS n) :=
  lt3 (P := fun k => ∀ w ∈ vx_atS RX6 (exIc k) (exn k) exUp, (w ∈ lw_tbl ∧ goodWord w = true) ∨ w = .castable (exn k) (exn k) ∨ ∃ n ∈ exDc, w = .declares (Bundle.initS n)) (by decide +kernel) (by decide +kernel) (by decide +kernel) hk
theorem ex_good {k : Nat} (hk : k < 3) : ∀ w ∈ Cond.classLink RX6 (exIk k) (exn k) :: Cond.initialized (exn k) :: vx_atS RX6 (exIc k) (exn k) exUp, vx_ot w = true :=
  lt3 (P := fun k => ∀ w ∈ Cond.classLink RX6 (exIk k) (exn k) :: Cond.initialized (exn k) :: vx_atS RX6 (exIc k) (exn k) exUp, vx_ot w = true) (by decide +kernel) (by decide +kernel) (by decide +kernel) hk
theorem ex_fit {k : Nat} (hk : k < 3) : Bundle.fit (exn k) = true := lt3 (P := fun k => Bundle.fit (exn k) = true) (by decide +kernel) (by decide +kernel) (by decide +kernel) hk
theorem ex_up : ∀ n ∈ exUp, Bundle.fit n = true := by decide +kernel
theorem ev_throwS {X : mX} {M M' : mMD} {f f' f1 : Option Nat} {ce sl mc ms mc1 ms1 pc : Nat} {L st : List Value} {h : mH} {Q Q1 : mO → mH → Prop} {is : Nat} (k : Nat) (text : String) (hk : k < 3) (hown : mOwn M = 6) (hstr : (is, text) ∈ xstrs) (hh : mHH M = []) (hfr : 5 < mFr M) (hlo : (st.map fun v => v.category).sum + 82 ≤ mLo M)
    (d0 : decode (mBy M) pc = .ok (.new (exIk k), 3)) (d3 : decode (mBy M) (pc + 3) = .ok (.dup, 1)) (d4 : decode (mBy M) (pc + 4) = .ok (.ldc is, 2)) (d6 : decode (mBy M) (pc + 6) = .ok (.invokespecial (exIc k), 3)) (d9 : decode (mBy M) (pc + 9) = .ok (.athrow, 1))
    (hce : ce + 1 ≤ mc) (hsl : sl + 6 ≤ ms) (hq : Q (.inr k) h) : Ev X M (f, f', ce, sl, mc, ms) pc L st h Q := by
  intro p e s m args below meth c H locs ls R C hc hs hW hS hL
  obtain ⟨hx, hb, hr, hml, hown2, hw, hlk, hnm, htab, hRf, hRl, hF, hlo2⟩ := id C
  rw [hown] at hown2
  obtain ⟨sa, hsa⟩ := hF.2.2.2.2.2.1 _ hstr
  have hat : ∀ w ∈ vx_atS RX6 (exIc k) (exn k) exUp, w.before args s = true := by
    intro w hw2
    rcases ex_words hk w hw2 with ⟨q1, q2⟩ | rfl | ⟨n, hn, rfl⟩
    · exact hw _ (List.mem_filter.mpr ⟨q1, q2⟩)
    · exact va_Nw.use rfl (hF.2.2.1 k hk)
    · exact va_Nw.use rfl (hF.2.2.2.2.2.2.2.2.2.2.2.2.2.1 n hn)
  refine vx_throwS (names := exUp) (ik := exIk k) (is := is) (ic := exIc k) (sa := sa) (text := text) (A := xA X) hx hb hF.1 hown2 (ex_fit hk) ex_up (hw _ (ex_link hk).1) (hw _ (ex_link hk).2) hsa hat (ex_good hk) hF.2.2.2.2.2.2.1 hF.2.2.2.2.2.2.2.1 hS (hL.1.trans hml.symm) d0 d3 d4 d6 d9 ?_ (by rw [hRf]; exact hfr) (by rw [hRl, cv_cats]; exact hlo) (by rw [hc]; exact hce) (by rw [hs]; exact hsl) hlk (fun t hvm hz hq2 => ?_) hS.2.2 hce hsl
  · intro x hx2
    rw [hh, List.map_eq_nil_iff] at htab
    rw [htab] at hx2
    cases hx2
  · exact ⟨k, h, hk, rfl, hq, hW.keep hz hq2, Nat.le_trans hS.1 hz, fun q h1 h2 => (hq2 q (Nat.lt_of_lt_of_le h1 hS.1)).trans (hS.2.1 q h1 h2)⟩
theorem ev_throwSW {X : mX} {M M' : mMD} {f f' f1 : Option Nat} {ce sl mc ms mc1 ms1 pc : Nat} {L st : List Value} {h : mH} {Q Q1 : mO → mH → Prop} {is : Nat} (k : Nat) (text : String) (hk : k < 3) (hown : mOwn M = 6) (hstr : (is, text) ∈ xstrs) (hh : mHH M = []) (hfr : 5 < mFr M) (hlo : (st.map fun v => v.category).sum + 82 ≤ mLo M)
    (d0 : decode (mBy M) pc = .ok (.new (exIk k), 3)) (d3 : decode (mBy M) (pc + 3) = .ok (.dup, 1)) (d4 : decode (mBy M) (pc + 4) = .ok (.ldc_w is, 3)) (d6 : decode (mBy M) (pc + 7) = .ok (.invokespecial (exIc k), 3)) (d9 : decode (mBy M) (pc + 10) = .ok (.athrow, 1))
    (hce : ce + 1 ≤ mc) (hsl : sl + 6 ≤ ms) (hq : Q (.inr k) h) : Ev X M (f, f', ce, sl, mc, ms) pc L st h Q := by
  intro p e s m args below meth c H locs ls R C hc hs hW hS hL
  obtain ⟨hx, hb, hr, hml, hown2, hw, hlk, hnm, htab, hRf, hRl, hF, hlo2⟩ := id C
  rw [hown] at hown2
  obtain ⟨sa, hsa⟩ := hF.2.2.2.2.2.1 _ hstr
  have hat : ∀ w ∈ vx_atS RX6 (exIc k) (exn k) exUp, w.before args s = true := by
    intro w hw2
    rcases ex_words hk w hw2 with ⟨q1, q2⟩ | rfl | ⟨n, hn, rfl⟩
    · exact hw _ (List.mem_filter.mpr ⟨q1, q2⟩)
    · exact va_Nw.use rfl (hF.2.2.1 k hk)
    · exact va_Nw.use rfl (hF.2.2.2.2.2.2.2.2.2.2.2.2.2.1 n hn)
  refine vx_throwSW (names := exUp) (ik := exIk k) (is := is) (ic := exIc k) (sa := sa) (text := text) (A := xA X) hx hb hF.1 hown2 (ex_fit hk) ex_up (hw _ (ex_link hk).1) (hw _ (ex_link hk).2) hsa hat (ex_good hk) hF.2.2.2.2.2.2.1 hF.2.2.2.2.2.2.2.1 hS (hL.1.trans hml.symm) d0 d3 d4 d6 d9 ?_ (by rw [hRf]; exact hfr) (by rw [hRl, cv_cats]; exact hlo) (by rw [hc]; exact hce) (by rw [hs]; exact hsl) hlk (fun t hvm hz hq2 => ?_) hS.2.2 hce hsl
  · intro x hx2
    rw [hh, List.map_eq_nil_iff] at htab
    rw [htab] at hx2
    cases hx2
  · exact ⟨k, h, hk, rfl, hq, hW.keep hz hq2, Nat.le_trans hS.1 hz, fun q h1 h2 => (hq2 q (Nat.lt_of_lt_of_le h1 hS.1)).trans (hS.2.1 q h1 h2)⟩
theorem LR.stj {X : mX} {L : List Value} {ls ls' : Array Slot} {n i : Nat} {w : Value} (h : LR X L ls n) (hi : i < n) (h' : lv_has ls' n ((i, w) :: (lvl X L).filter (fun q => !(q.1 == i) && !(q.1 + 1 == i && q.2.category == 2)))) : LR X (stl L i jk) ls' n := by
  refine ⟨h'.1, by rw [stl_len]; exact h.2.1, h'.2.1, fun j v hj hv => ?_⟩
  refine h'.2.2 (j, cv X v) ?_
  rcases stl_get (by rw [h.2.1]; exact hi) hj hv with ⟨-, q⟩ | ⟨h1, h2, h3⟩
  · exact absurd q hv
  · refine List.mem_cons_of_mem _ (List.mem_filter.mpr ⟨lvl_mem.mpr ⟨v, h2, hv, rfl⟩, ?_⟩)
    simp only [cv_cat]
    by_cases h4 : j + 1 = i
    · have h5 : ¬ v.category = 2 := fun q => h3 ⟨h4, q⟩
      simp [h1, h5]
    · simp [h1, h4]
/-- the row of a table of handlers that takes exception k at pc; ahead of it rows of others -/
def Hnd (M : mMD) (pc k : Nat) (x : Nat × Nat × Nat × Nat) : Prop := k < 3 ∧ ∃ (pre suf : List (Nat × Nat × Nat × Nat)), mHH M = pre ++ x :: suf ∧ (∀ z ∈ pre, z.2.2.2 ≠ 0 ∧ ∃ j, j < 3 ∧ j ≠ k ∧ Cond.classLink (RN (mOwn M)) z.2.2.2 (exn j) ∈ WL) ∧ x.1 ≤ pc ∧ pc < x.2.1 ∧ x.2.2.2 ≠ 0 ∧ Cond.classLink (RN (mOwn M)) x.2.2.2 (exn k) ∈ WL
theorem catch_to {X : mX} {M : mMD} {p : Program} {e : Env} {R : Room} {s : State} {m : MethodId} {args : Array Value} {below : List Frame} {meth : Method} {c : Code} (C : Cx X M R p s m args meth c) {Z : State → Prop} {ce sl pc k : Nat} {ls : Array Slot} {rest : List Value} {x : Nat × Nat × Nat × Nat} {H1 : Heap} {locs1 : List Loc} {q : Addr} {cl : Cell} (hx : Hnd M pc k x) (h1c : H1[q]? = some cl) (hv : cl.vm = .none) (hcl : s.vm.findClass (exn k) = some cl.cls)
    (kk : W p (xl X) e R s m args below meth c H1 locs1 ce sl Z (F0 m x.2.2.1 ls [.ref q])) : vx_W p (xl X) e R s m args below meth c H1 locs1 ce sl Z (F0 m pc ls rest) q := by
  obtain ⟨hk, pre, suf, hsplit, hpre, c1, c2, c3, c4⟩ := hx
  have ht := C.2.2.2.2.2.2.2.2.1
  have hw := C.2.2.2.2.2.1
  have hF := C.2.2.2.2.2.2.2.2.2.2.2.1
  rw [hsplit] at ht
  obtain ⟨l1, l2, e1, e2, e3⟩ := List.map_eq_append_iff.mp ht
  obtain ⟨y, l3, e4, e5, e6⟩ := List.map_eq_cons_iff.mp e3
  subst e5
  refine vx_catch (own := RN (mOwn M)) (name := exn k) C.2.2.2.2.1 l1 y l3 (by rw [e1, e4]) (fun z hz => ?_) (by simp only [covers, Bool.and_eq_true, decide_eq_true_eq]; exact ⟨c1, c2⟩) c3 (hw _ c4) (va_Nw.use rfl (hF.2.2.1 k hk)) h1c hv hcl kk
  obtain ⟨h0, j, hj, hn, hl⟩ := hpre (z.startPc, z.endPc, z.handlerPc, z.catchType) (by rw [← e2]; exact List.mem_map.mpr ⟨z, hz, rfl⟩)
  exact Or.inr ⟨h0, exn j, hw _ hl, hF.2.2.2.1 k j hk hj (fun q => hn q.symm)⟩
theorem ev_callVH {X : mX} {M M' : mMD} {f f' f1 : Option Nat} {ce sl mc ms mc1 ms1 pc : Nat} {L st : List Value} {h : mH} {Q Q1 : mO → mH → Prop} {idx n b : Nat} {as fs : List Value} (hd : decode (mBy M) pc = .ok (.invokevirtual idx, 3)) (hcal : CalI M' n) (hl : Cond.methodLink (RN (mOwn M)) idx (mNm M') ∈ WL) (hfit : Fits M M') (hb : h b = some (aO (mOwn M') fs)) (hn : as.length = n) (hst : (st.map fun v => v.category).sum ≤ 8) (hm : Cn X M' f f1 mc1 ms1 (.ref b :: as) h Q1) (hce : ce + mc1 ≤ mc) (hsl : sl + ms1 ≤ ms) (kk : ∀ (v : Option Value) (h1 : mH), Q1 (.inl v) h1 → Ev X M (f1, f', ce + mc1, sl + ms1, mc, ms) (pc + 3) L (v.toList ++ st) h1 Q)
    (kx : ∀ (k : Nat) (h1 : mH), Q1 (.inr k) h1 → ∃ (x : Nat × Nat × Nat × Nat) (i : Nat), Hnd M pc k x ∧ i < mML M ∧ ((∃ t : Fin 4, decode (mBy M) x.2.2.1 = .ok (.astore_n t, 1) ∧ (t : Nat) = i ∧ Ev X M (none, f', ce + mc1, sl + ms1, mc, ms) (x.2.2.1 + 1) (stl L i jk) [] h1 Q) ∨ (decode (mBy M) x.2.2.1 = .ok (.astore i, 2) ∧ Ev X M (none, f', ce + mc1, sl + ms1, mc, ms) (x.2.2.1 + 2) (stl L i jk) [] h1 Q))) : Ev X M (f, f', ce, sl, mc, ms) pc L (as.reverse ++ .ref b :: st) h Q := by
  intro p e s m args below meth c H locs ls R C hc hs hW hS hL
  obtain ⟨⟨c1, c2, c3, c4⟩, c5, c6, c7⟩ := hcal
  have hts := C.2.2.2.2.2.1
  have hF := C.2.2.2.2.2.2.2.2.2.2.2.1
  have hr : vx_Run p (xl X) e R s m args below meth c H locs ce sl mc1 ms1 (F0 m pc ls ((as.reverse ++ .ref b :: st).map (cv X))) (st.map (cv X)) (Qcv X Q1 f1 (Value.ref (xad X b) :: as.map (cv X)).toArray) (Qxv X Q1) (xA X) :=
    vx_runV (C := (mNm M').cls) (own := RN (mOwn M)) (bytes := mBy M') (maxL := mML M') (ret := mRt M') (n := n) (index := idx) (Ts := WL) (ws := wsM M') (rm := mRm M' mc1 ms1) ⟨C.1, C.2.1, C.2.2.2.1, C.2.2.2.2.1, hts⟩ hm
      (cwV n hts (fun w hw => by
        rcases List.mem_append.mp hw with q | q
        · rcases List.mem_cons.mp q with rfl | q
          · exact WL_to hl
          · rcases List.mem_cons.mp q with rfl | q
            · exact WL_to c1
            · rcases List.mem_cons.mp q with rfl | q
              · exact WL_to c2
              · rcases List.mem_cons.mp q with rfl | q
                · exact WL_to c3
                · cases q
        · exact WL_code c4 w q) rfl rfl rfl ⟨rfl, c7⟩ (by rw [C.2.2.2.2.2.2.2.2.2.1, C.2.2.2.2.2.2.2.2.2.2.1]; exact hfit))
      ⟨mPc_blind X f _ h, by rw [c5, xad_lo hW hb]; exact va_recv hF.2.1 (hW.one hb) (cl_at c6) (q0 := 0) rfl, fun U hU hWU => ⟨rfl, by rw [hU]; exact hW, by rw [hU]; exact hF.go hWU hS.2.1⟩⟩ rfl (by rw [List.length_map]; exact hn) hL.1 (by show List.map (cv X) (as.reverse ++ .ref b :: st) = _; rw [List.map_append, List.map_reverse]; rfl) (by show 2 * 0 + _ ≤ 8; rw [cv_cats]; omega) hd ⟨by rw [hc]; exact hce, by rw [hs]; exact hsl⟩
  refine run_to hr hS (fun v h1 H1 locs1 hq hw hS1 => ?_) (fun k h1 H1 locs1 q cl hk hq hw hS1 h1c hv hcl => ?_)
  · have K := kk v h1 hq p e s m args below meth c H1 locs1 ls R C hc hs hw hS1 hL
    rw [List.map_append, show v.toList.map (cv X) = (v.map (cv X)).toList from by cases v <;> rfl] at K
    exact K
  · obtain ⟨x, i, hx, hi, ⟨t, d1, d2, k1⟩ | ⟨d1, k1⟩⟩ := kx k h1 hq
    · exact catch_to C hx h1c hv hcl (lv_astore_n C.1 C.2.1 d1 d2 hL.has hi rfl (fun ls' hl' => k1 p e s m args below meth c H1 locs1 ls' R C hc hs hw hS1 (hL.stj hi hl')))
    · exact catch_to C hx h1c hv hcl (lv_astore C.1 C.2.1 d1 hL.has hi rfl (fun ls' hl' => k1 p e s m args below meth c H1 locs1 ls' R C hc hs hw hS1 (hL.stj hi hl')))
theorem ev_max {X : mX} {M : mMD} {B : mB} {pc : Nat} {L st : List Value} {h : mH} {Q : mO → mH → Prop} {idx : Nat} {x y : Int32} (hd : decode (mBy M) pc = .ok (.invokestatic idx, 3)) (hl : Cond.methodLink (RN (mOwn M)) idx Lib.Math.max.name ∈ WL) (h1 : Cond.static Lib.Math.max.name ∈ WL) (h2 : Cond.initialized "java/lang/Math" ∈ WL) (h3 : Cond.code Lib.Math.max.name Lib.Math.max.code 2 (some .int) ∈ WL) (hfr : 1 ≤ mFr M) (hlo : (st.map fun v => v.category).sum + 13 ≤ mLo M) (hb1 : B.2.2.1 ≤ B.2.2.2.2.1) (hb2 : B.2.2.2.1 ≤ B.2.2.2.2.2) (k : Ev X M B (pc + 3) L (.int (if x < y then y else x) :: st) h Q) : Ev X M B pc L (.int y :: .int x :: st) h Q := by
  intro p e s m args below meth c H locs ls R C hc hs hW hS hL
  have hw := C.2.2.2.2.2.1
  exact va_mmax C.1 C.2.1 (C.2.2.2.1.trans hL.1.symm) C.2.2.2.2.1 (hw _ hl) (hw _ h1) (hw _ h2) (hw _ h3) (by rw [C.2.2.2.2.2.2.2.2.2.1]; exact hfr) (by rw [C.2.2.2.2.2.2.2.2.2.2.1, cv_cats]; exact hlo) (by rw [hc]; exact hb1) (by rw [hs]; exact hb2) hd (k p e s m args below meth c H locs ls R C hc hs hW hS hL)
theorem ev_rawbits {X : mX} {M : mMD} {B : mB} {pc : Nat} {L st : List Value} {h : mH} {Q : mO → mH → Prop} {idx : Nat} {x : UInt64} (hd : decode (mBy M) pc = .ok (.invokestatic idx, 3)) (hl : Cond.methodLink (RN (mOwn M)) idx ⟨"java/lang/Double", "doubleToRawLongBits", "(D)J"⟩ ∈ WL) (h1 : Cond.native ⟨"java/lang/Double", "doubleToRawLongBits", "(D)J"⟩ ∈ WL) (h2 : Cond.static ⟨"java/lang/Double", "doubleToRawLongBits", "(D)J"⟩ ∈ WL) (h3 : Cond.initialized "java/lang/Double" ∈ WL) (hfr : 1 ≤ mFr M) (hlo : (st.map fun v => v.category).sum + 15 ≤ mLo M) (k : Ev X M B (pc + 3) L (.long x.toInt64 :: st) h Q) : Ev X M B pc L (.double x :: st) h Q := by
  intro p e s m args below meth c H locs ls R C hc hs hW hS hL
  have hw := C.2.2.2.2.2.1
  exact vn_d2l C.1 C.2.1 (C.2.2.2.1.trans hL.1.symm) C.2.2.2.2.1 (hw _ hl) (hw _ h1) (hw _ h2) (hw _ h3) (by rw [C.2.2.2.2.2.2.2.2.2.1]; exact hfr) (by rw [C.2.2.2.2.2.2.2.2.2.2.1, cv_cats]; exact hlo) hd (k p e s m args below meth c H locs ls R C hc hs hW hS hL)
theorem ev_copyI {X : mX} {M : mMD} {B : mB} {pc : Nat} {L st : List Value} {h : mH} {Q : mO → mH → Prop} {idx a a0 n0 n1 : Nat} {f g : Nat → Int32} {sp dp n : Int32} (hd : decode (mBy M) pc = .ok (.invokestatic idx, 3)) (hl : Cond.methodLink (RN (mOwn M)) idx arraycopyName ∈ WL) (hnat : Cond.native arraycopyName ∈ WL) (hstat : Cond.static arraycopyName ∈ WL) (hini : Cond.initialized "java/lang/System" ∈ WL) (hne : a0 ≠ a) (ha0 : h a0 = some (aI n0 f)) (ha : h a = some (aI n1 g)) (h1 : ¬ sp < 0) (h2 : ¬ dp < 0) (h3 : ¬ n < 0) (h4 : sp.toNatClampNeg + n.toNatClampNeg ≤ n0) (h5 : dp.toNatClampNeg + n.toNatClampNeg ≤ n1) (hB : B.1 = none) (hfr : 1 ≤ mFr M) (hlo : (st.map fun v => v.category).sum + 30 ≤ mLo M) (k : Ev X M B (pc + 3) L st (mset h a (aI n1 (va_cpy f g sp.toNatClampNeg dp.toNatClampNeg n.toNatClampNeg))) Q) : Ev X M B pc L (.int n :: .int dp :: .ref a :: .int sp :: .ref a0 :: st) h Q := by
  intro p e s m args below meth c H locs ls R C hc hs hW hS hL
  have hw := C.2.2.2.2.2.1
  have hF := C.2.2.2.2.2.2.2.2.2.2.2.1
  have hl1 : ∀ b e1, h b = some e1 → xlo X + b < H.size := fun b e1 hb => (hW.1 b e1 hb).2.lt
  let dl : List Nat := (List.range H.size).filter (fun b => (h b).isSome)
  have hdl : ∀ b, b ∈ dl ↔ ∃ e1, h b = some e1 := by
    intro b
    show b ∈ (List.range H.size).filter _ ↔ _
    rw [List.mem_filter, List.mem_range, Option.isSome_iff_exists]
    exact ⟨fun z => z.2, fun ⟨e1, z⟩ => ⟨by have := hl1 b e1 z; omega, e1, z⟩⟩
  have hnd : dl.Nodup := List.Pairwise.filter _ List.nodup_range
  let ws : va_W := dl.map (fun b => (xlo X + b, cvE X ((h b).getD (aI 0 f))))
  have hws : ∀ (i : Nat) (q : Nat × va_E), ws[i]? = some q → ∃ b e1, dl[i]? = some b ∧ h b = some e1 ∧ q = (xlo X + b, cvE X e1) := by
    intro i q hq
    have hq2 : (dl.map (fun b => (xlo X + b, cvE X ((h b).getD (aI 0 f)))))[i]? = some q := hq
    rw [List.getElem?_map] at hq2
    cases hb : dl[i]? with
    | none => rw [hb] at hq2; cases hq2
    | some b =>
      rw [hb] at hq2
      obtain ⟨e1, he⟩ := (hdl b).mp (List.mem_of_getElem? hb)
      refine ⟨b, e1, rfl, he, ?_⟩
      have := Option.some.inj hq2
      rw [← this]
      show (xlo X + b, cvE X ((h b).getD _)) = _
      rw [he]; rfl
  have hat : ∀ (b : Nat) (e1 : mAc), h b = some e1 → ∃ i : Nat, dl[i]? = some b ∧ ws[i]? = some (xlo X + b, cvE X e1) := by
    intro b e1 hb
    obtain ⟨i, hi⟩ := List.getElem?_of_mem ((hdl b).mpr ⟨e1, hb⟩)
    refine ⟨i, hi, ?_⟩
    show (dl.map _)[i]? = _
    rw [List.getElem?_map, hi]
    show some (xlo X + b, cvE X ((h b).getD _)) = _
    rw [hb]; rfl
  have hP : va_P (xD X) vwCl ws H := by
    intro i q hq
    obtain ⟨b, e1, -, hb, rfl⟩ := hws i q hq
    exact (hW.1 b e1 hb).2
  have hD : va_D (xA X) ws := by
    refine ⟨fun i j q r hq hr hqr => ?_, fun i q hq => ?_⟩
    · obtain ⟨b, e1, hi, -, rfl⟩ := hws i q hq
      obtain ⟨b2, e2, hj, -, rfl⟩ := hws j r hr
      have hbb : b = b2 := Nat.add_left_cancel hqr
      subst hbb
      exact (List.getElem?_inj (List.getElem?_eq_some_iff.mp hi).1 hnd).mp (hi.trans hj.symm)
    · obtain ⟨b, e1, -, -, rfl⟩ := hws i q hq
      exact Nat.le_add_right _ _
  obtain ⟨i0, hi0, hw0⟩ := hat a0 _ ha0
  obtain ⟨i1, hi1, hw1⟩ := hat a _ ha
  show W _ _ _ _ _ _ _ _ _ _ _ _ _ _ _ (F0 m pc ls (.int n :: .int dp :: .ref (xad X a) :: .int sp :: .ref (xad X a0) :: st.map (cv X)))
  rw [xad_lo hW ha, xad_lo hW ha0]
  have hwd : nativeFrameWords "java/lang/System" "arraycopy" 5 + 11 ≤ 30 := by decide
  refine va_copyi (ty := .int) C.1 C.2.1 (C.2.2.2.1.trans hL.1.symm) C.2.2.2.2.1 (hw _ hl) (hw _ hnat) (hw _ hstat) (hw _ hini) hF.2.1 hP hD hS i0 i1 0 0 hw0 hw1 rfl rfl rfl h1 h2 h3 h4 h5 (fun _ _ => rfl) (by rw [C.2.2.2.2.2.2.2.2.2.1]; exact hfr) (by rw [C.2.2.2.2.2.2.2.2.2.2.1, cv_cats]; omega) hd fun H1 locs1 hP1 _ hS1 => ?_
  refine k p e s m args below meth c H1 locs1 ls R C hc hs ⟨fun b e1 hb => ?_, ?_, ?_⟩ hS1 hL
  · by_cases hba : b = a
    · subst hba
      rw [mset_s] at hb
      cases hb
      exact ⟨(hW.1 b _ ha).1, hP1 i1 _ (List.getElem?_set_self (List.getElem?_eq_some_iff.mp hw1).1)⟩
    · rw [mset_n hba] at hb
      obtain ⟨j, hj, hwj⟩ := hat b e1 hb
      refine ⟨(hW.1 b e1 hb).1, hP1 j _ ?_⟩
      rw [List.getElem?_set_ne (fun q => ?_)]
      · exact hwj
      · subst q
        rw [hi1] at hj
        exact hba (Option.some.inj hj).symm
  · exact Nat.le_trans C.2.2.2.2.2.2.2.2.2.2.2.2 hS1.1
  · intro n' hn'
    rw [hB] at hn'
    cases hn'
theorem ev_copyL {X : mX} {M : mMD} {B : mB} {pc : Nat} {L st : List Value} {h : mH} {Q : mO → mH → Prop} {idx a a0 n0 n1 : Nat} {f g : Nat → Int64} {sp dp n : Int32} (hd : decode (mBy M) pc = .ok (.invokestatic idx, 3)) (hl : Cond.methodLink (RN (mOwn M)) idx arraycopyName ∈ WL) (hnat : Cond.native arraycopyName ∈ WL) (hstat : Cond.static arraycopyName ∈ WL) (hini : Cond.initialized "java/lang/System" ∈ WL) (hne : a0 ≠ a) (ha0 : h a0 = some (aL n0 f)) (ha : h a = some (aL n1 g)) (h1 : ¬ sp < 0) (h2 : ¬ dp < 0) (h3 : ¬ n < 0) (h4 : sp.toNatClampNeg + n.toNatClampNeg ≤ n0) (h5 : dp.toNatClampNeg + n.toNatClampNeg ≤ n1) (hB : B.1 = none) (hfr : 1 ≤ mFr M) (hlo : (st.map fun v => v.category).sum + 30 ≤ mLo M) (k : Ev X M B (pc + 3) L st (mset h a (aL n1 (va_cpy f g sp.toNatClampNeg dp.toNatClampNeg n.toNatClampNeg))) Q) : Ev X M B pc L (.int n :: .int dp :: .ref a :: .int sp :: .ref a0 :: st) h Q := by
  intro p e s m args below meth c H locs ls R C hc hs hW hS hL
  have hw := C.2.2.2.2.2.1
  have hF := C.2.2.2.2.2.2.2.2.2.2.2.1
  have hl1 : ∀ b e1, h b = some e1 → xlo X + b < H.size := fun b e1 hb => (hW.1 b e1 hb).2.lt
  let dl : List Nat := (List.range H.size).filter (fun b => (h b).isSome)
  have hdl : ∀ b, b ∈ dl ↔ ∃ e1, h b = some e1 := by
    intro b
    show b ∈ (List.range H.size).filter _ ↔ _
    rw [List.mem_filter, List.mem_range, Option.isSome_iff_exists]
    exact ⟨fun z => z.2, fun ⟨e1, z⟩ => ⟨by have := hl1 b e1 z; omega, e1, z⟩⟩
  have hnd : dl.Nodup := List.Pairwise.filter _ List.nodup_range
  let ws : va_W := dl.map (fun b => (xlo X + b, cvE X ((h b).getD (aL 0 f))))
  have hws : ∀ (i : Nat) (q : Nat × va_E), ws[i]? = some q → ∃ b e1, dl[i]? = some b ∧ h b = some e1 ∧ q = (xlo X + b, cvE X e1) := by
    intro i q hq
    have hq2 : (dl.map (fun b => (xlo X + b, cvE X ((h b).getD (aL 0 f)))))[i]? = some q := hq
    rw [List.getElem?_map] at hq2
    cases hb : dl[i]? with
    | none => rw [hb] at hq2; cases hq2
    | some b =>
      rw [hb] at hq2
      obtain ⟨e1, he⟩ := (hdl b).mp (List.mem_of_getElem? hb)
      refine ⟨b, e1, rfl, he, ?_⟩
      have := Option.some.inj hq2
      rw [← this]
      show (xlo X + b, cvE X ((h b).getD _)) = _
      rw [he]; rfl
  have hat : ∀ (b : Nat) (e1 : mAc), h b = some e1 → ∃ i : Nat, dl[i]? = some b ∧ ws[i]? = some (xlo X + b, cvE X e1) := by
    intro b e1 hb
    obtain ⟨i, hi⟩ := List.getElem?_of_mem ((hdl b).mpr ⟨e1, hb⟩)
    refine ⟨i, hi, ?_⟩
    show (dl.map _)[i]? = _
    rw [List.getElem?_map, hi]
    show some (xlo X + b, cvE X ((h b).getD _)) = _
    rw [hb]; rfl
  have hP : va_P (xD X) vwCl ws H := by
    intro i q hq
    obtain ⟨b, e1, -, hb, rfl⟩ := hws i q hq
    exact (hW.1 b e1 hb).2
  have hD : va_D (xA X) ws := by
    refine ⟨fun i j q r hq hr hqr => ?_, fun i q hq => ?_⟩
    · obtain ⟨b, e1, hi, -, rfl⟩ := hws i q hq
      obtain ⟨b2, e2, hj, -, rfl⟩ := hws j r hr
      have hbb : b = b2 := Nat.add_left_cancel hqr
      subst hbb
      exact (List.getElem?_inj (List.getElem?_eq_some_iff.mp hi).1 hnd).mp (hi.trans hj.symm)
    · obtain ⟨b, e1, -, -, rfl⟩ := hws i q hq
      exact Nat.le_add_right _ _
  obtain ⟨i0, hi0, hw0⟩ := hat a0 _ ha0
  obtain ⟨i1, hi1, hw1⟩ := hat a _ ha
  show W _ _ _ _ _ _ _ _ _ _ _ _ _ _ _ (F0 m pc ls (.int n :: .int dp :: .ref (xad X a) :: .int sp :: .ref (xad X a0) :: st.map (cv X)))
  rw [xad_lo hW ha, xad_lo hW ha0]
  have hwd : nativeFrameWords "java/lang/System" "arraycopy" 5 + 11 ≤ 30 := by decide
  refine va_copyl (ty := .long) C.1 C.2.1 (C.2.2.2.1.trans hL.1.symm) C.2.2.2.2.1 (hw _ hl) (hw _ hnat) (hw _ hstat) (hw _ hini) hF.2.1 hP hD hS i0 i1 1 1 hw0 hw1 rfl rfl rfl h1 h2 h3 h4 h5 (fun _ _ => rfl) (by rw [C.2.2.2.2.2.2.2.2.2.1]; exact hfr) (by rw [C.2.2.2.2.2.2.2.2.2.2.1, cv_cats]; omega) hd fun H1 locs1 hP1 _ hS1 => ?_
  refine k p e s m args below meth c H1 locs1 ls R C hc hs ⟨fun b e1 hb => ?_, ?_, ?_⟩ hS1 hL
  · by_cases hba : b = a
    · subst hba
      rw [mset_s] at hb
      cases hb
      exact ⟨(hW.1 b _ ha).1, hP1 i1 _ (List.getElem?_set_self (List.getElem?_eq_some_iff.mp hw1).1)⟩
    · rw [mset_n hba] at hb
      obtain ⟨j, hj, hwj⟩ := hat b e1 hb
      refine ⟨(hW.1 b e1 hb).1, hP1 j _ ?_⟩
      rw [List.getElem?_set_ne (fun q => ?_)]
      · exact hwj
      · subst q
        rw [hi1] at hj
        exact hba (Option.some.inj hj).symm
  · exact Nat.le_trans C.2.2.2.2.2.2.2.2.2.2.2.2 hS1.1
  · intro n' hn'
    rw [hB] at hn'
    cases hn'
theorem clone_cell {cell : Cell} {cA : ClassId} {n : Nat} {f : Nat → Int32} (h1 : cell.cls = cA) (h2 : cell.slots.size = n) (h3 : ∀ j : Nat, j < n → cell.slots[j]? = some (.int (f j))) : ({ cls := cell.cls, slots := cell.slots } : Cell) = arrV cA n (fun j => .int (f j)) := by
  subst h1
  subst h2
  have e : cell.slots = (arrV cell.cls cell.slots.size (fun j => .int (f j))).slots := by
    apply Array.ext_getElem?
    intro j
    by_cases hj : j < cell.slots.size
    · rw [h3 j hj, arrV_read _ _ hj]
    · rw [Array.getElem?_eq_none (by omega), Array.getElem?_eq_none (by rw [arrV_size]; omega)]
  exact (congrArg (fun z => ({ cls := cell.cls, slots := z } : Cell)) e).trans rfl
theorem ev_cloneR {X : mX} {M : mMD} {f' : Option Nat} {n ce sl mc ms pc : Nat} {L st : List Value} {h : mH} {Q : mO → mH → Prop} {idx k : Nat} {g : Nat → Int32} (hd : decode (mBy M) pc = .ok (.invokevirtual idx, 3)) (hl : Cond.methodLink (RN (mOwn M)) idx ⟨"[I", "clone", "()Ljava/lang/Object;"⟩ ∈ WL) (w1 : Cond.sameMethod "[I" "java/lang/Object" "clone" "()Ljava/lang/Object;" ∈ WL) (w2 : Cond.native ⟨"java/lang/Object", "clone", "()Ljava/lang/Object;"⟩ ∈ WL) (w3 : Cond.instanceMethod ⟨"java/lang/Object", "clone", "()Ljava/lang/Object;"⟩ ∈ WL) (w4 : Cond.selects "[I" ⟨"[I", "clone", "()Ljava/lang/Object;"⟩ ⟨"java/lang/Object", "clone", "()Ljava/lang/Object;"⟩ ∈ WL) (ha : xro X 1000000 = some (k, g)) (hfr : 1 ≤ mFr M) (hlo : (st.map fun v => v.category).sum + 14 ≤ mLo M) (hn : n + 1 < 1000000) (hcells : ce + 1 ≤ mc) (hslots : sl + k ≤ ms) (kk : Ev X M (some (n + 1), f', ce + 1, sl + k, mc, ms) (pc + 3) L (.ref n :: st) (mset h n (aI k g)) Q) : Ev X M (some n, f', ce, sl, mc, ms) pc L (.ref 1000000 :: st) h Q := by
  intro p e s m args below meth c H locs ls R C hc hs hW hS hL
  have hw := C.2.2.2.2.2.1
  have hF := C.2.2.2.2.2.2.2.2.2.2.2.1
  obtain ⟨hF1, hK, -, -, hcl, -, -, -, -, hR, -, -, ⟨⟨cell0, j1, j2⟩, j3⟩, -⟩ := hF
  obtain ⟨cell, h1, h2, h3, h4, h5, h6⟩ := hR 0 k g ha
  have e0 : cell = cell0 := (Option.some.inj (j1.symm.trans h1)).symm
  subst e0
  have hcK : cell.cls = xK X 0 := Option.some.inj (j2.symm.trans (hK.2 0 _ rfl).2)
  have hcell : H[xta X 0]? = some cell := by rw [hS.2.1 _ (Array.getElem?_eq_some_iff.mp h1).1 h6]; exact h1
  obtain ⟨c0, t0', f1, f2, f3⟩ := Cond.castable_spec (va_Nw.use (A := args) rfl hcl)
  have e00 : cell.cls = c0 := Option.some.inj (j2.symm.trans f1)
  subst e00
  show W _ _ _ _ _ _ _ _ _ _ _ _ _ _ _ (F0 m pc ls (.ref (xad X 1000000) :: st.map (cv X)))
  have ead : xad X 1000000 = xta X 0 := by
    unfold xad
    rw [if_neg (by omega)]
  rw [ead]
  intro T hT Y
  obtain ⟨hst1, kA0, hkA0, comp0, hkind0⟩ := h2
  obtain ⟨-, kA, hkA, comp, hkind⟩ := State.isArrayOf_alike Y.warmed.alike ((hK.2 0 _ rfl).1 0 (fun _ => .null))
  obtain ⟨-, kS, hkS, compS, hkindS⟩ := (hK.2 0 _ rfl).1 0 (fun _ => .null)
  have hcE := clone_cell hcK h4 h5
  obtain ⟨vm', Y', stp⟩ := Y.cloneArray C.1 C.2.2.2.2.1 (hw _ hl) (hw _ w1) (hw _ w2) (hw _ w3) (hw _ w4) (a := xta X 0) (cell := cell) (by rw [hT]; exact hcell) hst1 h3 j2 f2 f3
    (fun i v hv => by
      have hi : i < k := by rw [← h4]; exact (Array.getElem?_eq_some_iff.mp hv).1
      have hv2 : v = .int (g i) := Option.some.inj (hv.symm.trans (h5 i hi))
      rw [hcK, hv2]
      have hk' : T.vm.classes[xK X 0]? = some kA := hkA
      simp [State.fitsSlot, State.slotType?, hk', hkind, fits])
    (g := F0 m pc ls (.ref (xta X 0) :: st.map (cv X))) rfl (hL.1.trans C.2.2.2.1.symm) rfl (by rw [C.2.1]; exact hd) (by rw [C.2.2.2.2.2.2.2.2.2.1]; exact hfr) (by show 2 * 0 + _ + 14 ≤ _; rw [C.2.2.2.2.2.2.2.2.2.2.1, cv_cats]; omega) (by rw [hc]; exact hcells) (by rw [hs, h4]; exact hslots) (hloader := by rw [hcK]; exact Vm.clonesLoader_of_array hkS hkindS)
  rw [hcE, h4] at Y'
  generalize hH1 : H.push (arrV (xK X 0) k (fun j => .int (g j))) = H1
  have z1 : H1.size = H.size + 1 := by rw [← hH1, Array.size_push]
  have e1 : H1[H.size]? = some (arrV (xK X 0) k (fun j => .int (g j))) := by rw [← hH1, Array.getElem?_push_size]
  have o1 : ∀ q : Nat, q < H.size → H1[q]? = H[q]? := fun q hq => by rw [← hH1, Array.getElem?_push, if_neg (Nat.ne_of_lt hq)]
  have hz := (hW.2.2 n rfl).1
  have e9 : Value.ref H.size = cv X (.ref n) := by
    show Value.ref H.size = Value.ref (xad X n)
    rw [hz, xad, if_pos (hW.2.2 n rfl).2.1]
  obtain ⟨t, b1, b2⟩ := kk p e s m args below meth c H1 locs ls R C hc hs (hW.push hn z1 o1 e1) ⟨Nat.le_trans hS.1 (by omega), fun x h1 h2 => (o1 x (Nat.lt_of_lt_of_le h1 hS.1)).trans (hS.2.1 x h1 h2), hS.2.2⟩ hL _ (by rw [← hH1, ← hT]; rfl) Y'
  refine ⟨t, stp t ?_, b2⟩
  rw [hcE, hT, e9]
  exact b1
theorem ev_checkcastI {X : mX} {M : mMD} {B : mB} {pc : Nat} {L st : List Value} {h : mH} {Q : mO → mH → Prop} {idx a n : Nat} {g : Nat → Int32} (hd : decode (mBy M) pc = .ok (.checkcast idx, 3)) (hl : Cond.classLink (RN (mOwn M)) idx "[I" ∈ WL) (ha : h a = some (aI n g)) (k : Ev X M B (pc + 3) L (.ref a :: st) h Q) : Ev X M B pc L (.ref a :: st) h Q := by
  intro p e s m args below meth c H locs ls R C hc hs hW hS hL
  have hF := C.2.2.2.2.2.2.2.2.2.2.2.1
  have K := k p e s m args below meth c H locs ls R C hc hs hW hS hL
  show W _ _ _ _ _ _ _ _ _ _ _ _ _ _ _ (F0 m pc ls (.ref (xad X a) :: st.map (cv X)))
  have K2 : W p (xl X) e R s m args below meth c H locs B.2.2.1 B.2.2.2.1 (vx_MQ below (Qcv X Q B.2.1) (Qxv X Q) args s B.2.2.2.2.1 B.2.2.2.2.2 (xA X)) (F0 m (pc + 3) ls (.ref (xad X a) :: st.map (cv X))) := K
  rw [xad_lo hW ha] at K2 ⊢
  exact va_castA C.1 C.2.1 C.2.2.2.2.1 (C.2.2.2.2.2.1 _ hl) (hW.one ha) 0 rfl (hF.2.1.2 0 _ rfl).2 hd K2
end
section
/-! the same rules over numbers of Nat: ints are nI a, booleans bI b, longs lN a -/
def bI (b : Bool) : Int32 := if b then 1 else 0
theorem bI_t : bI true = 1 := rfl
theorem bI_f : bI false = 0 := rfl
theorem bI_nar (b : Bool) : narrow .boolean (.int (bI b)) = .int (bI b) := by cases b <;> rfl
theorem bI_0 {b : Bool} : bI b = 0 ↔ b = false := by cases b <;> decide
theorem nI_01 : nI 0 = bI false ∧ nI 1 = bI true := ⟨rfl, rfl⟩
theorem nI_ofInt (n : Nat) : Int32.ofInt (n : Int) = nI n := rfl
theorem cl_nI {n : Nat} (h : n < 2 ^ 31) : (nI n).toNatClampNeg = n := nI_clamp h
theorem ev_iaddN {X : mX} {M : mMD} {B : mB} {pc : Nat} {L st : List Value} {h : mH} {Q : mO → mH → Prop} {a b : Nat} (hd : decode (mBy M) pc = .ok (.iadd, 1)) (k : Ev X M B (pc + 1) L (.int (nI (a + b)) :: st) h Q) : Ev X M B pc L (.int (nI b) :: .int (nI a) :: st) h Q := by
  refine ev_iadd hd ?_
  rw [nI_add]
  exact k
theorem ev_isubN {X : mX} {M : mMD} {B : mB} {pc : Nat} {L st : List Value} {h : mH} {Q : mO → mH → Prop} {a b : Nat} (hd : decode (mBy M) pc = .ok (.isub, 1)) (hba : b ≤ a) (k : Ev X M B (pc + 1) L (.int (nI (a - b)) :: st) h Q) : Ev X M B pc L (.int (nI b) :: .int (nI a) :: st) h Q := by
  refine ev_isub hd ?_
  rw [pk_sub hba]
  exact k
theorem ev_imulN {X : mX} {M : mMD} {B : mB} {pc : Nat} {L st : List Value} {h : mH} {Q : mO → mH → Prop} {a b : Nat} (hd : decode (mBy M) pc = .ok (.imul, 1)) (k : Ev X M B (pc + 1) L (.int (nI (a * b)) :: st) h Q) : Ev X M B pc L (.int (nI b) :: .int (nI a) :: st) h Q := by
  refine ev_imul hd ?_
  rw [pk_mul]
  exact k
theorem ev_iremN {X : mX} {M : mMD} {B : mB} {pc : Nat} {L st : List Value} {h : mH} {Q : mO → mH → Prop} {a b : Nat} (hd : decode (mBy M) pc = .ok (.irem, 1)) (ha : a < 2 ^ 31) (hb0 : 0 < b) (hb : b < 2 ^ 31) (k : Ev X M B (pc + 1) L (.int (nI (a % b)) :: st) h Q) : Ev X M B pc L (.int (nI b) :: .int (nI a) :: st) h Q := by
  refine ev_irem hd (nI_ne0 hb0 hb) ?_
  rw [pk_rem ha hb0 hb]
  exact k
theorem ev_idivN {X : mX} {M : mMD} {B : mB} {pc : Nat} {L st : List Value} {h : mH} {Q : mO → mH → Prop} {a b : Nat} (hd : decode (mBy M) pc = .ok (.idiv, 1)) (ha : a < 2 ^ 31) (hb0 : 0 < b) (hb : b < 2 ^ 31) (k : Ev X M B (pc + 1) L (.int (nI (a / b)) :: st) h Q) : Ev X M B pc L (.int (nI b) :: .int (nI a) :: st) h Q := by
  refine ev_idiv hd (nI_ne0 hb0 hb) ?_
  rw [pk_div ha hb0 hb]
  exact k
theorem ev_i2lN {X : mX} {M : mMD} {B : mB} {pc : Nat} {L st : List Value} {h : mH} {Q : mO → mH → Prop} {a : Nat} (hd : decode (mBy M) pc = .ok (.i2l, 1)) (ha : a < 2 ^ 31) (k : Ev X M B (pc + 1) L (.long (lN a) :: st) h Q) : Ev X M B pc L (.int (nI a) :: st) h Q := by
  refine ev_i2l hd ?_
  rw [nI_l ha]
  exact k
theorem ev_ialoadN {X : mX} {M : mMD} {B : mB} {pc : Nat} {L st : List Value} {h : mH} {Q : mO → mH → Prop} {q n i : Nat} {f : Nat → Int32} (hd : decode (mBy M) pc = .ok (.iaload, 1)) (ha : h q = some (aI n f)) (hi : i < n) (hn : n < 2 ^ 31) (k : Ev X M B (pc + 1) L (.int (f i) :: st) h Q) : Ev X M B pc L (.int (nI i) :: .ref q :: st) h Q := by
  refine ev_iaload hd ha (vp_in_nI hi hn) ?_
  rw [nI_clamp (Nat.lt_trans hi hn)]
  exact k
theorem ev_laloadN {X : mX} {M : mMD} {B : mB} {pc : Nat} {L st : List Value} {h : mH} {Q : mO → mH → Prop} {q n i : Nat} {f : Nat → Int64} (hd : decode (mBy M) pc = .ok (.laload, 1)) (ha : h q = some (aL n f)) (hi : i < n) (hn : n < 2 ^ 31) (k : Ev X M B (pc + 1) L (.long (f i) :: st) h Q) : Ev X M B pc L (.int (nI i) :: .ref q :: st) h Q := by
  refine ev_laload hd ha (vp_in_nI hi hn) ?_
  rw [nI_clamp (Nat.lt_trans hi hn)]
  exact k
theorem ev_aaloadN {X : mX} {M : mMD} {B : mB} {pc : Nat} {L st : List Value} {h : mH} {Q : mO → mH → Prop} {q n t i b : Nat} {f : Nat → Option Nat} (hd : decode (mBy M) pc = .ok (.aaload, 1)) (ht : t = 2 ∨ t = 3) (ha : h q = some (aR t n f)) (hi : i < n) (hn : n < 2 ^ 31) (hb : f i = some b) (k : Ev X M B (pc + 1) L (.ref b :: st) h Q) : Ev X M B pc L (.int (nI i) :: .ref q :: st) h Q :=
  ev_aaload hd ht ha (vp_in_nI hi hn) (by rw [nI_clamp (Nat.lt_trans hi hn)]; exact hb) k
theorem ev_iastoreN {X : mX} {M : mMD} {B : mB} {pc : Nat} {L st : List Value} {h : mH} {Q : mO → mH → Prop} {q n i : Nat} {f : Nat → Int32} {x : Int32} (hd : decode (mBy M) pc = .ok (.iastore, 1)) (ha : h q = some (aI n f)) (hi : i < n) (hn : n < 2 ^ 31) (k : Ev X M B (pc + 1) L st (mset h q (aI n (upd f i x))) Q) : Ev X M B pc L (.int x :: .int (nI i) :: .ref q :: st) h Q := by
  refine ev_iastore hd ha (vp_in_nI hi hn) ?_
  rw [nI_clamp (Nat.lt_trans hi hn)]
  exact k
theorem ev_lastoreN {X : mX} {M : mMD} {B : mB} {pc : Nat} {L st : List Value} {h : mH} {Q : mO → mH → Prop} {q n i : Nat} {f : Nat → Int64} {x : Int64} (hd : decode (mBy M) pc = .ok (.lastore, 1)) (ha : h q = some (aL n f)) (hi : i < n) (hn : n < 2 ^ 31) (k : Ev X M B (pc + 1) L st (mset h q (aL n (vp_updL f i x))) Q) : Ev X M B pc L (.long x :: .int (nI i) :: .ref q :: st) h Q := by
  refine ev_lastore hd ha (vp_in_nI hi hn) ?_
  rw [nI_clamp (Nat.lt_trans hi hn)]
  exact k
theorem ev_aastoreN {X : mX} {M : mMD} {B : mB} {pc : Nat} {L st : List Value} {h : mH} {Q : mO → mH → Prop} {q n t i b cb : Nat} {f : Nat → Option Nat} {fb : List Value} (hd : decode (mBy M) pc = .ok (.aastore, 1)) (ht : t = 2 ∧ cb = 1 ∨ t = 3 ∧ cb = 4) (ha : h q = some (aR t n f)) (hb : h b = some (aO cb fb)) (hi : i < n) (hn : n < 2 ^ 31) (k : Ev X M B (pc + 1) L st (mset h q (aR t n (upR f i (some b)))) Q) : Ev X M B pc L (.ref b :: .int (nI i) :: .ref q :: st) h Q := by
  refine ev_aastore hd ht ha hb (vp_in_nI hi hn) ?_
  rw [nI_clamp (Nat.lt_trans hi hn)]
  exact k
theorem ev_ialoadRN {X : mX} {M : mMD} {B : mB} {pc : Nat} {L st : List Value} {h : mH} {Q : mO → mH → Prop} {j n i : Nat} {f : Nat → Int32} (hd : decode (mBy M) pc = .ok (.iaload, 1)) (ha : xro X (1000000 + j) = some (n, f)) (hi : i < n) (hn : n < 2 ^ 31) (k : Ev X M B (pc + 1) L (.int (f i) :: st) h Q) : Ev X M B pc L (.int (nI i) :: .ref (1000000 + j) :: st) h Q := by
  refine ev_ialoadR hd ha (vp_in_nI hi hn) ?_
  rw [nI_clamp (Nat.lt_trans hi hn)]
  exact k
theorem ev_iincN {X : mX} {M : mMD} {B : mB} {pc : Nat} {L st : List Value} {h : mH} {Q : mO → mH → Prop} {i a : Nat} {L' : List Value} (n : Nat) (hd : decode (mBy M) pc = .ok (.iinc i (n : Int), 3)) (hl : L[i]? = some (.int (nI a))) (hL' : stl L i (.int (nI (a + n))) = L') (k : Ev X M B (pc + 3) L' st h Q) : Ev X M B pc L st h Q :=
  ev_iinc (nI (a + n)) hd hl (by rw [nI_ofInt, nI_add]) hL' k
theorem ev_iincD {X : mX} {M : mMD} {B : mB} {pc : Nat} {L st : List Value} {h : mH} {Q : mO → mH → Prop} {i a : Nat} {L' : List Value} (hd : decode (mBy M) pc = .ok (.iinc i (-1), 3)) (hl : L[i]? = some (.int (nI (a + 1)))) (hL' : stl L i (.int (nI a)) = L') (k : Ev X M B (pc + 3) L' st h Q) : Ev X M B pc L st h Q :=
  ev_iinc (nI a) hd hl (pk_m1 a) hL' k
theorem ev_icmp_eqN {X : mX} {M : mMD} {B : mB} {pc : Nat} {L st : List Value} {h : mH} {Q : mO → mH → Prop} {a b : Nat} {off : Int} (tgt : Nat) (hd : decode (mBy M) pc = .ok (.if_icmp .eq off, 3)) (ht : (pc : Int) + off = (tgt : Int)) (ha : a < 2 ^ 31) (hb : b < 2 ^ 31) (kt : a = b → Ev X M B tgt L st h Q) (kf : ¬ a = b → Ev X M B (pc + 3) L st h Q) : Ev X M B pc L (.int (nI b) :: .int (nI a) :: st) h Q :=
  ev_icmp_eq tgt hd ht (fun z => kt ((nI_eq ha hb).mp z)) (fun z => kf (fun q => z ((nI_eq ha hb).mpr q)))
theorem ev_icmp_neN {X : mX} {M : mMD} {B : mB} {pc : Nat} {L st : List Value} {h : mH} {Q : mO → mH → Prop} {a b : Nat} {off : Int} (tgt : Nat) (hd : decode (mBy M) pc = .ok (.if_icmp .ne off, 3)) (ht : (pc : Int) + off = (tgt : Int)) (ha : a < 2 ^ 31) (hb : b < 2 ^ 31) (kt : ¬ a = b → Ev X M B tgt L st h Q) (kf : a = b → Ev X M B (pc + 3) L st h Q) : Ev X M B pc L (.int (nI b) :: .int (nI a) :: st) h Q :=
  ev_icmp_ne tgt hd ht (fun z => kt (fun q => z ((nI_eq ha hb).mpr q))) (fun z => kf ((nI_eq ha hb).mp z))
theorem ev_icmp_ltN {X : mX} {M : mMD} {B : mB} {pc : Nat} {L st : List Value} {h : mH} {Q : mO → mH → Prop} {a b : Nat} {off : Int} (tgt : Nat) (hd : decode (mBy M) pc = .ok (.if_icmp .lt off, 3)) (ht : (pc : Int) + off = (tgt : Int)) (ha : a < 2 ^ 31) (hb : b < 2 ^ 31) (kt : a < b → Ev X M B tgt L st h Q) (kf : b ≤ a → Ev X M B (pc + 3) L st h Q) : Ev X M B pc L (.int (nI b) :: .int (nI a) :: st) h Q :=
  ev_icmp_lt tgt hd ht (fun z => kt ((nI_ltI ha hb).mp z)) (fun z => kf (Nat.not_lt.mp (fun q => z ((nI_ltI ha hb).mpr q))))
theorem ev_icmp_geN {X : mX} {M : mMD} {B : mB} {pc : Nat} {L st : List Value} {h : mH} {Q : mO → mH → Prop} {a b : Nat} {off : Int} (tgt : Nat) (hd : decode (mBy M) pc = .ok (.if_icmp .ge off, 3)) (ht : (pc : Int) + off = (tgt : Int)) (ha : a < 2 ^ 31) (hb : b < 2 ^ 31) (kt : b ≤ a → Ev X M B tgt L st h Q) (kf : a < b → Ev X M B (pc + 3) L st h Q) : Ev X M B pc L (.int (nI b) :: .int (nI a) :: st) h Q :=
  ev_icmp_ge tgt hd ht (fun z => kt ((nI_leI hb ha).mp z)) (fun z => kf (Nat.not_le.mp (fun q => z ((nI_leI hb ha).mpr q))))
theorem ev_icmp_gtN {X : mX} {M : mMD} {B : mB} {pc : Nat} {L st : List Value} {h : mH} {Q : mO → mH → Prop} {a b : Nat} {off : Int} (tgt : Nat) (hd : decode (mBy M) pc = .ok (.if_icmp .gt off, 3)) (ht : (pc : Int) + off = (tgt : Int)) (ha : a < 2 ^ 31) (hb : b < 2 ^ 31) (kt : b < a → Ev X M B tgt L st h Q) (kf : a ≤ b → Ev X M B (pc + 3) L st h Q) : Ev X M B pc L (.int (nI b) :: .int (nI a) :: st) h Q :=
  ev_icmp_gt tgt hd ht (fun z => kt ((nI_ltI hb ha).mp z)) (fun z => kf (Nat.not_lt.mp (fun q => z ((nI_ltI hb ha).mpr q))))
theorem ev_icmp_leN {X : mX} {M : mMD} {B : mB} {pc : Nat} {L st : List Value} {h : mH} {Q : mO → mH → Prop} {a b : Nat} {off : Int} (tgt : Nat) (hd : decode (mBy M) pc = .ok (.if_icmp .le off, 3)) (ht : (pc : Int) + off = (tgt : Int)) (ha : a < 2 ^ 31) (hb : b < 2 ^ 31) (kt : a ≤ b → Ev X M B tgt L st h Q) (kf : b < a → Ev X M B (pc + 3) L st h Q) : Ev X M B pc L (.int (nI b) :: .int (nI a) :: st) h Q :=
  ev_icmp_le tgt hd ht (fun z => kt ((nI_leI ha hb).mp z)) (fun z => kf (Nat.not_le.mp (fun q => z ((nI_leI ha hb).mpr q))))
theorem ev_if_eqN {X : mX} {M : mMD} {B : mB} {pc : Nat} {L st : List Value} {h : mH} {Q : mO → mH → Prop} {a : Nat} {off : Int} (tgt : Nat) (hd : decode (mBy M) pc = .ok (.ifCond .eq off, 3)) (ht : (pc : Int) + off = (tgt : Int)) (ha : a < 2 ^ 31) (kt : a = 0 → Ev X M B tgt L st h Q) (kf : ¬ a = 0 → Ev X M B (pc + 3) L st h Q) : Ev X M B pc L (.int (nI a) :: st) h Q :=
  ev_if_eq tgt hd ht (fun z => kt ((nI_eq ha (by decide)).mp z)) (fun z => kf (fun q => z (by rw [q]; rfl)))
theorem ev_if_neN {X : mX} {M : mMD} {B : mB} {pc : Nat} {L st : List Value} {h : mH} {Q : mO → mH → Prop} {a : Nat} {off : Int} (tgt : Nat) (hd : decode (mBy M) pc = .ok (.ifCond .ne off, 3)) (ht : (pc : Int) + off = (tgt : Int)) (ha : a < 2 ^ 31) (kt : ¬ a = 0 → Ev X M B tgt L st h Q) (kf : a = 0 → Ev X M B (pc + 3) L st h Q) : Ev X M B pc L (.int (nI a) :: st) h Q :=
  ev_if_ne tgt hd ht (fun z => kt (fun q => z (by rw [q]; rfl))) (fun z => kf ((nI_eq ha (by decide)).mp z))
theorem ev_if_ltN {X : mX} {M : mMD} {B : mB} {pc : Nat} {L st : List Value} {h : mH} {Q : mO → mH → Prop} {a : Nat} {off : Int} (tgt : Nat) (hd : decode (mBy M) pc = .ok (.ifCond .lt off, 3)) (ht : (pc : Int) + off = (tgt : Int)) (ha : a < 2 ^ 31) (kt : False → Ev X M B tgt L st h Q) (kf : True → Ev X M B (pc + 3) L st h Q) : Ev X M B pc L (.int (nI a) :: st) h Q :=
  ev_if_lt tgt hd ht (fun z => kt (nI_pos ha z)) (fun z => kf (trivial))
theorem ev_if_geN {X : mX} {M : mMD} {B : mB} {pc : Nat} {L st : List Value} {h : mH} {Q : mO → mH → Prop} {a : Nat} {off : Int} (tgt : Nat) (hd : decode (mBy M) pc = .ok (.ifCond .ge off, 3)) (ht : (pc : Int) + off = (tgt : Int)) (ha : a < 2 ^ 31) (kt : True → Ev X M B tgt L st h Q) (kf : False → Ev X M B (pc + 3) L st h Q) : Ev X M B pc L (.int (nI a) :: st) h Q :=
  ev_if_ge tgt hd ht (fun z => kt (trivial)) (fun z => kf (z (nI_pos' ha)))
theorem ev_if_gtN {X : mX} {M : mMD} {B : mB} {pc : Nat} {L st : List Value} {h : mH} {Q : mO → mH → Prop} {a : Nat} {off : Int} (tgt : Nat) (hd : decode (mBy M) pc = .ok (.ifCond .gt off, 3)) (ht : (pc : Int) + off = (tgt : Int)) (ha : a < 2 ^ 31) (kt : 0 < a → Ev X M B tgt L st h Q) (kf : a = 0 → Ev X M B (pc + 3) L st h Q) : Ev X M B pc L (.int (nI a) :: st) h Q :=
  ev_if_gt tgt hd ht (fun z => kt (Nat.pos_of_ne_zero (fun q => by subst q; exact absurd z (by decide)))) (fun z => kf (Nat.eq_zero_of_not_pos (fun q => z (nI_lt (a := 0) q ha))))
theorem ev_if_leN {X : mX} {M : mMD} {B : mB} {pc : Nat} {L st : List Value} {h : mH} {Q : mO → mH → Prop} {a : Nat} {off : Int} (tgt : Nat) (hd : decode (mBy M) pc = .ok (.ifCond .le off, 3)) (ht : (pc : Int) + off = (tgt : Int)) (ha : a < 2 ^ 31) (kt : a = 0 → Ev X M B tgt L st h Q) (kf : 0 < a → Ev X M B (pc + 3) L st h Q) : Ev X M B pc L (.int (nI a) :: st) h Q :=
  ev_if_le tgt hd ht (fun z => kt (Nat.eq_zero_of_not_pos (fun q => nI_nle q ha z))) (fun z => kf (Nat.pos_of_ne_zero (fun q => by subst q; exact z (by decide))))
theorem ev_if_eqB {X : mX} {M : mMD} {B : mB} {pc : Nat} {L st : List Value} {h : mH} {Q : mO → mH → Prop} {b : Bool} {off : Int} (tgt : Nat) (hd : decode (mBy M) pc = .ok (.ifCond .eq off, 3)) (ht : (pc : Int) + off = (tgt : Int)) (kt : b = false → Ev X M B tgt L st h Q) (kf : b = true → Ev X M B (pc + 3) L st h Q) : Ev X M B pc L (.int (bI b) :: st) h Q :=
  ev_if_eq tgt hd ht (fun z => kt (bI_0.mp z)) (fun z => kf (by cases b; exact absurd rfl z; rfl))
theorem ev_if_neB {X : mX} {M : mMD} {B : mB} {pc : Nat} {L st : List Value} {h : mH} {Q : mO → mH → Prop} {b : Bool} {off : Int} (tgt : Nat) (hd : decode (mBy M) pc = .ok (.ifCond .ne off, 3)) (ht : (pc : Int) + off = (tgt : Int)) (kt : b = true → Ev X M B tgt L st h Q) (kf : b = false → Ev X M B (pc + 3) L st h Q) : Ev X M B pc L (.int (bI b) :: st) h Q :=
  ev_if_ne tgt hd ht (fun z => kt (by cases b; exact absurd rfl z; rfl)) (fun z => kf (bI_0.mp z))
theorem ev_lcmp_eq {X : mX} {M : mMD} {B : mB} {pc : Nat} {L st : List Value} {h : mH} {Q : mO → mH → Prop} {x y : Int64} {off : Int} (tgt : Nat) (hd0 : decode (mBy M) pc = .ok (.lcmp, 1)) (hd : decode (mBy M) (pc + 1) = .ok (.ifCond .eq off, 3)) (ht : ((pc + 1 : Nat) : Int) + off = (tgt : Int)) (kt : x = y → Ev X M B tgt L st h Q) (kf : ¬ x = y → Ev X M B (pc + 1 + 3) L st h Q) : Ev X M B pc L (.long y :: .long x :: st) h Q :=
  ev_lcmp hd0 (ev_if_eq tgt hd ht (fun z => kt ((lg_cmp_eq x y).mp z)) (fun z => kf (fun q => z ((lg_cmp_eq x y).mpr q))))
theorem ev_lcmp_ne {X : mX} {M : mMD} {B : mB} {pc : Nat} {L st : List Value} {h : mH} {Q : mO → mH → Prop} {x y : Int64} {off : Int} (tgt : Nat) (hd0 : decode (mBy M) pc = .ok (.lcmp, 1)) (hd : decode (mBy M) (pc + 1) = .ok (.ifCond .ne off, 3)) (ht : ((pc + 1 : Nat) : Int) + off = (tgt : Int)) (kt : ¬ x = y → Ev X M B tgt L st h Q) (kf : x = y → Ev X M B (pc + 1 + 3) L st h Q) : Ev X M B pc L (.long y :: .long x :: st) h Q :=
  ev_lcmp hd0 (ev_if_ne tgt hd ht (fun z => kt (fun q => z ((lg_cmp_eq x y).mpr q))) (fun z => kf ((lg_cmp_eq x y).mp z)))
/-- a method that answers v and changes nothing -/
abbrev CnP (X : mX) (M : mMD) (as : List Value) (h : mH) (v : Option Value) : Prop := Cn X M none none 0 0 as h (fun o h1 => o = .inl v ∧ h1 = h)
/-- a method that returns v and leaves the cells in h1 with P -/
abbrev CnU (X : mX) (M : mMD) (as : List Value) (h : mH) (P : Option Value → mH → Prop) : Prop := Cn X M none none 0 0 as h (fun o h1 => ∃ v, o = .inl v ∧ P v h1)
/-- a method that throws exception k; what it leaves has P -/
abbrev CnX (X : mX) (M : mMD) (as : List Value) (h : mH) (k : Nat) (P : mH → Prop) : Prop := Cn X M none none 1 6 as h (fun o h1 => o = .inr k ∧ P h1)
abbrev B0 : mB := (none, none, 0, 0, 0, 0)
abbrev BX : mB := (none, none, 0, 0, 1, 6)
theorem ev_callVP0 {X : mX} {M M' : mMD} {mc ms pc : Nat} {L st : List Value} {h : mH} {Q : mO → mH → Prop} {idx : Nat} {b : Nat} {fs : List Value} {v : Option Value} (hd : decode (mBy M) pc = .ok (.invokevirtual idx, 3)) (hcal : CalI M' 0) (hl : Cond.methodLink (RN (mOwn M)) idx (mNm M') ∈ WL) (hfit : Fits M M') (hh : mHH M = []) (hb : h b = some (aO (mOwn M') fs)) (hst : (st.map fun v => v.category).sum ≤ 8) (hm : CnP X M' (.ref b :: []) h v) (kk : Ev X M (none, none, 0, 0, mc, ms) (pc + 3) L (v.toList ++ st) h Q) : Ev X M (none, none, 0, 0, mc, ms) pc L (.ref b :: st) h Q :=
  ev_callV (as := []) hd hcal hl hfit hh hb rfl hst hm (Nat.zero_le _) (Nat.zero_le _) (fun v1 h1 q => by obtain ⟨q1, q2⟩ := q; cases q1; subst q2; exact kk) (fun k h1 q => by cases q.1)
theorem ev_callVU0 {X : mX} {M M' : mMD} {mc ms pc : Nat} {L st : List Value} {h : mH} {Q : mO → mH → Prop} {idx : Nat} {b : Nat} {fs : List Value} {P : Option Value → mH → Prop} (hd : decode (mBy M) pc = .ok (.invokevirtual idx, 3)) (hcal : CalI M' 0) (hl : Cond.methodLink (RN (mOwn M)) idx (mNm M') ∈ WL) (hfit : Fits M M') (hh : mHH M = []) (hb : h b = some (aO (mOwn M') fs)) (hst : (st.map fun v => v.category).sum ≤ 8) (hm : CnU X M' (.ref b :: []) h P) (kk : ∀ (v : Option Value) (h1 : mH), P v h1 → Ev X M (none, none, 0, 0, mc, ms) (pc + 3) L (v.toList ++ st) h1 Q) : Ev X M (none, none, 0, 0, mc, ms) pc L (.ref b :: st) h Q :=
  ev_callV (as := []) hd hcal hl hfit hh hb rfl hst hm (Nat.zero_le _) (Nat.zero_le _) (fun v1 h1 q => by obtain ⟨v, q1, q2⟩ := q; cases q1; exact kk _ _ q2) (fun k h1 q => by obtain ⟨v, q1, q2⟩ := q; cases q1)
theorem ev_callVX0 {X : mX} {M M' : mMD} {pc : Nat} {L st : List Value} {h : mH} {Q : mO → mH → Prop} {idx k : Nat} {b : Nat} {fs : List Value} {P : mH → Prop} (hd : decode (mBy M) pc = .ok (.invokevirtual idx, 3)) (hcal : CalI M' 0) (hl : Cond.methodLink (RN (mOwn M)) idx (mNm M') ∈ WL) (hfit : Fits M M') (hh : mHH M = []) (hb : h b = some (aO (mOwn M') fs)) (hst : (st.map fun v => v.category).sum ≤ 8) (hm : CnX X M' (.ref b :: []) h k P) (kx : ∀ (h1 : mH), P h1 → Q (.inr k) h1) : Ev X M BX pc L (.ref b :: st) h Q :=
  ev_callV (as := []) hd hcal hl hfit hh hb rfl hst hm (Nat.le_refl _) (Nat.le_refl _) (fun v1 h1 q => by cases q.1) (fun k1 h1 q => by obtain ⟨q1, q2⟩ := q; cases q1; exact kx h1 q2)
theorem ev_callSP0 {X : mX} {M M' : mMD} {mc ms pc : Nat} {L st : List Value} {h : mH} {Q : mO → mH → Prop} {idx : Nat} {v : Option Value} (hd : decode (mBy M) pc = .ok (.invokestatic idx, 3)) (hcal : CalS M' 0) (hl : Cond.methodLink (RN (mOwn M)) idx (mNm M') ∈ WL) (hfit : Fits M M') (hh : mHH M = []) (hst : (st.map fun v => v.category).sum ≤ 8) (hm : CnP X M' [] h v) (kk : Ev X M (none, none, 0, 0, mc, ms) (pc + 3) L (v.toList ++ st) h Q) : Ev X M (none, none, 0, 0, mc, ms) pc L (st) h Q :=
  ev_callS (as := []) hd hcal hl hfit hh rfl hst hm (Nat.zero_le _) (Nat.zero_le _) (fun v1 h1 q => by obtain ⟨q1, q2⟩ := q; cases q1; subst q2; exact kk) (fun k h1 q => by cases q.1)
theorem ev_callSU0 {X : mX} {M M' : mMD} {mc ms pc : Nat} {L st : List Value} {h : mH} {Q : mO → mH → Prop} {idx : Nat} {P : Option Value → mH → Prop} (hd : decode (mBy M) pc = .ok (.invokestatic idx, 3)) (hcal : CalS M' 0) (hl : Cond.methodLink (RN (mOwn M)) idx (mNm M') ∈ WL) (hfit : Fits M M') (hh : mHH M = []) (hst : (st.map fun v => v.category).sum ≤ 8) (hm : CnU X M' [] h P) (kk : ∀ (v : Option Value) (h1 : mH), P v h1 → Ev X M (none, none, 0, 0, mc, ms) (pc + 3) L (v.toList ++ st) h1 Q) : Ev X M (none, none, 0, 0, mc, ms) pc L (st) h Q :=
  ev_callS (as := []) hd hcal hl hfit hh rfl hst hm (Nat.zero_le _) (Nat.zero_le _) (fun v1 h1 q => by obtain ⟨v, q1, q2⟩ := q; cases q1; exact kk _ _ q2) (fun k h1 q => by obtain ⟨v, q1, q2⟩ := q; cases q1)
theorem ev_callSX0 {X : mX} {M M' : mMD} {pc : Nat} {L st : List Value} {h : mH} {Q : mO → mH → Prop} {idx k : Nat} {P : mH → Prop} (hd : decode (mBy M) pc = .ok (.invokestatic idx, 3)) (hcal : CalS M' 0) (hl : Cond.methodLink (RN (mOwn M)) idx (mNm M') ∈ WL) (hfit : Fits M M') (hh : mHH M = []) (hst : (st.map fun v => v.category).sum ≤ 8) (hm : CnX X M' [] h k P) (kx : ∀ (h1 : mH), P h1 → Q (.inr k) h1) : Ev X M BX pc L (st) h Q :=
  ev_callS (as := []) hd hcal hl hfit hh rfl hst hm (Nat.le_refl _) (Nat.le_refl _) (fun v1 h1 q => by cases q.1) (fun k1 h1 q => by obtain ⟨q1, q2⟩ := q; cases q1; exact kx h1 q2)
theorem ev_callIC {X : mX} {M M' : mMD} {f f1 f' : Option Nat} {ce sl mc ms mc1 ms1 pc : Nat} {L st : List Value} {h : mH} {Q : mO → mH → Prop} {idx : Nat} {b : Nat} {P : mH → Prop} (hd : decode (mBy M) pc = .ok (.invokespecial idx, 3)) (hcal : CalC M' 0) (hl : Cond.methodLink (RN (mOwn M)) idx (mNm M') ∈ WL) (hfit : Fits M M') (hh : mHH M = []) (hst : (st.map fun v => v.category).sum ≤ 8) (hm : Cn X M' f f1 mc1 ms1 [.ref b] h (fun o h1 => o = .inl none ∧ P h1)) (hce : ce + mc1 ≤ mc) (hsl : sl + ms1 ≤ ms) (kk : ∀ (h1 : mH), P h1 → Ev X M (f1, f', ce + mc1, sl + ms1, mc, ms) (pc + 3) L st h1 Q) : Ev X M (f, f', ce, sl, mc, ms) pc L (.ref b :: st) h Q :=
  ev_callI (as := []) hd hcal hl hfit hh rfl hst hm hce hsl (fun v1 h1 q => by obtain ⟨q1, q2⟩ := q; cases q1; exact kk h1 q2) (fun k1 h1 q => by cases q.1)
theorem ev_callVP1 {X : mX} {M M' : mMD} {mc ms pc : Nat} {L st : List Value} {h : mH} {Q : mO → mH → Prop} {idx : Nat} {b : Nat} {fs : List Value} {a1 : Value} {v : Option Value} (hd : decode (mBy M) pc = .ok (.invokevirtual idx, 3)) (hcal : CalI M' 1) (hl : Cond.methodLink (RN (mOwn M)) idx (mNm M') ∈ WL) (hfit : Fits M M') (hh : mHH M = []) (hb : h b = some (aO (mOwn M') fs)) (hst : (st.map fun v => v.category).sum ≤ 8) (hm : CnP X M' (.ref b :: [a1]) h v) (kk : Ev X M (none, none, 0, 0, mc, ms) (pc + 3) L (v.toList ++ st) h Q) : Ev X M (none, none, 0, 0, mc, ms) pc L (a1 :: .ref b :: st) h Q :=
  ev_callV (as := [a1]) hd hcal hl hfit hh hb rfl hst hm (Nat.zero_le _) (Nat.zero_le _) (fun v1 h1 q => by obtain ⟨q1, q2⟩ := q; cases q1; subst q2; exact kk) (fun k h1 q => by cases q.1)
theorem ev_callVU1 {X : mX} {M M' : mMD} {mc ms pc : Nat} {L st : List Value} {h : mH} {Q : mO → mH → Prop} {idx : Nat} {b : Nat} {fs : List Value} {a1 : Value} {P : Option Value → mH → Prop} (hd : decode (mBy M) pc = .ok (.invokevirtual idx, 3)) (hcal : CalI M' 1) (hl : Cond.methodLink (RN (mOwn M)) idx (mNm M') ∈ WL) (hfit : Fits M M') (hh : mHH M = []) (hb : h b = some (aO (mOwn M') fs)) (hst : (st.map fun v => v.category).sum ≤ 8) (hm : CnU X M' (.ref b :: [a1]) h P) (kk : ∀ (v : Option Value) (h1 : mH), P v h1 → Ev X M (none, none, 0, 0, mc, ms) (pc + 3) L (v.toList ++ st) h1 Q) : Ev X M (none, none, 0, 0, mc, ms) pc L (a1 :: .ref b :: st) h Q :=
  ev_callV (as := [a1]) hd hcal hl hfit hh hb rfl hst hm (Nat.zero_le _) (Nat.zero_le _) (fun v1 h1 q => by obtain ⟨v, q1, q2⟩ := q; cases q1; exact kk _ _ q2) (fun k h1 q => by obtain ⟨v, q1, q2⟩ := q; cases q1)
theorem ev_callVX1 {X : mX} {M M' : mMD} {pc : Nat} {L st : List Value} {h : mH} {Q : mO → mH → Prop} {idx k : Nat} {b : Nat} {fs : List Value} {a1 : Value} {P : mH → Prop} (hd : decode (mBy M) pc = .ok (.invokevirtual idx, 3)) (hcal : CalI M' 1) (hl : Cond.methodLink (RN (mOwn M)) idx (mNm M') ∈ WL) (hfit : Fits M M') (hh : mHH M = []) (hb : h b = some (aO (mOwn M') fs)) (hst : (st.map fun v => v.category).sum ≤ 8) (hm : CnX X M' (.ref b :: [a1]) h k P) (kx : ∀ (h1 : mH), P h1 → Q (.inr k) h1) : Ev X M BX pc L (a1 :: .ref b :: st) h Q :=
  ev_callV (as := [a1]) hd hcal hl hfit hh hb rfl hst hm (Nat.le_refl _) (Nat.le_refl _) (fun v1 h1 q => by cases q.1) (fun k1 h1 q => by obtain ⟨q1, q2⟩ := q; cases q1; exact kx h1 q2)
theorem ev_callSP1 {X : mX} {M M' : mMD} {mc ms pc : Nat} {L st : List Value} {h : mH} {Q : mO → mH → Prop} {idx : Nat} {a1 : Value} {v : Option Value} (hd : decode (mBy M) pc = .ok (.invokestatic idx, 3)) (hcal : CalS M' 1) (hl : Cond.methodLink (RN (mOwn M)) idx (mNm M') ∈ WL) (hfit : Fits M M') (hh : mHH M = []) (hst : (st.map fun v => v.category).sum ≤ 8) (hm : CnP X M' [a1] h v) (kk : Ev X M (none, none, 0, 0, mc, ms) (pc + 3) L (v.toList ++ st) h Q) : Ev X M (none, none, 0, 0, mc, ms) pc L (a1 :: st) h Q :=
  ev_callS (as := [a1]) hd hcal hl hfit hh rfl hst hm (Nat.zero_le _) (Nat.zero_le _) (fun v1 h1 q => by obtain ⟨q1, q2⟩ := q; cases q1; subst q2; exact kk) (fun k h1 q => by cases q.1)
theorem ev_callSU1 {X : mX} {M M' : mMD} {mc ms pc : Nat} {L st : List Value} {h : mH} {Q : mO → mH → Prop} {idx : Nat} {a1 : Value} {P : Option Value → mH → Prop} (hd : decode (mBy M) pc = .ok (.invokestatic idx, 3)) (hcal : CalS M' 1) (hl : Cond.methodLink (RN (mOwn M)) idx (mNm M') ∈ WL) (hfit : Fits M M') (hh : mHH M = []) (hst : (st.map fun v => v.category).sum ≤ 8) (hm : CnU X M' [a1] h P) (kk : ∀ (v : Option Value) (h1 : mH), P v h1 → Ev X M (none, none, 0, 0, mc, ms) (pc + 3) L (v.toList ++ st) h1 Q) : Ev X M (none, none, 0, 0, mc, ms) pc L (a1 :: st) h Q :=
  ev_callS (as := [a1]) hd hcal hl hfit hh rfl hst hm (Nat.zero_le _) (Nat.zero_le _) (fun v1 h1 q => by obtain ⟨v, q1, q2⟩ := q; cases q1; exact kk _ _ q2) (fun k h1 q => by obtain ⟨v, q1, q2⟩ := q; cases q1)
theorem ev_callSX1 {X : mX} {M M' : mMD} {pc : Nat} {L st : List Value} {h : mH} {Q : mO → mH → Prop} {idx k : Nat} {a1 : Value} {P : mH → Prop} (hd : decode (mBy M) pc = .ok (.invokestatic idx, 3)) (hcal : CalS M' 1) (hl : Cond.methodLink (RN (mOwn M)) idx (mNm M') ∈ WL) (hfit : Fits M M') (hh : mHH M = []) (hst : (st.map fun v => v.category).sum ≤ 8) (hm : CnX X M' [a1] h k P) (kx : ∀ (h1 : mH), P h1 → Q (.inr k) h1) : Ev X M BX pc L (a1 :: st) h Q :=
  ev_callS (as := [a1]) hd hcal hl hfit hh rfl hst hm (Nat.le_refl _) (Nat.le_refl _) (fun v1 h1 q => by cases q.1) (fun k1 h1 q => by obtain ⟨q1, q2⟩ := q; cases q1; exact kx h1 q2)
theorem ev_callVP2 {X : mX} {M M' : mMD} {mc ms pc : Nat} {L st : List Value} {h : mH} {Q : mO → mH → Prop} {idx : Nat} {b : Nat} {fs : List Value} {a1 a2 : Value} {v : Option Value} (hd : decode (mBy M) pc = .ok (.invokevirtual idx, 3)) (hcal : CalI M' 2) (hl : Cond.methodLink (RN (mOwn M)) idx (mNm M') ∈ WL) (hfit : Fits M M') (hh : mHH M = []) (hb : h b = some (aO (mOwn M') fs)) (hst : (st.map fun v => v.category).sum ≤ 8) (hm : CnP X M' (.ref b :: [a1, a2]) h v) (kk : Ev X M (none, none, 0, 0, mc, ms) (pc + 3) L (v.toList ++ st) h Q) : Ev X M (none, none, 0, 0, mc, ms) pc L (a2 :: a1 :: .ref b :: st) h Q :=
  ev_callV (as := [a1, a2]) hd hcal hl hfit hh hb rfl hst hm (Nat.zero_le _) (Nat.zero_le _) (fun v1 h1 q => by obtain ⟨q1, q2⟩ := q; cases q1; subst q2; exact kk) (fun k h1 q => by cases q.1)
theorem ev_callVU2 {X : mX} {M M' : mMD} {mc ms pc : Nat} {L st : List Value} {h : mH} {Q : mO → mH → Prop} {idx : Nat} {b : Nat} {fs : List Value} {a1 a2 : Value} {P : Option Value → mH → Prop} (hd : decode (mBy M) pc = .ok (.invokevirtual idx, 3)) (hcal : CalI M' 2) (hl : Cond.methodLink (RN (mOwn M)) idx (mNm M') ∈ WL) (hfit : Fits M M') (hh : mHH M = []) (hb : h b = some (aO (mOwn M') fs)) (hst : (st.map fun v => v.category).sum ≤ 8) (hm : CnU X M' (.ref b :: [a1, a2]) h P) (kk : ∀ (v : Option Value) (h1 : mH), P v h1 → Ev X M (none, none, 0, 0, mc, ms) (pc + 3) L (v.toList ++ st) h1 Q) : Ev X M (none, none, 0, 0, mc, ms) pc L (a2 :: a1 :: .ref b :: st) h Q :=
  ev_callV (as := [a1, a2]) hd hcal hl hfit hh hb rfl hst hm (Nat.zero_le _) (Nat.zero_le _) (fun v1 h1 q => by obtain ⟨v, q1, q2⟩ := q; cases q1; exact kk _ _ q2) (fun k h1 q => by obtain ⟨v, q1, q2⟩ := q; cases q1)
theorem ev_callVX2 {X : mX} {M M' : mMD} {pc : Nat} {L st : List Value} {h : mH} {Q : mO → mH → Prop} {idx k : Nat} {b : Nat} {fs : List Value} {a1 a2 : Value} {P : mH → Prop} (hd : decode (mBy M) pc = .ok (.invokevirtual idx, 3)) (hcal : CalI M' 2) (hl : Cond.methodLink (RN (mOwn M)) idx (mNm M') ∈ WL) (hfit : Fits M M') (hh : mHH M = []) (hb : h b = some (aO (mOwn M') fs)) (hst : (st.map fun v => v.category).sum ≤ 8) (hm : CnX X M' (.ref b :: [a1, a2]) h k P) (kx : ∀ (h1 : mH), P h1 → Q (.inr k) h1) : Ev X M BX pc L (a2 :: a1 :: .ref b :: st) h Q :=
  ev_callV (as := [a1, a2]) hd hcal hl hfit hh hb rfl hst hm (Nat.le_refl _) (Nat.le_refl _) (fun v1 h1 q => by cases q.1) (fun k1 h1 q => by obtain ⟨q1, q2⟩ := q; cases q1; exact kx h1 q2)
theorem ev_callSP2 {X : mX} {M M' : mMD} {mc ms pc : Nat} {L st : List Value} {h : mH} {Q : mO → mH → Prop} {idx : Nat} {a1 a2 : Value} {v : Option Value} (hd : decode (mBy M) pc = .ok (.invokestatic idx, 3)) (hcal : CalS M' 2) (hl : Cond.methodLink (RN (mOwn M)) idx (mNm M') ∈ WL) (hfit : Fits M M') (hh : mHH M = []) (hst : (st.map fun v => v.category).sum ≤ 8) (hm : CnP X M' [a1, a2] h v) (kk : Ev X M (none, none, 0, 0, mc, ms) (pc + 3) L (v.toList ++ st) h Q) : Ev X M (none, none, 0, 0, mc, ms) pc L (a2 :: a1 :: st) h Q :=
  ev_callS (as := [a1, a2]) hd hcal hl hfit hh rfl hst hm (Nat.zero_le _) (Nat.zero_le _) (fun v1 h1 q => by obtain ⟨q1, q2⟩ := q; cases q1; subst q2; exact kk) (fun k h1 q => by cases q.1)
theorem ev_callSU2 {X : mX} {M M' : mMD} {mc ms pc : Nat} {L st : List Value} {h : mH} {Q : mO → mH → Prop} {idx : Nat} {a1 a2 : Value} {P : Option Value → mH → Prop} (hd : decode (mBy M) pc = .ok (.invokestatic idx, 3)) (hcal : CalS M' 2) (hl : Cond.methodLink (RN (mOwn M)) idx (mNm M') ∈ WL) (hfit : Fits M M') (hh : mHH M = []) (hst : (st.map fun v => v.category).sum ≤ 8) (hm : CnU X M' [a1, a2] h P) (kk : ∀ (v : Option Value) (h1 : mH), P v h1 → Ev X M (none, none, 0, 0, mc, ms) (pc + 3) L (v.toList ++ st) h1 Q) : Ev X M (none, none, 0, 0, mc, ms) pc L (a2 :: a1 :: st) h Q :=
  ev_callS (as := [a1, a2]) hd hcal hl hfit hh rfl hst hm (Nat.zero_le _) (Nat.zero_le _) (fun v1 h1 q => by obtain ⟨v, q1, q2⟩ := q; cases q1; exact kk _ _ q2) (fun k h1 q => by obtain ⟨v, q1, q2⟩ := q; cases q1)
theorem ev_callSX2 {X : mX} {M M' : mMD} {pc : Nat} {L st : List Value} {h : mH} {Q : mO → mH → Prop} {idx k : Nat} {a1 a2 : Value} {P : mH → Prop} (hd : decode (mBy M) pc = .ok (.invokestatic idx, 3)) (hcal : CalS M' 2) (hl : Cond.methodLink (RN (mOwn M)) idx (mNm M') ∈ WL) (hfit : Fits M M') (hh : mHH M = []) (hst : (st.map fun v => v.category).sum ≤ 8) (hm : CnX X M' [a1, a2] h k P) (kx : ∀ (h1 : mH), P h1 → Q (.inr k) h1) : Ev X M BX pc L (a2 :: a1 :: st) h Q :=
  ev_callS (as := [a1, a2]) hd hcal hl hfit hh rfl hst hm (Nat.le_refl _) (Nat.le_refl _) (fun v1 h1 q => by cases q.1) (fun k1 h1 q => by obtain ⟨q1, q2⟩ := q; cases q1; exact kx h1 q2)
theorem ev_callVP3 {X : mX} {M M' : mMD} {mc ms pc : Nat} {L st : List Value} {h : mH} {Q : mO → mH → Prop} {idx : Nat} {b : Nat} {fs : List Value} {a1 a2 a3 : Value} {v : Option Value} (hd : decode (mBy M) pc = .ok (.invokevirtual idx, 3)) (hcal : CalI M' 3) (hl : Cond.methodLink (RN (mOwn M)) idx (mNm M') ∈ WL) (hfit : Fits M M') (hh : mHH M = []) (hb : h b = some (aO (mOwn M') fs)) (hst : (st.map fun v => v.category).sum ≤ 8) (hm : CnP X M' (.ref b :: [a1, a2, a3]) h v) (kk : Ev X M (none, none, 0, 0, mc, ms) (pc + 3) L (v.toList ++ st) h Q) : Ev X M (none, none, 0, 0, mc, ms) pc L (a3 :: a2 :: a1 :: .ref b :: st) h Q :=
  ev_callV (as := [a1, a2, a3]) hd hcal hl hfit hh hb rfl hst hm (Nat.zero_le _) (Nat.zero_le _) (fun v1 h1 q => by obtain ⟨q1, q2⟩ := q; cases q1; subst q2; exact kk) (fun k h1 q => by cases q.1)
theorem ev_callVU3 {X : mX} {M M' : mMD} {mc ms pc : Nat} {L st : List Value} {h : mH} {Q : mO → mH → Prop} {idx : Nat} {b : Nat} {fs : List Value} {a1 a2 a3 : Value} {P : Option Value → mH → Prop} (hd : decode (mBy M) pc = .ok (.invokevirtual idx, 3)) (hcal : CalI M' 3) (hl : Cond.methodLink (RN (mOwn M)) idx (mNm M') ∈ WL) (hfit : Fits M M') (hh : mHH M = []) (hb : h b = some (aO (mOwn M') fs)) (hst : (st.map fun v => v.category).sum ≤ 8) (hm : CnU X M' (.ref b :: [a1, a2, a3]) h P) (kk : ∀ (v : Option Value) (h1 : mH), P v h1 → Ev X M (none, none, 0, 0, mc, ms) (pc + 3) L (v.toList ++ st) h1 Q) : Ev X M (none, none, 0, 0, mc, ms) pc L (a3 :: a2 :: a1 :: .ref b :: st) h Q :=
  ev_callV (as := [a1, a2, a3]) hd hcal hl hfit hh hb rfl hst hm (Nat.zero_le _) (Nat.zero_le _) (fun v1 h1 q => by obtain ⟨v, q1, q2⟩ := q; cases q1; exact kk _ _ q2) (fun k h1 q => by obtain ⟨v, q1, q2⟩ := q; cases q1)
theorem ev_callVX3 {X : mX} {M M' : mMD} {pc : Nat} {L st : List Value} {h : mH} {Q : mO → mH → Prop} {idx k : Nat} {b : Nat} {fs : List Value} {a1 a2 a3 : Value} {P : mH → Prop} (hd : decode (mBy M) pc = .ok (.invokevirtual idx, 3)) (hcal : CalI M' 3) (hl : Cond.methodLink (RN (mOwn M)) idx (mNm M') ∈ WL) (hfit : Fits M M') (hh : mHH M = []) (hb : h b = some (aO (mOwn M') fs)) (hst : (st.map fun v => v.category).sum ≤ 8) (hm : CnX X M' (.ref b :: [a1, a2, a3]) h k P) (kx : ∀ (h1 : mH), P h1 → Q (.inr k) h1) : Ev X M BX pc L (a3 :: a2 :: a1 :: .ref b :: st) h Q :=
  ev_callV (as := [a1, a2, a3]) hd hcal hl hfit hh hb rfl hst hm (Nat.le_refl _) (Nat.le_refl _) (fun v1 h1 q => by cases q.1) (fun k1 h1 q => by obtain ⟨q1, q2⟩ := q; cases q1; exact kx h1 q2)
theorem ev_callSP3 {X : mX} {M M' : mMD} {mc ms pc : Nat} {L st : List Value} {h : mH} {Q : mO → mH → Prop} {idx : Nat} {a1 a2 a3 : Value} {v : Option Value} (hd : decode (mBy M) pc = .ok (.invokestatic idx, 3)) (hcal : CalS M' 3) (hl : Cond.methodLink (RN (mOwn M)) idx (mNm M') ∈ WL) (hfit : Fits M M') (hh : mHH M = []) (hst : (st.map fun v => v.category).sum ≤ 8) (hm : CnP X M' [a1, a2, a3] h v) (kk : Ev X M (none, none, 0, 0, mc, ms) (pc + 3) L (v.toList ++ st) h Q) : Ev X M (none, none, 0, 0, mc, ms) pc L (a3 :: a2 :: a1 :: st) h Q :=
  ev_callS (as := [a1, a2, a3]) hd hcal hl hfit hh rfl hst hm (Nat.zero_le _) (Nat.zero_le _) (fun v1 h1 q => by obtain ⟨q1, q2⟩ := q; cases q1; subst q2; exact kk) (fun k h1 q => by cases q.1)
theorem ev_callSU3 {X : mX} {M M' : mMD} {mc ms pc : Nat} {L st : List Value} {h : mH} {Q : mO → mH → Prop} {idx : Nat} {a1 a2 a3 : Value} {P : Option Value → mH → Prop} (hd : decode (mBy M) pc = .ok (.invokestatic idx, 3)) (hcal : CalS M' 3) (hl : Cond.methodLink (RN (mOwn M)) idx (mNm M') ∈ WL) (hfit : Fits M M') (hh : mHH M = []) (hst : (st.map fun v => v.category).sum ≤ 8) (hm : CnU X M' [a1, a2, a3] h P) (kk : ∀ (v : Option Value) (h1 : mH), P v h1 → Ev X M (none, none, 0, 0, mc, ms) (pc + 3) L (v.toList ++ st) h1 Q) : Ev X M (none, none, 0, 0, mc, ms) pc L (a3 :: a2 :: a1 :: st) h Q :=
  ev_callS (as := [a1, a2, a3]) hd hcal hl hfit hh rfl hst hm (Nat.zero_le _) (Nat.zero_le _) (fun v1 h1 q => by obtain ⟨v, q1, q2⟩ := q; cases q1; exact kk _ _ q2) (fun k h1 q => by obtain ⟨v, q1, q2⟩ := q; cases q1)
theorem ev_callSX3 {X : mX} {M M' : mMD} {pc : Nat} {L st : List Value} {h : mH} {Q : mO → mH → Prop} {idx k : Nat} {a1 a2 a3 : Value} {P : mH → Prop} (hd : decode (mBy M) pc = .ok (.invokestatic idx, 3)) (hcal : CalS M' 3) (hl : Cond.methodLink (RN (mOwn M)) idx (mNm M') ∈ WL) (hfit : Fits M M') (hh : mHH M = []) (hst : (st.map fun v => v.category).sum ≤ 8) (hm : CnX X M' [a1, a2, a3] h k P) (kx : ∀ (h1 : mH), P h1 → Q (.inr k) h1) : Ev X M BX pc L (a3 :: a2 :: a1 :: st) h Q :=
  ev_callS (as := [a1, a2, a3]) hd hcal hl hfit hh rfl hst hm (Nat.le_refl _) (Nat.le_refl _) (fun v1 h1 q => by cases q.1) (fun k1 h1 q => by obtain ⟨q1, q2⟩ := q; cases q1; exact kx h1 q2)
theorem ev_callVP4 {X : mX} {M M' : mMD} {mc ms pc : Nat} {L st : List Value} {h : mH} {Q : mO → mH → Prop} {idx : Nat} {b : Nat} {fs : List Value} {a1 a2 a3 a4 : Value} {v : Option Value} (hd : decode (mBy M) pc = .ok (.invokevirtual idx, 3)) (hcal : CalI M' 4) (hl : Cond.methodLink (RN (mOwn M)) idx (mNm M') ∈ WL) (hfit : Fits M M') (hh : mHH M = []) (hb : h b = some (aO (mOwn M') fs)) (hst : (st.map fun v => v.category).sum ≤ 8) (hm : CnP X M' (.ref b :: [a1, a2, a3, a4]) h v) (kk : Ev X M (none, none, 0, 0, mc, ms) (pc + 3) L (v.toList ++ st) h Q) : Ev X M (none, none, 0, 0, mc, ms) pc L (a4 :: a3 :: a2 :: a1 :: .ref b :: st) h Q :=
  ev_callV (as := [a1, a2, a3, a4]) hd hcal hl hfit hh hb rfl hst hm (Nat.zero_le _) (Nat.zero_le _) (fun v1 h1 q => by obtain ⟨q1, q2⟩ := q; cases q1; subst q2; exact kk) (fun k h1 q => by cases q.1)
theorem ev_callVU4 {X : mX} {M M' : mMD} {mc ms pc : Nat} {L st : List Value} {h : mH} {Q : mO → mH → Prop} {idx : Nat} {b : Nat} {fs : List Value} {a1 a2 a3 a4 : Value} {P : Option Value → mH → Prop} (hd : decode (mBy M) pc = .ok (.invokevirtual idx, 3)) (hcal : CalI M' 4) (hl : Cond.methodLink (RN (mOwn M)) idx (mNm M') ∈ WL) (hfit : Fits M M') (hh : mHH M = []) (hb : h b = some (aO (mOwn M') fs)) (hst : (st.map fun v => v.category).sum ≤ 8) (hm : CnU X M' (.ref b :: [a1, a2, a3, a4]) h P) (kk : ∀ (v : Option Value) (h1 : mH), P v h1 → Ev X M (none, none, 0, 0, mc, ms) (pc + 3) L (v.toList ++ st) h1 Q) : Ev X M (none, none, 0, 0, mc, ms) pc L (a4 :: a3 :: a2 :: a1 :: .ref b :: st) h Q :=
  ev_callV (as := [a1, a2, a3, a4]) hd hcal hl hfit hh hb rfl hst hm (Nat.zero_le _) (Nat.zero_le _) (fun v1 h1 q => by obtain ⟨v, q1, q2⟩ := q; cases q1; exact kk _ _ q2) (fun k h1 q => by obtain ⟨v, q1, q2⟩ := q; cases q1)
theorem ev_callVX4 {X : mX} {M M' : mMD} {pc : Nat} {L st : List Value} {h : mH} {Q : mO → mH → Prop} {idx k : Nat} {b : Nat} {fs : List Value} {a1 a2 a3 a4 : Value} {P : mH → Prop} (hd : decode (mBy M) pc = .ok (.invokevirtual idx, 3)) (hcal : CalI M' 4) (hl : Cond.methodLink (RN (mOwn M)) idx (mNm M') ∈ WL) (hfit : Fits M M') (hh : mHH M = []) (hb : h b = some (aO (mOwn M') fs)) (hst : (st.map fun v => v.category).sum ≤ 8) (hm : CnX X M' (.ref b :: [a1, a2, a3, a4]) h k P) (kx : ∀ (h1 : mH), P h1 → Q (.inr k) h1) : Ev X M BX pc L (a4 :: a3 :: a2 :: a1 :: .ref b :: st) h Q :=
  ev_callV (as := [a1, a2, a3, a4]) hd hcal hl hfit hh hb rfl hst hm (Nat.le_refl _) (Nat.le_refl _) (fun v1 h1 q => by cases q.1) (fun k1 h1 q => by obtain ⟨q1, q2⟩ := q; cases q1; exact kx h1 q2)
theorem ev_callSP4 {X : mX} {M M' : mMD} {mc ms pc : Nat} {L st : List Value} {h : mH} {Q : mO → mH → Prop} {idx : Nat} {a1 a2 a3 a4 : Value} {v : Option Value} (hd : decode (mBy M) pc = .ok (.invokestatic idx, 3)) (hcal : CalS M' 4) (hl : Cond.methodLink (RN (mOwn M)) idx (mNm M') ∈ WL) (hfit : Fits M M') (hh : mHH M = []) (hst : (st.map fun v => v.category).sum ≤ 8) (hm : CnP X M' [a1, a2, a3, a4] h v) (kk : Ev X M (none, none, 0, 0, mc, ms) (pc + 3) L (v.toList ++ st) h Q) : Ev X M (none, none, 0, 0, mc, ms) pc L (a4 :: a3 :: a2 :: a1 :: st) h Q :=
  ev_callS (as := [a1, a2, a3, a4]) hd hcal hl hfit hh rfl hst hm (Nat.zero_le _) (Nat.zero_le _) (fun v1 h1 q => by obtain ⟨q1, q2⟩ := q; cases q1; subst q2; exact kk) (fun k h1 q => by cases q.1)
theorem ev_callSU4 {X : mX} {M M' : mMD} {mc ms pc : Nat} {L st : List Value} {h : mH} {Q : mO → mH → Prop} {idx : Nat} {a1 a2 a3 a4 : Value} {P : Option Value → mH → Prop} (hd : decode (mBy M) pc = .ok (.invokestatic idx, 3)) (hcal : CalS M' 4) (hl : Cond.methodLink (RN (mOwn M)) idx (mNm M') ∈ WL) (hfit : Fits M M') (hh : mHH M = []) (hst : (st.map fun v => v.category).sum ≤ 8) (hm : CnU X M' [a1, a2, a3, a4] h P) (kk : ∀ (v : Option Value) (h1 : mH), P v h1 → Ev X M (none, none, 0, 0, mc, ms) (pc + 3) L (v.toList ++ st) h1 Q) : Ev X M (none, none, 0, 0, mc, ms) pc L (a4 :: a3 :: a2 :: a1 :: st) h Q :=
  ev_callS (as := [a1, a2, a3, a4]) hd hcal hl hfit hh rfl hst hm (Nat.zero_le _) (Nat.zero_le _) (fun v1 h1 q => by obtain ⟨v, q1, q2⟩ := q; cases q1; exact kk _ _ q2) (fun k h1 q => by obtain ⟨v, q1, q2⟩ := q; cases q1)
theorem ev_callSX4 {X : mX} {M M' : mMD} {pc : Nat} {L st : List Value} {h : mH} {Q : mO → mH → Prop} {idx k : Nat} {a1 a2 a3 a4 : Value} {P : mH → Prop} (hd : decode (mBy M) pc = .ok (.invokestatic idx, 3)) (hcal : CalS M' 4) (hl : Cond.methodLink (RN (mOwn M)) idx (mNm M') ∈ WL) (hfit : Fits M M') (hh : mHH M = []) (hst : (st.map fun v => v.category).sum ≤ 8) (hm : CnX X M' [a1, a2, a3, a4] h k P) (kx : ∀ (h1 : mH), P h1 → Q (.inr k) h1) : Ev X M BX pc L (a4 :: a3 :: a2 :: a1 :: st) h Q :=
  ev_callS (as := [a1, a2, a3, a4]) hd hcal hl hfit hh rfl hst hm (Nat.le_refl _) (Nat.le_refl _) (fun v1 h1 q => by cases q.1) (fun k1 h1 q => by obtain ⟨q1, q2⟩ := q; cases q1; exact kx h1 q2)
theorem ev_callVP5 {X : mX} {M M' : mMD} {mc ms pc : Nat} {L st : List Value} {h : mH} {Q : mO → mH → Prop} {idx : Nat} {b : Nat} {fs : List Value} {a1 a2 a3 a4 a5 : Value} {v : Option Value} (hd : decode (mBy M) pc = .ok (.invokevirtual idx, 3)) (hcal : CalI M' 5) (hl : Cond.methodLink (RN (mOwn M)) idx (mNm M') ∈ WL) (hfit : Fits M M') (hh : mHH M = []) (hb : h b = some (aO (mOwn M') fs)) (hst : (st.map fun v => v.category).sum ≤ 8) (hm : CnP X M' (.ref b :: [a1, a2, a3, a4, a5]) h v) (kk : Ev X M (none, none, 0, 0, mc, ms) (pc + 3) L (v.toList ++ st) h Q) : Ev X M (none, none, 0, 0, mc, ms) pc L (a5 :: a4 :: a3 :: a2 :: a1 :: .ref b :: st) h Q :=
  ev_callV (as := [a1, a2, a3, a4, a5]) hd hcal hl hfit hh hb rfl hst hm (Nat.zero_le _) (Nat.zero_le _) (fun v1 h1 q => by obtain ⟨q1, q2⟩ := q; cases q1; subst q2; exact kk) (fun k h1 q => by cases q.1)
theorem ev_callVU5 {X : mX} {M M' : mMD} {mc ms pc : Nat} {L st : List Value} {h : mH} {Q : mO → mH → Prop} {idx : Nat} {b : Nat} {fs : List Value} {a1 a2 a3 a4 a5 : Value} {P : Option Value → mH → Prop} (hd : decode (mBy M) pc = .ok (.invokevirtual idx, 3)) (hcal : CalI M' 5) (hl : Cond.methodLink (RN (mOwn M)) idx (mNm M') ∈ WL) (hfit : Fits M M') (hh : mHH M = []) (hb : h b = some (aO (mOwn M') fs)) (hst : (st.map fun v => v.category).sum ≤ 8) (hm : CnU X M' (.ref b :: [a1, a2, a3, a4, a5]) h P) (kk : ∀ (v : Option Value) (h1 : mH), P v h1 → Ev X M (none, none, 0, 0, mc, ms) (pc + 3) L (v.toList ++ st) h1 Q) : Ev X M (none, none, 0, 0, mc, ms) pc L (a5 :: a4 :: a3 :: a2 :: a1 :: .ref b :: st) h Q :=
  ev_callV (as := [a1, a2, a3, a4, a5]) hd hcal hl hfit hh hb rfl hst hm (Nat.zero_le _) (Nat.zero_le _) (fun v1 h1 q => by obtain ⟨v, q1, q2⟩ := q; cases q1; exact kk _ _ q2) (fun k h1 q => by obtain ⟨v, q1, q2⟩ := q; cases q1)
theorem ev_callVX5 {X : mX} {M M' : mMD} {pc : Nat} {L st : List Value} {h : mH} {Q : mO → mH → Prop} {idx k : Nat} {b : Nat} {fs : List Value} {a1 a2 a3 a4 a5 : Value} {P : mH → Prop} (hd : decode (mBy M) pc = .ok (.invokevirtual idx, 3)) (hcal : CalI M' 5) (hl : Cond.methodLink (RN (mOwn M)) idx (mNm M') ∈ WL) (hfit : Fits M M') (hh : mHH M = []) (hb : h b = some (aO (mOwn M') fs)) (hst : (st.map fun v => v.category).sum ≤ 8) (hm : CnX X M' (.ref b :: [a1, a2, a3, a4, a5]) h k P) (kx : ∀ (h1 : mH), P h1 → Q (.inr k) h1) : Ev X M BX pc L (a5 :: a4 :: a3 :: a2 :: a1 :: .ref b :: st) h Q :=
  ev_callV (as := [a1, a2, a3, a4, a5]) hd hcal hl hfit hh hb rfl hst hm (Nat.le_refl _) (Nat.le_refl _) (fun v1 h1 q => by cases q.1) (fun k1 h1 q => by obtain ⟨q1, q2⟩ := q; cases q1; exact kx h1 q2)
theorem ev_callSP5 {X : mX} {M M' : mMD} {mc ms pc : Nat} {L st : List Value} {h : mH} {Q : mO → mH → Prop} {idx : Nat} {a1 a2 a3 a4 a5 : Value} {v : Option Value} (hd : decode (mBy M) pc = .ok (.invokestatic idx, 3)) (hcal : CalS M' 5) (hl : Cond.methodLink (RN (mOwn M)) idx (mNm M') ∈ WL) (hfit : Fits M M') (hh : mHH M = []) (hst : (st.map fun v => v.category).sum ≤ 8) (hm : CnP X M' [a1, a2, a3, a4, a5] h v) (kk : Ev X M (none, none, 0, 0, mc, ms) (pc + 3) L (v.toList ++ st) h Q) : Ev X M (none, none, 0, 0, mc, ms) pc L (a5 :: a4 :: a3 :: a2 :: a1 :: st) h Q :=
  ev_callS (as := [a1, a2, a3, a4, a5]) hd hcal hl hfit hh rfl hst hm (Nat.zero_le _) (Nat.zero_le _) (fun v1 h1 q => by obtain ⟨q1, q2⟩ := q; cases q1; subst q2; exact kk) (fun k h1 q => by cases q.1)
theorem ev_callSU5 {X : mX} {M M' : mMD} {mc ms pc : Nat} {L st : List Value} {h : mH} {Q : mO → mH → Prop} {idx : Nat} {a1 a2 a3 a4 a5 : Value} {P : Option Value → mH → Prop} (hd : decode (mBy M) pc = .ok (.invokestatic idx, 3)) (hcal : CalS M' 5) (hl : Cond.methodLink (RN (mOwn M)) idx (mNm M') ∈ WL) (hfit : Fits M M') (hh : mHH M = []) (hst : (st.map fun v => v.category).sum ≤ 8) (hm : CnU X M' [a1, a2, a3, a4, a5] h P) (kk : ∀ (v : Option Value) (h1 : mH), P v h1 → Ev X M (none, none, 0, 0, mc, ms) (pc + 3) L (v.toList ++ st) h1 Q) : Ev X M (none, none, 0, 0, mc, ms) pc L (a5 :: a4 :: a3 :: a2 :: a1 :: st) h Q :=
  ev_callS (as := [a1, a2, a3, a4, a5]) hd hcal hl hfit hh rfl hst hm (Nat.zero_le _) (Nat.zero_le _) (fun v1 h1 q => by obtain ⟨v, q1, q2⟩ := q; cases q1; exact kk _ _ q2) (fun k h1 q => by obtain ⟨v, q1, q2⟩ := q; cases q1)
theorem ev_callSX5 {X : mX} {M M' : mMD} {pc : Nat} {L st : List Value} {h : mH} {Q : mO → mH → Prop} {idx k : Nat} {a1 a2 a3 a4 a5 : Value} {P : mH → Prop} (hd : decode (mBy M) pc = .ok (.invokestatic idx, 3)) (hcal : CalS M' 5) (hl : Cond.methodLink (RN (mOwn M)) idx (mNm M') ∈ WL) (hfit : Fits M M') (hh : mHH M = []) (hst : (st.map fun v => v.category).sum ≤ 8) (hm : CnX X M' [a1, a2, a3, a4, a5] h k P) (kx : ∀ (h1 : mH), P h1 → Q (.inr k) h1) : Ev X M BX pc L (a5 :: a4 :: a3 :: a2 :: a1 :: st) h Q :=
  ev_callS (as := [a1, a2, a3, a4, a5]) hd hcal hl hfit hh rfl hst hm (Nat.le_refl _) (Nat.le_refl _) (fun v1 h1 q => by cases q.1) (fun k1 h1 q => by obtain ⟨q1, q2⟩ := q; cases q1; exact kx h1 q2)
end
section
def m_X6_init : mMD := (6, yX6_init, cX6_init, 1, none, [], 4, 84)
def m_X6_put : mMD := (6, yX6_put, cX6_put, 3, (some .int), [], 7, 125)
def m_X6_takeOut : mMD := (6, yX6_takeOut, cX6_takeOut, 5, (some .int), [], 7, 125)
def m_X6_copy : mMD := (6, yX6_copy, cX6_copy, 3, (some .int), [], 7, 125)
def m_X6_rotate : mMD := (6, yX6_rotate, cX6_rotate, 4, (some .int), [], 7, 125)
def m_X6_drop : mMD := (6, yX6_drop, cX6_drop, 4, (some .int), [], 7, 110)
def m_X6_sweep : mMD := (6, yX6_sweep, cX6_sweep, 1, (some .int), [], 4, 102)
def m_X6_set : mMD := (6, yX6_set, cX6_set, 4, (some .int), [], 7, 111)
def m_X6_append : mMD := (6, yX6_append, cX6_append, 2, (some .int), [], 6, 90)
def m_X6_clearBuffer : mMD := (6, yX6_clearBuffer, cX6_clearBuffer, 2, (some .int), [], 1, 20)
def m_X6_sign : mMD := (6, yX6_sign, cX6_sign, 5, (some .int), [], 7, 111)
def m_X6_piece : mMD := (6, yX6_piece, cX6_piece, 5, (some .int), [], 7, 111)
def m_X6_slot : mMD := (6, yX6_slot, cX6_slot, 4, (some .int), [], 7, 111)
def m_X6_text : mMD := (6, yX6_text, cX6_text, 4, (some .int), [], 7, 111)
def m_X6_count : mMD := (6, yX6_count, cX6_count, 3, (some .int), [], 7, 111)
def m_X6_ifPut : mMD := (6, yX6_ifPut, cX6_ifPut, 3, (some .int), [], 7, 111)
def m_X6_requireText : mMD := (6, yX6_requireText, cX6_requireText, 1, none, [], 6, 90)
def m_X6_requirePlace : mMD := (6, yX6_requirePlace, cX6_requirePlace, 2, none, [], 6, 90)
def m_X6_requireSetting : mMD := (6, yX6_requireSetting, cX6_requireSetting, 1, none, [], 6, 90)
def m_X6_requireValue : mMD := (6, yX6_requireValue, cX6_requireValue, 2, none, [], 6, 90)
def m_X6_requireWhat : mMD := (6, yX6_requireWhat, cX6_requireWhat, 2, none, [], 6, 90)
def m_X6_requireCompleteBuffer : mMD := (6, yX6_requireCompleteBuffer, cX6_requireCompleteBuffer, 1, none, [], 6, 90)
def m_X6_changeToTrial : mMD := (6, yX6_changeToTrial, cX6_changeToTrial, 2, (some .int), [], 6, 104)
def m_X0_init : mMD := (0, yX0_init, cX0_init, 1, none, [], 1, 16)
def m_X0_clear : mMD := (0, yX0_clear, cX0_clear, 1, none, [], 0, 0)
def m_X0_add : mMD := (0, yX0_add, cX0_add, 2, none, [], 0, 0)
def m_X0_isLetter : mMD := (0, yX0_isLetter, cX0_isLetter, 1, (some .boolean), [], 0, 0)
def m_X0_signsAddedAt : mMD := (0, yX0_signsAddedAt, cX0_signsAddedAt, 4, (some .int), [], 1, 20)
def m_X0_errorIndex : mMD := (0, yX0_errorIndex, cX0_errorIndex, 4, (some .int), [], 2, 43)
def m_X0_isComplete : mMD := (0, yX0_isComplete, cX0_isComplete, 1, (some .boolean), [], 3, 66)
def m_X0_readInto : mMD := (0, yX0_readInto, cX0_readInto, 6, none, [], 2, 43)
def m_X1_init : mMD := (1, yX1_init, cX1_init, 1, none, [], 1, 16)
def m_X1_clear : mMD := (1, yX1_clear, cX1_clear, 1, none, [], 0, 0)
def m_X1_addSign : mMD := (1, yX1_addSign, cX1_addSign, 2, none, [], 0, 0)
def m_X1_addSigns : mMD := (1, yX1_addSigns, cX1_addSigns, 5, none, [], 1, 21)
def m_X1_becomeSignsOf : mMD := (1, yX1_becomeSignsOf, cX1_becomeSignsOf, 2, none, [], 2, 45)
def m_X1_become : mMD := (1, yX1_become, cX1_become, 2, none, [], 1, 38)
def m_X1_cutBy : mMD := (1, yX1_cutBy, cX1_cutBy, 7, none, [], 2, 48)
def m_X1_addPiece : mMD := (1, yX1_addPiece, cX1_addPiece, 4, none, [], 1, 25)
def m_X1_packed : mMD := (1, yX1_packed, cX1_packed, 6, (some .long), [], 0, 0)
def m_X1_pieceAt : mMD := (1, yX1_pieceAt, cX1_pieceAt, 3, (some .int), [], 0, 0)
def m_X1_endsBehind : mMD := (1, yX1_endsBehind, cX1_endsBehind, 3, (some .boolean), [], 1, 22)
def m_X1_has : mMD := (1, yX1_has, cX1_has, 3, (some .boolean), [], 1, 24)
def m_X1_hasAheadOf : mMD := (1, yX1_hasAheadOf, cX1_hasAheadOf, 5, (some .boolean), [], 0, 0)
def m_X1_unlikePieces : mMD := (1, yX1_unlikePieces, cX1_unlikePieces, 1, (some .int), [], 3, 69)
def m_X1_unlikePiecesAlsoIn : mMD := (1, yX1_unlikePiecesAlsoIn, cX1_unlikePiecesAlsoIn, 4, (some .int), [], 2, 46)
def m_X1_forcedPieces : mMD := (1, yX1_forcedPieces, cX1_forcedPieces, 3, (some .int), [], 0, 0)
def m_X1_longestPiece : mMD := (1, yX1_longestPiece, cX1_longestPiece, 3, (some .int), [], 1, 21)
def m_X2_init : mMD := (2, yX2_init, cX2_init, 2, none, [], 3, 63)
def m_X2_push : mMD := (2, yX2_push, cX2_push, 2, none, [], 3, 81)
def m_X2_dropOldest : mMD := (2, yX2_dropOldest, cX2_dropOldest, 3, none, [], 0, 0)
def m_X3_init : mMD := (3, yX3_init, cX3_init, 1, none, [], 1, 22)
def m_X3_become : mMD := (3, yX3_become, cX3_become, 2, none, [], 1, 38)
def m_X3_sumAt : mMD := (3, yX3_sumAt, cX3_sumAt, 5, (some .int), [], 0, 0)
def m_X3_endPieceAt : mMD := (3, yX3_endPieceAt, cX3_endPieceAt, 4, (some .boolean), [], 1, 24)
def m_X4_init : mMD := (4, yX4_init, cX4_init, 2, none, [], 2, 42)
def m_X4_become : mMD := (4, yX4_become, cX4_become, 3, none, [], 2, 59)
def m_X4_becomeChanged : mMD := (4, yX4_becomeChanged, cX4_becomeChanged, 4, (some .boolean), [], 3, 81)
def m_X4_textsWith : mMD := (4, yX4_textsWith, cX4_textsWith, 5, (some .int), [], 2, 46)
def m_X4_signsOwnedAlone : mMD := (4, yX4_signsOwnedAlone, cX4_signsOwnedAlone, 5, (some .int), [], 3, 70)
def m_X4_signs : mMD := (4, yX4_signs, cX4_signs, 3, (some .int), [], 0, 0)
def m_X4_pieces : mMD := (4, yX4_pieces, cX4_pieces, 3, (some .int), [], 0, 0)
def m_X5_init : mMD := (5, yX5_init, cX5_init, 1, none, [], 1, 16)
def m_X5_become : mMD := (5, yX5_become, cX5_become, 2, none, [], 1, 38)
def m_X5_isFree : mMD := (5, yX5_isFree, cX5_isFree, 2, (some .boolean), [], 0, 0)
def m_X5_isUnowned : mMD := (5, yX5_isUnowned, cX5_isUnowned, 2, (some .boolean), [], 0, 0)
def m_X5_slotOf : mMD := (5, yX5_slotOf, cX5_slotOf, 4, (some .int), [], 0, 0)
def m_X5_firstSign : mMD := (5, yX5_firstSign, cX5_firstSign, 2, (some .int), [], 0, 0)
def m_X5_lastSign : mMD := (5, yX5_lastSign, cX5_lastSign, 2, (some .int), [], 0, 0)
def m_X5_loseOwner : mMD := (5, yX5_loseOwner, cX5_loseOwner, 4, none, [], 1, 23)
def m_X5_getOwner : mMD := (5, yX5_getOwner, cX5_getOwner, 4, none, [], 2, 47)
def m_X5_takeIn : mMD := (5, yX5_takeIn, cX5_takeIn, 5, (some .int), [], 1, 23)
def m_X5_removeUnownedBut : mMD := (5, yX5_removeUnownedBut, cX5_removeUnownedBut, 4, (some .int), [], 2, 46)
def m_X5_hasRoomFor : mMD := (5, yX5_hasRoomFor, cX5_hasRoomFor, 2, (some .boolean), [], 2, 47)
def m_X5_slotsNeededBy : mMD := (5, yX5_slotsNeededBy, cX5_slotsNeededBy, 4, (some .int), [], 1, 24)
def m_X5_roomNeededBy : mMD := (5, yX5_roomNeededBy, cX5_roomNeededBy, 4, (some .int), [], 1, 24)
def m_X5_pieces : mMD := (5, yX5_pieces, cX5_pieces, 3, (some .int), [], 1, 21)
def m_X5_size : mMD := (5, yX5_size, cX5_size, 3, (some .int), [], 1, 21)
def m_X5_unownedPieces : mMD := (5, yX5_unownedPieces, cX5_unownedPieces, 3, (some .int), [], 1, 21)
def m_X5_unownedSize : mMD := (5, yX5_unownedSize, cX5_unownedSize, 3, (some .int), [], 1, 21)
def m_X5_mostOwners : mMD := (5, yX5_mostOwners, cX5_mostOwners, 3, (some .int), [], 1, 21)
def m_L_cell : mMD := (8, yL_cell, cL_cell, 2, (some .int), [], 0, 0)
def m_L_at : mMD := (8, yL_at, cL_at, 2, (some .int), [], 0, 0)
def m_L_ends : mMD := (8, yL_ends, cL_ends, 7, (some .int), [], 0, 0)
def m_L_slot : mMD := (8, yL_slot, cL_slot, 6, (some .int), [], 0, 0)
def m_L_lay : mMD := (8, yL_lay, cL_lay, 26, (some .int), [], 1, 26)
def m_L_act : mMD := (8, yL_act, cL_act, 18, (some .boolean), [], 8, 149)
def m_L_agree : mMD := (8, yL_agree, cL_agree, 12, (some .boolean), [], 8, 135)
def m_L_law : mMD := (8, yL_law, cL_law, 10, (some .boolean), [], 11, 422)
def m_J6_bitCount_0f7a4 : mMD := (10, yJ6_bitCount_0f7a4, cJ6_bitCount_0f7a4, 1, (some .int), [], 0, 0)
def m_J9_max_7cf53 : mMD := (11, yJ9_max_7cf53, cJ9_max_7cf53, 2, (some .int), [], 0, 0)
theorem wi_0 : Cond.initialized (RN 0) ∈ WL := WL_mem 10 (by decide +kernel) (by decide +kernel)
theorem wi_1 : Cond.initialized (RN 1) ∈ WL := WL_mem 8 (by decide +kernel) (by decide +kernel)
theorem wi_2 : Cond.initialized (RN 2) ∈ WL := WL_mem 9 (by decide +kernel) (by decide +kernel)
theorem wi_3 : Cond.initialized (RN 3) ∈ WL := WL_mem 7 (by decide +kernel) (by decide +kernel)
theorem wi_4 : Cond.initialized (RN 4) ∈ WL := WL_mem 5 (by decide +kernel) (by decide +kernel)
theorem wi_5 : Cond.initialized (RN 5) ∈ WL := WL_mem 6 (by decide +kernel) (by decide +kernel)
theorem wi_6 : Cond.initialized (RN 6) ∈ WL := WL_mem 4 (by decide +kernel) (by decide +kernel)
theorem wi_8 : Cond.initialized (RN 8) ∈ WL := WL_mem 3 (by decide +kernel) (by decide +kernel)
theorem wi_10 : Cond.initialized (RN 10) ∈ WL := WL_mem 19 (by decide +kernel) (by decide +kernel)
theorem wi_11 : Cond.initialized (RN 11) ∈ WL := WL_mem 18 (by decide +kernel) (by decide +kernel)
theorem cal_X6_init : CalC m_X6_init 0 := ⟨⟨WL_mem 23 (by decide +kernel) (by decide +kernel), wi_6, WL_mem 24 (by decide +kernel) (by decide +kernel)⟩, rfl, rfl, ⟨(by decide +kernel), (by decide +kernel), (by decide +kernel)⟩⟩
theorem cal_X6_put : CalI m_X6_put 1 := ⟨⟨WL_mem 477 (by decide +kernel) (by decide +kernel), WL_mem 478 (by decide +kernel) (by decide +kernel), wi_6, WL_mem 479 (by decide +kernel) (by decide +kernel)⟩, rfl, by decide, ⟨(by decide +kernel), (by decide +kernel), (by decide +kernel)⟩⟩
theorem cal_X6_takeOut : CalI m_X6_takeOut 3 := ⟨⟨WL_mem 534 (by decide +kernel) (by decide +kernel), WL_mem 535 (by decide +kernel) (by decide +kernel), wi_6, WL_mem 536 (by decide +kernel) (by decide +kernel)⟩, rfl, by decide, ⟨(by decide +kernel), (by decide +kernel), (by decide +kernel)⟩⟩
theorem cal_X6_copy : CalI m_X6_copy 2 := ⟨⟨WL_mem 548 (by decide +kernel) (by decide +kernel), WL_mem 549 (by decide +kernel) (by decide +kernel), wi_6, WL_mem 550 (by decide +kernel) (by decide +kernel)⟩, rfl, by decide, ⟨(by decide +kernel), (by decide +kernel), (by decide +kernel)⟩⟩
theorem cal_X6_rotate : CalI m_X6_rotate 2 := ⟨⟨WL_mem 558 (by decide +kernel) (by decide +kernel), WL_mem 559 (by decide +kernel) (by decide +kernel), wi_6, WL_mem 560 (by decide +kernel) (by decide +kernel)⟩, rfl, by decide, ⟨(by decide +kernel), (by decide +kernel), (by decide +kernel)⟩⟩
theorem cal_X6_drop : CalI m_X6_drop 1 := ⟨⟨WL_mem 562 (by decide +kernel) (by decide +kernel), WL_mem 563 (by decide +kernel) (by decide +kernel), wi_6, WL_mem 564 (by decide +kernel) (by decide +kernel)⟩, rfl, by decide, ⟨(by decide +kernel), (by decide +kernel), (by decide +kernel)⟩⟩
theorem cal_X6_sweep : CalI m_X6_sweep 0 := ⟨⟨WL_mem 567 (by decide +kernel) (by decide +kernel), WL_mem 568 (by decide +kernel) (by decide +kernel), wi_6, WL_mem 569 (by decide +kernel) (by decide +kernel)⟩, rfl, by decide, ⟨(by decide +kernel), (by decide +kernel), (by decide +kernel)⟩⟩
theorem cal_X6_set : CalI m_X6_set 2 := ⟨⟨WL_mem 572 (by decide +kernel) (by decide +kernel), WL_mem 573 (by decide +kernel) (by decide +kernel), wi_6, WL_mem 574 (by decide +kernel) (by decide +kernel)⟩, rfl, by decide, ⟨(by decide +kernel), (by decide +kernel), (by decide +kernel)⟩⟩
theorem cal_X6_append : CalI m_X6_append 1 := ⟨⟨WL_mem 209 (by decide +kernel) (by decide +kernel), WL_mem 210 (by decide +kernel) (by decide +kernel), wi_6, WL_mem 211 (by decide +kernel) (by decide +kernel)⟩, rfl, by decide, ⟨(by decide +kernel), (by decide +kernel), (by decide +kernel)⟩⟩
theorem cal_X6_clearBuffer : CalI m_X6_clearBuffer 0 := ⟨⟨WL_mem 469 (by decide +kernel) (by decide +kernel), WL_mem 470 (by decide +kernel) (by decide +kernel), wi_6, WL_mem 471 (by decide +kernel) (by decide +kernel)⟩, rfl, by decide, ⟨(by decide +kernel), (by decide +kernel), (by decide +kernel)⟩⟩
theorem cal_X6_sign : CalI m_X6_sign 3 := ⟨⟨WL_mem 591 (by decide +kernel) (by decide +kernel), WL_mem 592 (by decide +kernel) (by decide +kernel), wi_6, WL_mem 593 (by decide +kernel) (by decide +kernel)⟩, rfl, by decide, ⟨(by decide +kernel), (by decide +kernel), (by decide +kernel)⟩⟩
theorem cal_X6_piece : CalI m_X6_piece 3 := ⟨⟨WL_mem 605 (by decide +kernel) (by decide +kernel), WL_mem 606 (by decide +kernel) (by decide +kernel), wi_6, WL_mem 607 (by decide +kernel) (by decide +kernel)⟩, rfl, by decide, ⟨(by decide +kernel), (by decide +kernel), (by decide +kernel)⟩⟩
theorem cal_X6_slot : CalI m_X6_slot 2 := ⟨⟨WL_mem 618 (by decide +kernel) (by decide +kernel), WL_mem 619 (by decide +kernel) (by decide +kernel), wi_6, WL_mem 620 (by decide +kernel) (by decide +kernel)⟩, rfl, by decide, ⟨(by decide +kernel), (by decide +kernel), (by decide +kernel)⟩⟩
theorem cal_X6_text : CalI m_X6_text 2 := ⟨⟨WL_mem 501 (by decide +kernel) (by decide +kernel), WL_mem 502 (by decide +kernel) (by decide +kernel), wi_6, WL_mem 503 (by decide +kernel) (by decide +kernel)⟩, rfl, by decide, ⟨(by decide +kernel), (by decide +kernel), (by decide +kernel)⟩⟩
theorem cal_X6_count : CalI m_X6_count 1 := ⟨⟨WL_mem 633 (by decide +kernel) (by decide +kernel), WL_mem 634 (by decide +kernel) (by decide +kernel), wi_6, WL_mem 635 (by decide +kernel) (by decide +kernel)⟩, rfl, by decide, ⟨(by decide +kernel), (by decide +kernel), (by decide +kernel)⟩⟩
theorem cal_X6_ifPut : CalI m_X6_ifPut 2 := ⟨⟨WL_mem 311 (by decide +kernel) (by decide +kernel), WL_mem 312 (by decide +kernel) (by decide +kernel), wi_6, WL_mem 313 (by decide +kernel) (by decide +kernel)⟩, rfl, by decide, ⟨(by decide +kernel), (by decide +kernel), (by decide +kernel)⟩⟩
theorem cal_X6_requireText : CalS m_X6_requireText 1 := ⟨⟨WL_mem 315 (by decide +kernel) (by decide +kernel), wi_6, WL_mem 316 (by decide +kernel) (by decide +kernel)⟩, ⟨(by decide +kernel), (by decide +kernel), (by decide +kernel)⟩⟩
theorem cal_X6_requirePlace : CalS m_X6_requirePlace 2 := ⟨⟨WL_mem 538 (by decide +kernel) (by decide +kernel), wi_6, WL_mem 539 (by decide +kernel) (by decide +kernel)⟩, ⟨(by decide +kernel), (by decide +kernel), (by decide +kernel)⟩⟩
theorem cal_X6_requireSetting : CalS m_X6_requireSetting 1 := ⟨⟨WL_mem 576 (by decide +kernel) (by decide +kernel), wi_6, WL_mem 577 (by decide +kernel) (by decide +kernel)⟩, ⟨(by decide +kernel), (by decide +kernel), (by decide +kernel)⟩⟩
theorem cal_X6_requireValue : CalS m_X6_requireValue 2 := ⟨⟨WL_mem 580 (by decide +kernel) (by decide +kernel), wi_6, WL_mem 581 (by decide +kernel) (by decide +kernel)⟩, ⟨(by decide +kernel), (by decide +kernel), (by decide +kernel)⟩⟩
theorem cal_X6_requireWhat : CalS m_X6_requireWhat 2 := ⟨⟨WL_mem 334 (by decide +kernel) (by decide +kernel), wi_6, WL_mem 335 (by decide +kernel) (by decide +kernel)⟩, ⟨(by decide +kernel), (by decide +kernel), (by decide +kernel)⟩⟩
theorem cal_X6_requireCompleteBuffer : CalI m_X6_requireCompleteBuffer 0 := ⟨⟨WL_mem 482 (by decide +kernel) (by decide +kernel), WL_mem 1 (by decide +kernel) (by decide +kernel), wi_6, WL_mem 483 (by decide +kernel) (by decide +kernel)⟩, rfl, by decide, ⟨(by decide +kernel), (by decide +kernel), (by decide +kernel)⟩⟩
theorem cal_X6_changeToTrial : CalI m_X6_changeToTrial 1 := ⟨⟨WL_mem 487 (by decide +kernel) (by decide +kernel), WL_mem 2 (by decide +kernel) (by decide +kernel), wi_6, WL_mem 488 (by decide +kernel) (by decide +kernel)⟩, rfl, by decide, ⟨(by decide +kernel), (by decide +kernel), (by decide +kernel)⟩⟩
theorem cal_X0_init : CalC m_X0_init 0 := ⟨⟨WL_mem 161 (by decide +kernel) (by decide +kernel), wi_0, WL_mem 162 (by decide +kernel) (by decide +kernel)⟩, rfl, rfl, ⟨(by decide +kernel), (by decide +kernel), (by decide +kernel)⟩⟩
theorem cal_X0_clear : CalI m_X0_clear 0 := ⟨⟨WL_mem 473 (by decide +kernel) (by decide +kernel), WL_mem 474 (by decide +kernel) (by decide +kernel), wi_0, WL_mem 475 (by decide +kernel) (by decide +kernel)⟩, rfl, by decide, ⟨(by decide +kernel), (by decide +kernel), (by decide +kernel)⟩⟩
theorem cal_X0_add : CalI m_X0_add 1 := ⟨⟨WL_mem 297 (by decide +kernel) (by decide +kernel), WL_mem 298 (by decide +kernel) (by decide +kernel), wi_0, WL_mem 299 (by decide +kernel) (by decide +kernel)⟩, rfl, by decide, ⟨(by decide +kernel), (by decide +kernel), (by decide +kernel)⟩⟩
theorem cal_X0_isLetter : CalS m_X0_isLetter 1 := ⟨⟨WL_mem 350 (by decide +kernel) (by decide +kernel), wi_0, WL_mem 351 (by decide +kernel) (by decide +kernel)⟩, ⟨(by decide +kernel), (by decide +kernel), (by decide +kernel)⟩⟩
theorem cal_X0_signsAddedAt : CalI m_X0_signsAddedAt 1 := ⟨⟨WL_mem 346 (by decide +kernel) (by decide +kernel), WL_mem 347 (by decide +kernel) (by decide +kernel), wi_0, WL_mem 348 (by decide +kernel) (by decide +kernel)⟩, rfl, by decide, ⟨(by decide +kernel), (by decide +kernel), (by decide +kernel)⟩⟩
theorem cal_X0_errorIndex : CalI m_X0_errorIndex 0 := ⟨⟨WL_mem 342 (by decide +kernel) (by decide +kernel), WL_mem 343 (by decide +kernel) (by decide +kernel), wi_0, WL_mem 344 (by decide +kernel) (by decide +kernel)⟩, rfl, by decide, ⟨(by decide +kernel), (by decide +kernel), (by decide +kernel)⟩⟩
theorem cal_X0_isComplete : CalI m_X0_isComplete 0 := ⟨⟨WL_mem 338 (by decide +kernel) (by decide +kernel), WL_mem 339 (by decide +kernel) (by decide +kernel), wi_0, WL_mem 340 (by decide +kernel) (by decide +kernel)⟩, rfl, by decide, ⟨(by decide +kernel), (by decide +kernel), (by decide +kernel)⟩⟩
theorem cal_X0_readInto : CalI m_X0_readInto 1 := ⟨⟨WL_mem 357 (by decide +kernel) (by decide +kernel), WL_mem 358 (by decide +kernel) (by decide +kernel), wi_0, WL_mem 359 (by decide +kernel) (by decide +kernel)⟩, rfl, by decide, ⟨(by decide +kernel), (by decide +kernel), (by decide +kernel)⟩⟩
theorem cal_X1_init : CalC m_X1_init 0 := ⟨⟨WL_mem 88 (by decide +kernel) (by decide +kernel), wi_1, WL_mem 89 (by decide +kernel) (by decide +kernel)⟩, rfl, rfl, ⟨(by decide +kernel), (by decide +kernel), (by decide +kernel)⟩⟩
theorem cal_X1_clear : CalI m_X1_clear 0 := ⟨⟨WL_mem 353 (by decide +kernel) (by decide +kernel), WL_mem 354 (by decide +kernel) (by decide +kernel), wi_1, WL_mem 355 (by decide +kernel) (by decide +kernel)⟩, rfl, by decide, ⟨(by decide +kernel), (by decide +kernel), (by decide +kernel)⟩⟩
theorem cal_X1_addSign : CalI m_X1_addSign 1 := ⟨⟨WL_mem 361 (by decide +kernel) (by decide +kernel), WL_mem 362 (by decide +kernel) (by decide +kernel), wi_1, WL_mem 363 (by decide +kernel) (by decide +kernel)⟩, rfl, by decide, ⟨(by decide +kernel), (by decide +kernel), (by decide +kernel)⟩⟩
theorem cal_X1_addSigns : CalI m_X1_addSigns 3 := ⟨⟨WL_mem 543 (by decide +kernel) (by decide +kernel), WL_mem 544 (by decide +kernel) (by decide +kernel), wi_1, WL_mem 545 (by decide +kernel) (by decide +kernel)⟩, rfl, by decide, ⟨(by decide +kernel), (by decide +kernel), (by decide +kernel)⟩⟩
theorem cal_X1_becomeSignsOf : CalI m_X1_becomeSignsOf 1 := ⟨⟨WL_mem 552 (by decide +kernel) (by decide +kernel), WL_mem 553 (by decide +kernel) (by decide +kernel), wi_1, WL_mem 554 (by decide +kernel) (by decide +kernel)⟩, rfl, by decide, ⟨(by decide +kernel), (by decide +kernel), (by decide +kernel)⟩⟩
theorem cal_X1_become : CalI m_X1_become 1 := ⟨⟨WL_mem 409 (by decide +kernel) (by decide +kernel), WL_mem 410 (by decide +kernel) (by decide +kernel), wi_1, WL_mem 411 (by decide +kernel) (by decide +kernel)⟩, rfl, by decide, ⟨(by decide +kernel), (by decide +kernel), (by decide +kernel)⟩⟩
theorem cal_X1_cutBy : CalI m_X1_cutBy 1 := ⟨⟨WL_mem 365 (by decide +kernel) (by decide +kernel), WL_mem 366 (by decide +kernel) (by decide +kernel), wi_1, WL_mem 367 (by decide +kernel) (by decide +kernel)⟩, rfl, by decide, ⟨(by decide +kernel), (by decide +kernel), (by decide +kernel)⟩⟩
theorem cal_X1_addPiece : CalI m_X1_addPiece 3 := ⟨⟨WL_mem 377 (by decide +kernel) (by decide +kernel), WL_mem 378 (by decide +kernel) (by decide +kernel), wi_1, WL_mem 379 (by decide +kernel) (by decide +kernel)⟩, rfl, by decide, ⟨(by decide +kernel), (by decide +kernel), (by decide +kernel)⟩⟩
theorem cal_X1_packed : CalI m_X1_packed 2 := ⟨⟨WL_mem 381 (by decide +kernel) (by decide +kernel), WL_mem 382 (by decide +kernel) (by decide +kernel), wi_1, WL_mem 383 (by decide +kernel) (by decide +kernel)⟩, rfl, by decide, ⟨(by decide +kernel), (by decide +kernel), (by decide +kernel)⟩⟩
theorem cal_X1_pieceAt : CalI m_X1_pieceAt 1 := ⟨⟨WL_mem 596 (by decide +kernel) (by decide +kernel), WL_mem 597 (by decide +kernel) (by decide +kernel), wi_1, WL_mem 598 (by decide +kernel) (by decide +kernel)⟩, rfl, by decide, ⟨(by decide +kernel), (by decide +kernel), (by decide +kernel)⟩⟩
theorem cal_X1_endsBehind : CalI m_X1_endsBehind 1 := ⟨⟨WL_mem 600 (by decide +kernel) (by decide +kernel), WL_mem 601 (by decide +kernel) (by decide +kernel), wi_1, WL_mem 602 (by decide +kernel) (by decide +kernel)⟩, rfl, by decide, ⟨(by decide +kernel), (by decide +kernel), (by decide +kernel)⟩⟩
theorem cal_X1_has : CalI m_X1_has 1 := ⟨⟨WL_mem 456 (by decide +kernel) (by decide +kernel), WL_mem 457 (by decide +kernel) (by decide +kernel), wi_1, WL_mem 458 (by decide +kernel) (by decide +kernel)⟩, rfl, by decide, ⟨(by decide +kernel), (by decide +kernel), (by decide +kernel)⟩⟩
theorem cal_X1_hasAheadOf : CalI m_X1_hasAheadOf 2 := ⟨⟨WL_mem 389 (by decide +kernel) (by decide +kernel), WL_mem 390 (by decide +kernel) (by decide +kernel), wi_1, WL_mem 391 (by decide +kernel) (by decide +kernel)⟩, rfl, by decide, ⟨(by decide +kernel), (by decide +kernel), (by decide +kernel)⟩⟩
theorem cal_X1_unlikePieces : CalI m_X1_unlikePieces 0 := ⟨⟨WL_mem 505 (by decide +kernel) (by decide +kernel), WL_mem 506 (by decide +kernel) (by decide +kernel), wi_1, WL_mem 507 (by decide +kernel) (by decide +kernel)⟩, rfl, by decide, ⟨(by decide +kernel), (by decide +kernel), (by decide +kernel)⟩⟩
theorem cal_X1_unlikePiecesAlsoIn : CalI m_X1_unlikePiecesAlsoIn 1 := ⟨⟨WL_mem 509 (by decide +kernel) (by decide +kernel), WL_mem 510 (by decide +kernel) (by decide +kernel), wi_1, WL_mem 511 (by decide +kernel) (by decide +kernel)⟩, rfl, by decide, ⟨(by decide +kernel), (by decide +kernel), (by decide +kernel)⟩⟩
theorem cal_X1_forcedPieces : CalI m_X1_forcedPieces 0 := ⟨⟨WL_mem 514 (by decide +kernel) (by decide +kernel), WL_mem 515 (by decide +kernel) (by decide +kernel), wi_1, WL_mem 516 (by decide +kernel) (by decide +kernel)⟩, rfl, by decide, ⟨(by decide +kernel), (by decide +kernel), (by decide +kernel)⟩⟩
theorem cal_X1_longestPiece : CalI m_X1_longestPiece 0 := ⟨⟨WL_mem 518 (by decide +kernel) (by decide +kernel), WL_mem 519 (by decide +kernel) (by decide +kernel), wi_1, WL_mem 520 (by decide +kernel) (by decide +kernel)⟩, rfl, by decide, ⟨(by decide +kernel), (by decide +kernel), (by decide +kernel)⟩⟩
theorem cal_X2_init : CalC m_X2_init 0 := ⟨⟨WL_mem 144 (by decide +kernel) (by decide +kernel), wi_2, WL_mem 145 (by decide +kernel) (by decide +kernel)⟩, rfl, rfl, ⟨(by decide +kernel), (by decide +kernel), (by decide +kernel)⟩⟩
theorem cal_X2_push : CalI m_X2_push 1 := ⟨⟨WL_mem 491 (by decide +kernel) (by decide +kernel), WL_mem 492 (by decide +kernel) (by decide +kernel), wi_2, WL_mem 493 (by decide +kernel) (by decide +kernel)⟩, rfl, by decide, ⟨(by decide +kernel), (by decide +kernel), (by decide +kernel)⟩⟩
theorem cal_X2_dropOldest : CalI m_X2_dropOldest 0 := ⟨⟨WL_mem 495 (by decide +kernel) (by decide +kernel), WL_mem 496 (by decide +kernel) (by decide +kernel), wi_2, WL_mem 497 (by decide +kernel) (by decide +kernel)⟩, rfl, by decide, ⟨(by decide +kernel), (by decide +kernel), (by decide +kernel)⟩⟩
theorem cal_X3_init : CalC m_X3_init 0 := ⟨⟨WL_mem 68 (by decide +kernel) (by decide +kernel), wi_3, WL_mem 69 (by decide +kernel) (by decide +kernel)⟩, rfl, rfl, ⟨(by decide +kernel), (by decide +kernel), (by decide +kernel)⟩⟩
theorem cal_X3_become : CalI m_X3_become 1 := ⟨⟨WL_mem 421 (by decide +kernel) (by decide +kernel), WL_mem 422 (by decide +kernel) (by decide +kernel), wi_3, WL_mem 423 (by decide +kernel) (by decide +kernel)⟩, rfl, by decide, ⟨(by decide +kernel), (by decide +kernel), (by decide +kernel)⟩⟩
theorem cal_X3_sumAt : CalI m_X3_sumAt 2 := ⟨⟨WL_mem 373 (by decide +kernel) (by decide +kernel), WL_mem 374 (by decide +kernel) (by decide +kernel), wi_3, WL_mem 375 (by decide +kernel) (by decide +kernel)⟩, rfl, by decide, ⟨(by decide +kernel), (by decide +kernel), (by decide +kernel)⟩⟩
theorem cal_X3_endPieceAt : CalI m_X3_endPieceAt 2 := ⟨⟨WL_mem 369 (by decide +kernel) (by decide +kernel), WL_mem 370 (by decide +kernel) (by decide +kernel), wi_3, WL_mem 371 (by decide +kernel) (by decide +kernel)⟩, rfl, by decide, ⟨(by decide +kernel), (by decide +kernel), (by decide +kernel)⟩⟩
theorem cal_X4_init : CalC m_X4_init 0 := ⟨⟨WL_mem 31 (by decide +kernel) (by decide +kernel), wi_4, WL_mem 32 (by decide +kernel) (by decide +kernel)⟩, rfl, rfl, ⟨(by decide +kernel), (by decide +kernel), (by decide +kernel)⟩⟩
theorem cal_X4_become : CalI m_X4_become 1 := ⟨⟨WL_mem 405 (by decide +kernel) (by decide +kernel), WL_mem 406 (by decide +kernel) (by decide +kernel), wi_4, WL_mem 407 (by decide +kernel) (by decide +kernel)⟩, rfl, by decide, ⟨(by decide +kernel), (by decide +kernel), (by decide +kernel)⟩⟩
theorem cal_X4_becomeChanged : CalI m_X4_becomeChanged 3 := ⟨⟨WL_mem 401 (by decide +kernel) (by decide +kernel), WL_mem 402 (by decide +kernel) (by decide +kernel), wi_4, WL_mem 403 (by decide +kernel) (by decide +kernel)⟩, rfl, by decide, ⟨(by decide +kernel), (by decide +kernel), (by decide +kernel)⟩⟩
theorem cal_X4_textsWith : CalI m_X4_textsWith 1 := ⟨⟨WL_mem 529 (by decide +kernel) (by decide +kernel), WL_mem 530 (by decide +kernel) (by decide +kernel), wi_4, WL_mem 531 (by decide +kernel) (by decide +kernel)⟩, rfl, by decide, ⟨(by decide +kernel), (by decide +kernel), (by decide +kernel)⟩⟩
theorem cal_X4_signsOwnedAlone : CalI m_X4_signsOwnedAlone 1 := ⟨⟨WL_mem 525 (by decide +kernel) (by decide +kernel), WL_mem 526 (by decide +kernel) (by decide +kernel), wi_4, WL_mem 527 (by decide +kernel) (by decide +kernel)⟩, rfl, by decide, ⟨(by decide +kernel), (by decide +kernel), (by decide +kernel)⟩⟩
theorem cal_X4_signs : CalI m_X4_signs 0 := ⟨⟨WL_mem 637 (by decide +kernel) (by decide +kernel), WL_mem 638 (by decide +kernel) (by decide +kernel), wi_4, WL_mem 639 (by decide +kernel) (by decide +kernel)⟩, rfl, by decide, ⟨(by decide +kernel), (by decide +kernel), (by decide +kernel)⟩⟩
theorem cal_X4_pieces : CalI m_X4_pieces 0 := ⟨⟨WL_mem 641 (by decide +kernel) (by decide +kernel), WL_mem 642 (by decide +kernel) (by decide +kernel), wi_4, WL_mem 643 (by decide +kernel) (by decide +kernel)⟩, rfl, by decide, ⟨(by decide +kernel), (by decide +kernel), (by decide +kernel)⟩⟩
theorem cal_X5_init : CalC m_X5_init 0 := ⟨⟨WL_mem 39 (by decide +kernel) (by decide +kernel), wi_5, WL_mem 40 (by decide +kernel) (by decide +kernel)⟩, rfl, rfl, ⟨(by decide +kernel), (by decide +kernel), (by decide +kernel)⟩⟩
theorem cal_X5_become : CalI m_X5_become 1 := ⟨⟨WL_mem 416 (by decide +kernel) (by decide +kernel), WL_mem 417 (by decide +kernel) (by decide +kernel), wi_5, WL_mem 418 (by decide +kernel) (by decide +kernel)⟩, rfl, by decide, ⟨(by decide +kernel), (by decide +kernel), (by decide +kernel)⟩⟩
theorem cal_X5_isFree : CalI m_X5_isFree 1 := ⟨⟨WL_mem 439 (by decide +kernel) (by decide +kernel), WL_mem 440 (by decide +kernel) (by decide +kernel), wi_5, WL_mem 441 (by decide +kernel) (by decide +kernel)⟩, rfl, by decide, ⟨(by decide +kernel), (by decide +kernel), (by decide +kernel)⟩⟩
theorem cal_X5_isUnowned : CalI m_X5_isUnowned 1 := ⟨⟨WL_mem 452 (by decide +kernel) (by decide +kernel), WL_mem 453 (by decide +kernel) (by decide +kernel), wi_5, WL_mem 454 (by decide +kernel) (by decide +kernel)⟩, rfl, by decide, ⟨(by decide +kernel), (by decide +kernel), (by decide +kernel)⟩⟩
theorem cal_X5_slotOf : CalI m_X5_slotOf 1 := ⟨⟨WL_mem 393 (by decide +kernel) (by decide +kernel), WL_mem 394 (by decide +kernel) (by decide +kernel), wi_5, WL_mem 395 (by decide +kernel) (by decide +kernel)⟩, rfl, by decide, ⟨(by decide +kernel), (by decide +kernel), (by decide +kernel)⟩⟩
theorem cal_X5_firstSign : CalI m_X5_firstSign 1 := ⟨⟨WL_mem 624 (by decide +kernel) (by decide +kernel), WL_mem 625 (by decide +kernel) (by decide +kernel), wi_5, WL_mem 626 (by decide +kernel) (by decide +kernel)⟩, rfl, by decide, ⟨(by decide +kernel), (by decide +kernel), (by decide +kernel)⟩⟩
theorem cal_X5_lastSign : CalI m_X5_lastSign 1 := ⟨⟨WL_mem 629 (by decide +kernel) (by decide +kernel), WL_mem 630 (by decide +kernel) (by decide +kernel), wi_5, WL_mem 631 (by decide +kernel) (by decide +kernel)⟩, rfl, by decide, ⟨(by decide +kernel), (by decide +kernel), (by decide +kernel)⟩⟩
theorem cal_X5_loseOwner : CalI m_X5_loseOwner 1 := ⟨⟨WL_mem 426 (by decide +kernel) (by decide +kernel), WL_mem 427 (by decide +kernel) (by decide +kernel), wi_5, WL_mem 428 (by decide +kernel) (by decide +kernel)⟩, rfl, by decide, ⟨(by decide +kernel), (by decide +kernel), (by decide +kernel)⟩⟩
theorem cal_X5_getOwner : CalI m_X5_getOwner 1 := ⟨⟨WL_mem 461 (by decide +kernel) (by decide +kernel), WL_mem 462 (by decide +kernel) (by decide +kernel), wi_5, WL_mem 463 (by decide +kernel) (by decide +kernel)⟩, rfl, by decide, ⟨(by decide +kernel), (by decide +kernel), (by decide +kernel)⟩⟩
theorem cal_X5_takeIn : CalI m_X5_takeIn 2 := ⟨⟨WL_mem 465 (by decide +kernel) (by decide +kernel), WL_mem 466 (by decide +kernel) (by decide +kernel), wi_5, WL_mem 467 (by decide +kernel) (by decide +kernel)⟩, rfl, by decide, ⟨(by decide +kernel), (by decide +kernel), (by decide +kernel)⟩⟩
theorem cal_X5_removeUnownedBut : CalI m_X5_removeUnownedBut 1 := ⟨⟨WL_mem 448 (by decide +kernel) (by decide +kernel), WL_mem 449 (by decide +kernel) (by decide +kernel), wi_5, WL_mem 450 (by decide +kernel) (by decide +kernel)⟩, rfl, by decide, ⟨(by decide +kernel), (by decide +kernel), (by decide +kernel)⟩⟩
theorem cal_X5_hasRoomFor : CalI m_X5_hasRoomFor 1 := ⟨⟨WL_mem 430 (by decide +kernel) (by decide +kernel), WL_mem 431 (by decide +kernel) (by decide +kernel), wi_5, WL_mem 432 (by decide +kernel) (by decide +kernel)⟩, rfl, by decide, ⟨(by decide +kernel), (by decide +kernel), (by decide +kernel)⟩⟩
theorem cal_X5_slotsNeededBy : CalI m_X5_slotsNeededBy 1 := ⟨⟨WL_mem 385 (by decide +kernel) (by decide +kernel), WL_mem 386 (by decide +kernel) (by decide +kernel), wi_5, WL_mem 387 (by decide +kernel) (by decide +kernel)⟩, rfl, by decide, ⟨(by decide +kernel), (by decide +kernel), (by decide +kernel)⟩⟩
theorem cal_X5_roomNeededBy : CalI m_X5_roomNeededBy 1 := ⟨⟨WL_mem 397 (by decide +kernel) (by decide +kernel), WL_mem 398 (by decide +kernel) (by decide +kernel), wi_5, WL_mem 399 (by decide +kernel) (by decide +kernel)⟩, rfl, by decide, ⟨(by decide +kernel), (by decide +kernel), (by decide +kernel)⟩⟩
theorem cal_X5_pieces : CalI m_X5_pieces 0 := ⟨⟨WL_mem 435 (by decide +kernel) (by decide +kernel), WL_mem 436 (by decide +kernel) (by decide +kernel), wi_5, WL_mem 437 (by decide +kernel) (by decide +kernel)⟩, rfl, by decide, ⟨(by decide +kernel), (by decide +kernel), (by decide +kernel)⟩⟩
theorem cal_X5_size : CalI m_X5_size 0 := ⟨⟨WL_mem 444 (by decide +kernel) (by decide +kernel), WL_mem 445 (by decide +kernel) (by decide +kernel), wi_5, WL_mem 446 (by decide +kernel) (by decide +kernel)⟩, rfl, by decide, ⟨(by decide +kernel), (by decide +kernel), (by decide +kernel)⟩⟩
theorem cal_X5_unownedPieces : CalI m_X5_unownedPieces 0 := ⟨⟨WL_mem 647 (by decide +kernel) (by decide +kernel), WL_mem 648 (by decide +kernel) (by decide +kernel), wi_5, WL_mem 649 (by decide +kernel) (by decide +kernel)⟩, rfl, by decide, ⟨(by decide +kernel), (by decide +kernel), (by decide +kernel)⟩⟩
theorem cal_X5_unownedSize : CalI m_X5_unownedSize 0 := ⟨⟨WL_mem 651 (by decide +kernel) (by decide +kernel), WL_mem 652 (by decide +kernel) (by decide +kernel), wi_5, WL_mem 653 (by decide +kernel) (by decide +kernel)⟩, rfl, by decide, ⟨(by decide +kernel), (by decide +kernel), (by decide +kernel)⟩⟩
theorem cal_X5_mostOwners : CalI m_X5_mostOwners 0 := ⟨⟨WL_mem 655 (by decide +kernel) (by decide +kernel), WL_mem 656 (by decide +kernel) (by decide +kernel), wi_5, WL_mem 657 (by decide +kernel) (by decide +kernel)⟩, rfl, by decide, ⟨(by decide +kernel), (by decide +kernel), (by decide +kernel)⟩⟩
theorem cal_L_cell : CalS m_L_cell 2 := ⟨⟨WL_mem 199 (by decide +kernel) (by decide +kernel), wi_8, WL_mem 200 (by decide +kernel) (by decide +kernel)⟩, ⟨(by decide +kernel), (by decide +kernel), (by decide +kernel)⟩⟩
theorem cal_L_at : CalS m_L_at 2 := ⟨⟨WL_mem 206 (by decide +kernel) (by decide +kernel), wi_8, WL_mem 207 (by decide +kernel) (by decide +kernel)⟩, ⟨(by decide +kernel), (by decide +kernel), (by decide +kernel)⟩⟩
theorem cal_L_ends : CalS m_L_ends 5 := ⟨⟨WL_mem 305 (by decide +kernel) (by decide +kernel), wi_8, WL_mem 306 (by decide +kernel) (by decide +kernel)⟩, ⟨(by decide +kernel), (by decide +kernel), (by decide +kernel)⟩⟩
theorem cal_L_slot : CalS m_L_slot 4 := ⟨⟨WL_mem 308 (by decide +kernel) (by decide +kernel), wi_8, WL_mem 309 (by decide +kernel) (by decide +kernel)⟩, ⟨(by decide +kernel), (by decide +kernel), (by decide +kernel)⟩⟩
theorem cal_L_agree : CalS m_L_agree 7 := ⟨⟨WL_mem 588 (by decide +kernel) (by decide +kernel), wi_8, WL_mem 589 (by decide +kernel) (by decide +kernel)⟩, ⟨(by decide +kernel), (by decide +kernel), (by decide +kernel)⟩⟩
theorem cal_J6_bitCount_0f7a4 : CalS m_J6_bitCount_0f7a4 1 := ⟨⟨WL_mem 612 (by decide +kernel) (by decide +kernel), wi_10, WL_mem 613 (by decide +kernel) (by decide +kernel)⟩, ⟨(by decide +kernel), (by decide +kernel), (by decide +kernel)⟩⟩
theorem cal_J9_max_7cf53 : CalS m_J9_max_7cf53 2 := ⟨⟨WL_mem 522 (by decide +kernel) (by decide +kernel), wi_11, WL_mem 523 (by decide +kernel) (by decide +kernel)⟩, ⟨(by decide +kernel), (by decide +kernel), (by decide +kernel)⟩⟩
theorem lcl_8_25 : Cond.classLink (RN 8) 25 (RN 6) ∈ WL := WL_mem 20 (by decide +kernel) (by decide +kernel)
theorem wn_6 : Cond.instantiable (RN 6) (NN 6) ∈ WL := WL_mem 21 (by decide +kernel) (by decide +kernel)
theorem lk_8_77 : Cond.methodLink (RN 8) 77 yX6_init ∈ WL := WL_mem 22 (by decide +kernel) (by decide +kernel)
theorem lk_6_1 : Cond.methodLink (RN 6) 1 Lib.objectInit ∈ WL := WL_mem 25 (by decide +kernel) (by decide +kernel)
theorem lcl_6_7 : Cond.classLink (RN 6) 7 (RN 4) ∈ WL := WL_mem 28 (by decide +kernel) (by decide +kernel)
theorem wn_4 : Cond.instantiable (RN 4) (NN 4) ∈ WL := WL_mem 29 (by decide +kernel) (by decide +kernel)
theorem lk_6_9 : Cond.methodLink (RN 6) 9 yX4_init ∈ WL := WL_mem 30 (by decide +kernel) (by decide +kernel)
theorem lk_4_3 : Cond.methodLink (RN 4) 3 Lib.objectInit ∈ WL := WL_mem 33 (by decide +kernel) (by decide +kernel)
theorem lcl_4_9 : Cond.classLink (RN 4) 9 (RN 1) ∈ WL := WL_mem 34 (by decide +kernel) (by decide +kernel)
theorem lcl_4_17 : Cond.classLink (RN 4) 17 (RN 5) ∈ WL := WL_mem 36 (by decide +kernel) (by decide +kernel)
theorem wn_5 : Cond.instantiable (RN 5) (NN 5) ∈ WL := WL_mem 37 (by decide +kernel) (by decide +kernel)
theorem lk_4_19 : Cond.methodLink (RN 4) 19 yX5_init ∈ WL := WL_mem 38 (by decide +kernel) (by decide +kernel)
theorem lk_5_3 : Cond.methodLink (RN 5) 3 Lib.objectInit ∈ WL := WL_mem 41 (by decide +kernel) (by decide +kernel)
theorem lf_5_9 : LkF 5 9 5 0 := ⟨by decide, by decide, WL_mem 42 (by decide +kernel) (by decide +kernel)⟩
theorem lf_6_220 : LkF 6 220 5 0 := ⟨by decide, by decide, WL_mem 43 (by decide +kernel) (by decide +kernel)⟩
theorem lf_5_15 : LkF 5 15 5 1 := ⟨by decide, by decide, WL_mem 44 (by decide +kernel) (by decide +kernel)⟩
theorem lf_6_210 : LkF 6 210 5 1 := ⟨by decide, by decide, WL_mem 45 (by decide +kernel) (by decide +kernel)⟩
theorem lf_5_19 : LkF 5 19 5 2 := ⟨by decide, by decide, WL_mem 46 (by decide +kernel) (by decide +kernel)⟩
theorem lf_6_211 : LkF 6 211 5 2 := ⟨by decide, by decide, WL_mem 47 (by decide +kernel) (by decide +kernel)⟩
theorem lf_5_22 : LkF 5 22 5 3 := ⟨by decide, by decide, WL_mem 48 (by decide +kernel) (by decide +kernel)⟩
theorem lf_6_258 : LkF 6 258 5 3 := ⟨by decide, by decide, WL_mem 49 (by decide +kernel) (by decide +kernel)⟩
theorem lf_5_26 : LkF 5 26 5 4 := ⟨by decide, by decide, WL_mem 50 (by decide +kernel) (by decide +kernel)⟩
theorem lf_6_261 : LkF 6 261 5 4 := ⟨by decide, by decide, WL_mem 51 (by decide +kernel) (by decide +kernel)⟩
theorem lcl_4_24 : Cond.classLink (RN 4) 24 (RN 3) ∈ WL := WL_mem 65 (by decide +kernel) (by decide +kernel)
theorem wn_3 : Cond.instantiable (RN 3) (NN 3) ∈ WL := WL_mem 66 (by decide +kernel) (by decide +kernel)
theorem lk_4_26 : Cond.methodLink (RN 4) 26 yX3_init ∈ WL := WL_mem 67 (by decide +kernel) (by decide +kernel)
theorem lk_3_3 : Cond.methodLink (RN 3) 3 Lib.objectInit ∈ WL := WL_mem 70 (by decide +kernel) (by decide +kernel)
theorem lk_3_13 : Cond.methodLink (RN 3) 13 ⟨"[I", "clone", "()Ljava/lang/Object;"⟩ ∈ WL := WL_mem 73 (by decide +kernel) (by decide +kernel)
theorem lcl_3_14 : Cond.classLink (RN 3) 14 ("[I") ∈ WL := WL_mem 79 (by decide +kernel) (by decide +kernel)
theorem lf_3_18 : LkF 3 18 3 0 := ⟨by decide, by decide, WL_mem 80 (by decide +kernel) (by decide +kernel)⟩
theorem lf_1_52 : LkF 1 52 3 0 := ⟨by decide, by decide, WL_mem 81 (by decide +kernel) (by decide +kernel)⟩
theorem lf_6_137 : LkF 6 137 3 0 := ⟨by decide, by decide, WL_mem 82 (by decide +kernel) (by decide +kernel)⟩
theorem wn_1 : Cond.instantiable (RN 1) (NN 1) ∈ WL := WL_mem 86 (by decide +kernel) (by decide +kernel)
theorem lk_4_31 : Cond.methodLink (RN 4) 31 yX1_init ∈ WL := WL_mem 87 (by decide +kernel) (by decide +kernel)
theorem lk_1_3 : Cond.methodLink (RN 1) 3 Lib.objectInit ∈ WL := WL_mem 90 (by decide +kernel) (by decide +kernel)
theorem lf_1_9 : LkF 1 9 1 0 := ⟨by decide, by decide, WL_mem 91 (by decide +kernel) (by decide +kernel)⟩
theorem lf_3_29 : LkF 3 29 1 0 := ⟨by decide, by decide, WL_mem 92 (by decide +kernel) (by decide +kernel)⟩
theorem lf_6_163 : LkF 6 163 1 0 := ⟨by decide, by decide, WL_mem 93 (by decide +kernel) (by decide +kernel)⟩
theorem lf_1_15 : LkF 1 15 1 1 := ⟨by decide, by decide, WL_mem 94 (by decide +kernel) (by decide +kernel)⟩
theorem lf_6_74 : LkF 6 74 1 1 := ⟨by decide, by decide, WL_mem 95 (by decide +kernel) (by decide +kernel)⟩
theorem lf_4_79 : LkF 4 79 1 1 := ⟨by decide, by decide, WL_mem 96 (by decide +kernel) (by decide +kernel)⟩
theorem lf_1_19 : LkF 1 19 1 2 := ⟨by decide, by decide, WL_mem 97 (by decide +kernel) (by decide +kernel)⟩
theorem lf_6_188 : LkF 6 188 1 2 := ⟨by decide, by decide, WL_mem 98 (by decide +kernel) (by decide +kernel)⟩
theorem lf_1_22 : LkF 1 22 1 3 := ⟨by decide, by decide, WL_mem 99 (by decide +kernel) (by decide +kernel)⟩
theorem lf_4_75 : LkF 4 75 1 3 := ⟨by decide, by decide, WL_mem 100 (by decide +kernel) (by decide +kernel)⟩
theorem lf_5_47 : LkF 5 47 1 3 := ⟨by decide, by decide, WL_mem 101 (by decide +kernel) (by decide +kernel)⟩
theorem lf_6_191 : LkF 6 191 1 3 := ⟨by decide, by decide, WL_mem 102 (by decide +kernel) (by decide +kernel)⟩
theorem lf_1_25 : LkF 1 25 1 4 := ⟨by decide, by decide, WL_mem 103 (by decide +kernel) (by decide +kernel)⟩
theorem lf_6_194 : LkF 6 194 1 4 := ⟨by decide, by decide, WL_mem 104 (by decide +kernel) (by decide +kernel)⟩
theorem lf_1_28 : LkF 1 28 1 5 := ⟨by decide, by decide, WL_mem 105 (by decide +kernel) (by decide +kernel)⟩
theorem lf_4_67 : LkF 4 67 1 5 := ⟨by decide, by decide, WL_mem 106 (by decide +kernel) (by decide +kernel)⟩
theorem lf_5_42 : LkF 5 42 1 5 := ⟨by decide, by decide, WL_mem 107 (by decide +kernel) (by decide +kernel)⟩
theorem lf_6_181 : LkF 6 181 1 5 := ⟨by decide, by decide, WL_mem 108 (by decide +kernel) (by decide +kernel)⟩
theorem lf_1_32 : LkF 1 32 1 6 := ⟨by decide, by decide, WL_mem 109 (by decide +kernel) (by decide +kernel)⟩
theorem lf_4_63 : LkF 4 63 1 6 := ⟨by decide, by decide, WL_mem 110 (by decide +kernel) (by decide +kernel)⟩
theorem lf_5_37 : LkF 5 37 1 6 := ⟨by decide, by decide, WL_mem 111 (by decide +kernel) (by decide +kernel)⟩
theorem lf_6_178 : LkF 6 178 1 6 := ⟨by decide, by decide, WL_mem 112 (by decide +kernel) (by decide +kernel)⟩
theorem lf_4_11 : LkF 4 11 4 0 := ⟨by decide, by decide, WL_mem 128 (by decide +kernel) (by decide +kernel)⟩
theorem lf_6_70 : LkF 6 70 4 0 := ⟨by decide, by decide, WL_mem 129 (by decide +kernel) (by decide +kernel)⟩
theorem lf_4_20 : LkF 4 20 4 1 := ⟨by decide, by decide, WL_mem 130 (by decide +kernel) (by decide +kernel)⟩
theorem lf_6_114 : LkF 6 114 4 1 := ⟨by decide, by decide, WL_mem 131 (by decide +kernel) (by decide +kernel)⟩
theorem lf_4_27 : LkF 4 27 4 2 := ⟨by decide, by decide, WL_mem 132 (by decide +kernel) (by decide +kernel)⟩
theorem lf_6_134 : LkF 6 134 4 2 := ⟨by decide, by decide, WL_mem 133 (by decide +kernel) (by decide +kernel)⟩
theorem lcl_6_16 : Cond.classLink (RN 6) 16 (RN 2) ∈ WL := WL_mem 141 (by decide +kernel) (by decide +kernel)
theorem wn_2 : Cond.instantiable (RN 2) (NN 2) ∈ WL := WL_mem 142 (by decide +kernel) (by decide +kernel)
theorem lk_6_18 : Cond.methodLink (RN 6) 18 yX2_init ∈ WL := WL_mem 143 (by decide +kernel) (by decide +kernel)
theorem lk_2_3 : Cond.methodLink (RN 2) 3 Lib.objectInit ∈ WL := WL_mem 146 (by decide +kernel) (by decide +kernel)
theorem lcl_2_9 : Cond.classLink (RN 2) 9 (RN 4) ∈ WL := WL_mem 147 (by decide +kernel) (by decide +kernel)
theorem lk_2_21 : Cond.methodLink (RN 2) 21 yX4_init ∈ WL := WL_mem 149 (by decide +kernel) (by decide +kernel)
theorem lf_2_11 : LkF 2 11 2 0 := ⟨by decide, by decide, WL_mem 150 (by decide +kernel) (by decide +kernel)⟩
theorem lf_2_17 : LkF 2 17 2 1 := ⟨by decide, by decide, WL_mem 151 (by decide +kernel) (by decide +kernel)⟩
theorem lf_6_152 : LkF 6 152 2 1 := ⟨by decide, by decide, WL_mem 152 (by decide +kernel) (by decide +kernel)⟩
theorem lcl_6_23 : Cond.classLink (RN 6) 23 (RN 0) ∈ WL := WL_mem 158 (by decide +kernel) (by decide +kernel)
theorem wn_0 : Cond.instantiable (RN 0) (NN 0) ∈ WL := WL_mem 159 (by decide +kernel) (by decide +kernel)
theorem lk_6_25 : Cond.methodLink (RN 6) 25 yX0_init ∈ WL := WL_mem 160 (by decide +kernel) (by decide +kernel)
theorem lk_0_3 : Cond.methodLink (RN 0) 3 Lib.objectInit ∈ WL := WL_mem 163 (by decide +kernel) (by decide +kernel)
theorem lf_0_9 : LkF 0 9 0 0 := ⟨by decide, by decide, WL_mem 164 (by decide +kernel) (by decide +kernel)⟩
theorem lf_0_15 : LkF 0 15 0 1 := ⟨by decide, by decide, WL_mem 165 (by decide +kernel) (by decide +kernel)⟩
theorem lf_6_143 : LkF 6 143 0 1 := ⟨by decide, by decide, WL_mem 166 (by decide +kernel) (by decide +kernel)⟩
theorem lcl_6_33 : Cond.classLink (RN 6) 33 (RN 1) ∈ WL := WL_mem 172 (by decide +kernel) (by decide +kernel)
theorem lk_6_35 : Cond.methodLink (RN 6) 35 yX1_init ∈ WL := WL_mem 173 (by decide +kernel) (by decide +kernel)
theorem lcl_6_40 : Cond.classLink (RN 6) 40 (RN 3) ∈ WL := WL_mem 174 (by decide +kernel) (by decide +kernel)
theorem lk_6_42 : Cond.methodLink (RN 6) 42 yX3_init ∈ WL := WL_mem 175 (by decide +kernel) (by decide +kernel)
theorem lf_6_10 : LkF 6 10 6 0 := ⟨by decide, by decide, WL_mem 176 (by decide +kernel) (by decide +kernel)⟩
theorem lf_6_19 : LkF 6 19 6 1 := ⟨by decide, by decide, WL_mem 177 (by decide +kernel) (by decide +kernel)⟩
theorem lf_6_26 : LkF 6 26 6 2 := ⟨by decide, by decide, WL_mem 178 (by decide +kernel) (by decide +kernel)⟩
theorem lf_6_30 : LkF 6 30 6 3 := ⟨by decide, by decide, WL_mem 179 (by decide +kernel) (by decide +kernel)⟩
theorem lf_6_36 : LkF 6 36 6 4 := ⟨by decide, by decide, WL_mem 180 (by decide +kernel) (by decide +kernel)⟩
theorem lf_6_43 : LkF 6 43 6 5 := ⟨by decide, by decide, WL_mem 181 (by decide +kernel) (by decide +kernel)⟩
theorem lf_6_47 : LkF 6 47 6 6 := ⟨by decide, by decide, WL_mem 182 (by decide +kernel) (by decide +kernel)⟩
theorem lk_8_78 : Cond.methodLink (RN 8) 78 yL_cell ∈ WL := WL_mem 198 (by decide +kernel) (by decide +kernel)
theorem lc_8_7 : Cond.constant (RN 8) 7 987654321 ∈ WL := WL_mem 201 (by decide +kernel) (by decide +kernel)
theorem lk_8_82 : Cond.methodLink (RN 8) 82 yL_act ∈ WL := WL_mem 202 (by decide +kernel) (by decide +kernel)
theorem lk_8_20 : Cond.methodLink (RN 8) 20 yL_at ∈ WL := WL_mem 205 (by decide +kernel) (by decide +kernel)
theorem lk_8_24 : Cond.methodLink (RN 8) 24 yX6_append ∈ WL := WL_mem 208 (by decide +kernel) (by decide +kernel)
theorem lcl_6_102 : Cond.classLink (RN 6) 102 (exn 1) ∈ WL := WL_mem 212 (by decide +kernel) (by decide +kernel)
theorem lk_6_106 : Cond.methodLink (RN 6) 106 ⟨"java/lang/IllegalArgumentException", "<init>", "(Ljava/lang/String;)V"⟩ ∈ WL := WL_mem 254 (by decide +kernel) (by decide +kernel)
theorem lcl_6_89 : Cond.classLink (RN 6) 89 (exn 2) ∈ WL := WL_mem 280 (by decide +kernel) (by decide +kernel)
theorem lk_6_93 : Cond.methodLink (RN 6) 93 ⟨"java/lang/IllegalStateException", "<init>", "(Ljava/lang/String;)V"⟩ ∈ WL := WL_mem 290 (by decide +kernel) (by decide +kernel)
theorem lk_6_146 : Cond.methodLink (RN 6) 146 yX0_add ∈ WL := WL_mem 296 (by decide +kernel) (by decide +kernel)
theorem lk_8_30 : Cond.methodLink (RN 8) 30 yL_lay ∈ WL := WL_mem 300 (by decide +kernel) (by decide +kernel)
theorem lc_8_8 : Cond.constantLong (RN 8) 8 9 ∈ WL := WL_mem 303 (by decide +kernel) (by decide +kernel)
theorem lk_8_10 : Cond.methodLink (RN 8) 10 yL_ends ∈ WL := WL_mem 304 (by decide +kernel) (by decide +kernel)
theorem lk_8_16 : Cond.methodLink (RN 8) 16 yL_slot ∈ WL := WL_mem 307 (by decide +kernel) (by decide +kernel)
theorem lk_8_34 : Cond.methodLink (RN 8) 34 yX6_ifPut ∈ WL := WL_mem 310 (by decide +kernel) (by decide +kernel)
theorem lk_6_51 : Cond.methodLink (RN 6) 51 yX6_requireText ∈ WL := WL_mem 314 (by decide +kernel) (by decide +kernel)
theorem lcl_6_78 : Cond.classLink (RN 6) 78 (exn 0) ∈ WL := WL_mem 317 (by decide +kernel) (by decide +kernel)
theorem lk_6_82 : Cond.methodLink (RN 6) 82 ⟨"java/lang/IndexOutOfBoundsException", "<init>", "(Ljava/lang/String;)V"⟩ ∈ WL := WL_mem 327 (by decide +kernel) (by decide +kernel)
theorem lk_6_160 : Cond.methodLink (RN 6) 160 yX6_requireWhat ∈ WL := WL_mem 333 (by decide +kernel) (by decide +kernel)
theorem lk_6_264 : Cond.methodLink (RN 6) 264 yX0_isComplete ∈ WL := WL_mem 337 (by decide +kernel) (by decide +kernel)
theorem lk_0_27 : Cond.methodLink (RN 0) 27 yX0_errorIndex ∈ WL := WL_mem 341 (by decide +kernel) (by decide +kernel)
theorem lk_0_23 : Cond.methodLink (RN 0) 23 yX0_signsAddedAt ∈ WL := WL_mem 345 (by decide +kernel) (by decide +kernel)
theorem lk_0_19 : Cond.methodLink (RN 0) 19 yX0_isLetter ∈ WL := WL_mem 349 (by decide +kernel) (by decide +kernel)
theorem lk_6_58 : Cond.methodLink (RN 6) 58 yX1_clear ∈ WL := WL_mem 352 (by decide +kernel) (by decide +kernel)
theorem lk_6_61 : Cond.methodLink (RN 6) 61 yX0_readInto ∈ WL := WL_mem 356 (by decide +kernel) (by decide +kernel)
theorem lk_0_31 : Cond.methodLink (RN 0) 31 yX1_addSign ∈ WL := WL_mem 360 (by decide +kernel) (by decide +kernel)
theorem lk_6_268 : Cond.methodLink (RN 6) 268 yX1_cutBy ∈ WL := WL_mem 364 (by decide +kernel) (by decide +kernel)
theorem lk_1_57 : Cond.methodLink (RN 1) 57 yX3_endPieceAt ∈ WL := WL_mem 368 (by decide +kernel) (by decide +kernel)
theorem lk_3_34 : Cond.methodLink (RN 3) 34 yX3_sumAt ∈ WL := WL_mem 372 (by decide +kernel) (by decide +kernel)
theorem lk_1_61 : Cond.methodLink (RN 1) 61 yX1_addPiece ∈ WL := WL_mem 376 (by decide +kernel) (by decide +kernel)
theorem lk_1_65 : Cond.methodLink (RN 1) 65 yX1_packed ∈ WL := WL_mem 380 (by decide +kernel) (by decide +kernel)
theorem lk_6_272 : Cond.methodLink (RN 6) 272 yX5_slotsNeededBy ∈ WL := WL_mem 384 (by decide +kernel) (by decide +kernel)
theorem lk_5_73 : Cond.methodLink (RN 5) 73 yX1_hasAheadOf ∈ WL := WL_mem 388 (by decide +kernel) (by decide +kernel)
theorem lk_5_43 : Cond.methodLink (RN 5) 43 yX5_slotOf ∈ WL := WL_mem 392 (by decide +kernel) (by decide +kernel)
theorem lk_6_275 : Cond.methodLink (RN 6) 275 yX5_roomNeededBy ∈ WL := WL_mem 396 (by decide +kernel) (by decide +kernel)
theorem lk_6_278 : Cond.methodLink (RN 6) 278 yX4_becomeChanged ∈ WL := WL_mem 400 (by decide +kernel) (by decide +kernel)
theorem lk_4_42 : Cond.methodLink (RN 4) 42 yX4_become ∈ WL := WL_mem 404 (by decide +kernel) (by decide +kernel)
theorem lk_4_32 : Cond.methodLink (RN 4) 32 yX1_become ∈ WL := WL_mem 408 (by decide +kernel) (by decide +kernel)
theorem lk_1_46 : Cond.methodLink (RN 1) 46 arraycopyName ∈ WL := WL_mem 412 (by decide +kernel) (by decide +kernel)
theorem lk_4_36 : Cond.methodLink (RN 4) 36 yX5_become ∈ WL := WL_mem 415 (by decide +kernel) (by decide +kernel)
theorem lk_5_29 : Cond.methodLink (RN 5) 29 arraycopyName ∈ WL := WL_mem 419 (by decide +kernel) (by decide +kernel)
theorem lk_4_39 : Cond.methodLink (RN 4) 39 yX3_become ∈ WL := WL_mem 420 (by decide +kernel) (by decide +kernel)
theorem lk_3_23 : Cond.methodLink (RN 3) 23 arraycopyName ∈ WL := WL_mem 424 (by decide +kernel) (by decide +kernel)
theorem lk_4_45 : Cond.methodLink (RN 4) 45 yX5_loseOwner ∈ WL := WL_mem 425 (by decide +kernel) (by decide +kernel)
theorem lk_4_48 : Cond.methodLink (RN 4) 48 yX5_hasRoomFor ∈ WL := WL_mem 429 (by decide +kernel) (by decide +kernel)
theorem lk_5_60 : Cond.methodLink (RN 5) 60 yX5_slotsNeededBy ∈ WL := WL_mem 433 (by decide +kernel) (by decide +kernel)
theorem lk_5_64 : Cond.methodLink (RN 5) 64 yX5_pieces ∈ WL := WL_mem 434 (by decide +kernel) (by decide +kernel)
theorem lk_5_77 : Cond.methodLink (RN 5) 77 yX5_isFree ∈ WL := WL_mem 438 (by decide +kernel) (by decide +kernel)
theorem lk_5_67 : Cond.methodLink (RN 5) 67 yX5_roomNeededBy ∈ WL := WL_mem 442 (by decide +kernel) (by decide +kernel)
theorem lk_5_70 : Cond.methodLink (RN 5) 70 yX5_size ∈ WL := WL_mem 443 (by decide +kernel) (by decide +kernel)
theorem lk_4_52 : Cond.methodLink (RN 4) 52 yX5_removeUnownedBut ∈ WL := WL_mem 447 (by decide +kernel) (by decide +kernel)
theorem lk_5_52 : Cond.methodLink (RN 5) 52 yX5_isUnowned ∈ WL := WL_mem 451 (by decide +kernel) (by decide +kernel)
theorem lk_5_56 : Cond.methodLink (RN 5) 56 yX1_has ∈ WL := WL_mem 455 (by decide +kernel) (by decide +kernel)
theorem lk_1_73 : Cond.methodLink (RN 1) 73 yX1_hasAheadOf ∈ WL := WL_mem 459 (by decide +kernel) (by decide +kernel)
theorem lk_4_56 : Cond.methodLink (RN 4) 56 yX5_getOwner ∈ WL := WL_mem 460 (by decide +kernel) (by decide +kernel)
theorem lk_5_48 : Cond.methodLink (RN 5) 48 yX5_takeIn ∈ WL := WL_mem 464 (by decide +kernel) (by decide +kernel)
theorem lk_8_37 : Cond.methodLink (RN 8) 37 yX6_clearBuffer ∈ WL := WL_mem 468 (by decide +kernel) (by decide +kernel)
theorem lk_6_69 : Cond.methodLink (RN 6) 69 yX0_clear ∈ WL := WL_mem 472 (by decide +kernel) (by decide +kernel)
theorem lk_8_41 : Cond.methodLink (RN 8) 41 yX6_put ∈ WL := WL_mem 476 (by decide +kernel) (by decide +kernel)
theorem lk_6_55 : Cond.methodLink (RN 6) 55 yX6_requireCompleteBuffer ∈ WL := WL_mem 480 (by decide +kernel) (by decide +kernel)
theorem lk_6_65 : Cond.methodLink (RN 6) 65 yX6_changeToTrial ∈ WL := WL_mem 485 (by decide +kernel) (by decide +kernel)
theorem lk_6_110 : Cond.methodLink (RN 6) 110 yX2_push ∈ WL := WL_mem 490 (by decide +kernel) (by decide +kernel)
theorem lk_2_22 : Cond.methodLink (RN 2) 22 yX2_dropOldest ∈ WL := WL_mem 494 (by decide +kernel) (by decide +kernel)
theorem lk_2_25 : Cond.methodLink (RN 2) 25 yX4_become ∈ WL := WL_mem 498 (by decide +kernel) (by decide +kernel)
theorem lk_6_339 : Cond.methodLink (RN 6) 339 yX4_become ∈ WL := WL_mem 499 (by decide +kernel) (by decide +kernel)
theorem lk_8_44 : Cond.methodLink (RN 8) 44 yX6_text ∈ WL := WL_mem 500 (by decide +kernel) (by decide +kernel)
theorem lk_6_221 : Cond.methodLink (RN 6) 221 yX1_unlikePieces ∈ WL := WL_mem 504 (by decide +kernel) (by decide +kernel)
theorem lk_1_77 : Cond.methodLink (RN 1) 77 yX1_unlikePiecesAlsoIn ∈ WL := WL_mem 508 (by decide +kernel) (by decide +kernel)
theorem lk_1_81 : Cond.methodLink (RN 1) 81 yX1_has ∈ WL := WL_mem 512 (by decide +kernel) (by decide +kernel)
theorem lk_6_224 : Cond.methodLink (RN 6) 224 yX1_forcedPieces ∈ WL := WL_mem 513 (by decide +kernel) (by decide +kernel)
theorem lk_6_227 : Cond.methodLink (RN 6) 227 yX1_longestPiece ∈ WL := WL_mem 517 (by decide +kernel) (by decide +kernel)
theorem lk_1_85 : Cond.methodLink (RN 1) 85 Lib.Math.max.name ∈ WL := WL_mem 521 (by decide +kernel) (by decide +kernel)
theorem lk_6_230 : Cond.methodLink (RN 6) 230 yX4_signsOwnedAlone ∈ WL := WL_mem 524 (by decide +kernel) (by decide +kernel)
theorem lk_4_71 : Cond.methodLink (RN 4) 71 yX4_textsWith ∈ WL := WL_mem 528 (by decide +kernel) (by decide +kernel)
theorem lk_4_59 : Cond.methodLink (RN 4) 59 yX1_has ∈ WL := WL_mem 532 (by decide +kernel) (by decide +kernel)
theorem lk_8_47 : Cond.methodLink (RN 8) 47 yX6_takeOut ∈ WL := WL_mem 533 (by decide +kernel) (by decide +kernel)
theorem lk_6_98 : Cond.methodLink (RN 6) 98 yX6_requirePlace ∈ WL := WL_mem 537 (by decide +kernel) (by decide +kernel)
theorem lk_6_94 : Cond.methodLink (RN 6) 94 yX1_addSigns ∈ WL := WL_mem 542 (by decide +kernel) (by decide +kernel)
theorem lk_1_35 : Cond.methodLink (RN 1) 35 yX1_addSign ∈ WL := WL_mem 546 (by decide +kernel) (by decide +kernel)
theorem lk_8_51 : Cond.methodLink (RN 8) 51 yX6_copy ∈ WL := WL_mem 547 (by decide +kernel) (by decide +kernel)
theorem lk_6_107 : Cond.methodLink (RN 6) 107 yX1_becomeSignsOf ∈ WL := WL_mem 551 (by decide +kernel) (by decide +kernel)
theorem lk_1_39 : Cond.methodLink (RN 1) 39 yX1_clear ∈ WL := WL_mem 555 (by decide +kernel) (by decide +kernel)
theorem lk_1_42 : Cond.methodLink (RN 1) 42 yX1_addSigns ∈ WL := WL_mem 556 (by decide +kernel) (by decide +kernel)
theorem lk_8_54 : Cond.methodLink (RN 8) 54 yX6_rotate ∈ WL := WL_mem 557 (by decide +kernel) (by decide +kernel)
theorem lk_8_57 : Cond.methodLink (RN 8) 57 yX6_drop ∈ WL := WL_mem 561 (by decide +kernel) (by decide +kernel)
theorem lk_6_118 : Cond.methodLink (RN 6) 118 yX5_loseOwner ∈ WL := WL_mem 565 (by decide +kernel) (by decide +kernel)
theorem lk_8_60 : Cond.methodLink (RN 8) 60 yX6_sweep ∈ WL := WL_mem 566 (by decide +kernel) (by decide +kernel)
theorem lk_6_123 : Cond.methodLink (RN 6) 123 yX5_removeUnownedBut ∈ WL := WL_mem 570 (by decide +kernel) (by decide +kernel)
theorem lk_8_63 : Cond.methodLink (RN 8) 63 yX6_set ∈ WL := WL_mem 571 (by decide +kernel) (by decide +kernel)
theorem lk_6_127 : Cond.methodLink (RN 6) 127 yX6_requireSetting ∈ WL := WL_mem 575 (by decide +kernel) (by decide +kernel)
theorem lk_6_130 : Cond.methodLink (RN 6) 130 yX6_requireValue ∈ WL := WL_mem 579 (by decide +kernel) (by decide +kernel)
theorem ls_6_325 : Cond.fieldLink (RN 6) 325 RX6 (xstat 1) "[I" ∈ WL := WL_mem 582 (by decide +kernel) (by decide +kernel)
theorem ls_6_328 : Cond.fieldLink (RN 6) 328 RX6 (xstat 2) "[I" ∈ WL := WL_mem 584 (by decide +kernel) (by decide +kernel)
theorem lk_8_86 : Cond.methodLink (RN 8) 86 yL_agree ∈ WL := WL_mem 587 (by decide +kernel) (by decide +kernel)
theorem lk_8_66 : Cond.methodLink (RN 8) 66 yX6_sign ∈ WL := WL_mem 590 (by decide +kernel) (by decide +kernel)
theorem lk_6_165 : Cond.methodLink (RN 6) 165 yX3_sumAt ∈ WL := WL_mem 594 (by decide +kernel) (by decide +kernel)
theorem lk_6_169 : Cond.methodLink (RN 6) 169 yX1_pieceAt ∈ WL := WL_mem 595 (by decide +kernel) (by decide +kernel)
theorem lk_6_172 : Cond.methodLink (RN 6) 172 yX1_endsBehind ∈ WL := WL_mem 599 (by decide +kernel) (by decide +kernel)
theorem lk_1_69 : Cond.methodLink (RN 1) 69 yX1_pieceAt ∈ WL := WL_mem 603 (by decide +kernel) (by decide +kernel)
theorem lk_8_69 : Cond.methodLink (RN 8) 69 yX6_piece ∈ WL := WL_mem 604 (by decide +kernel) (by decide +kernel)
theorem lk_6_184 : Cond.methodLink (RN 6) 184 yX5_slotOf ∈ WL := WL_mem 609 (by decide +kernel) (by decide +kernel)
theorem lk_6_197 : Cond.methodLink (RN 6) 197 yX4_textsWith ∈ WL := WL_mem 610 (by decide +kernel) (by decide +kernel)
theorem lk_6_200 : Cond.methodLink (RN 6) 200 yJ6_bitCount_0f7a4 ∈ WL := WL_mem 611 (by decide +kernel) (by decide +kernel)
theorem lc_10_265 : Cond.constant (RN 10) 265 1431655765 ∈ WL := WL_mem 614 (by decide +kernel) (by decide +kernel)
theorem lc_10_266 : Cond.constant (RN 10) 266 858993459 ∈ WL := WL_mem 615 (by decide +kernel) (by decide +kernel)
theorem lc_10_267 : Cond.constant (RN 10) 267 252645135 ∈ WL := WL_mem 616 (by decide +kernel) (by decide +kernel)
theorem lk_8_72 : Cond.methodLink (RN 8) 72 yX6_slot ∈ WL := WL_mem 617 (by decide +kernel) (by decide +kernel)
theorem lk_6_207 : Cond.methodLink (RN 6) 207 yX5_isFree ∈ WL := WL_mem 622 (by decide +kernel) (by decide +kernel)
theorem lk_6_214 : Cond.methodLink (RN 6) 214 yX5_firstSign ∈ WL := WL_mem 623 (by decide +kernel) (by decide +kernel)
theorem lc_5_35 : Cond.constantLong (RN 5) 35 7 ∈ WL := WL_mem 627 (by decide +kernel) (by decide +kernel)
theorem lk_6_217 : Cond.methodLink (RN 6) 217 yX5_lastSign ∈ WL := WL_mem 628 (by decide +kernel) (by decide +kernel)
theorem lk_8_74 : Cond.methodLink (RN 8) 74 yX6_count ∈ WL := WL_mem 632 (by decide +kernel) (by decide +kernel)
theorem lk_6_242 : Cond.methodLink (RN 6) 242 yX4_signs ∈ WL := WL_mem 636 (by decide +kernel) (by decide +kernel)
theorem lk_6_243 : Cond.methodLink (RN 6) 243 yX4_pieces ∈ WL := WL_mem 640 (by decide +kernel) (by decide +kernel)
theorem lk_6_245 : Cond.methodLink (RN 6) 245 yX5_pieces ∈ WL := WL_mem 644 (by decide +kernel) (by decide +kernel)
theorem lk_6_246 : Cond.methodLink (RN 6) 246 yX5_size ∈ WL := WL_mem 645 (by decide +kernel) (by decide +kernel)
theorem lk_6_249 : Cond.methodLink (RN 6) 249 yX5_unownedPieces ∈ WL := WL_mem 646 (by decide +kernel) (by decide +kernel)
theorem lk_6_252 : Cond.methodLink (RN 6) 252 yX5_unownedSize ∈ WL := WL_mem 650 (by decide +kernel) (by decide +kernel)
theorem lk_6_255 : Cond.methodLink (RN 6) 255 yX5_mostOwners ∈ WL := WL_mem 654 (by decide +kernel) (by decide +kernel)
theorem lk_5_80 : Cond.methodLink (RN 5) 80 Lib.Math.max.name ∈ WL := WL_mem 658 (by decide +kernel) (by decide +kernel)
theorem w_arrI : Cond.arrayClass .int ∈ WL := WL_mem 64 (by decide +kernel) (by decide +kernel)
theorem w_arrL : Cond.arrayClass .long ∈ WL := WL_mem 63 (by decide +kernel) (by decide +kernel)
theorem w_oi : Cond.instanceMethod Lib.objectInit ∈ WL := WL_mem 26 (by decide +kernel) (by decide +kernel)
theorem w_oc : Cond.code Lib.objectInit ⟨#[0xb1]⟩ 1 none ∈ WL := WL_mem 27 (by decide +kernel) (by decide +kernel)
theorem w_an : Cond.native arraycopyName ∈ WL := WL_mem 414 (by decide +kernel) (by decide +kernel)
theorem w_as : Cond.static arraycopyName ∈ WL := WL_mem 413 (by decide +kernel) (by decide +kernel)
theorem w_ai : Cond.initialized "java/lang/System" ∈ WL := WL_mem 17 (by decide +kernel) (by decide +kernel)
theorem w_ms : Cond.static Lib.Math.max.name ∈ WL := WL_mem 522 (by decide +kernel) (by decide +kernel)
theorem w_mi : Cond.initialized "java/lang/Math" ∈ WL := WL_mem 18 (by decide +kernel) (by decide +kernel)
theorem w_mc : Cond.code Lib.Math.max.name Lib.Math.max.code 2 (some .int) ∈ WL := WL_mem 523 (by decide +kernel) (by decide +kernel)
end
section
set_option maxRecDepth 100000 in
set_option maxHeartbeats 4000000 in
theorem cal_L_lay_c : lw_tbl[302]? = some (Cond.code (mNm m_L_lay) (mBy m_L_lay) (mML m_L_lay) (mRt m_L_lay)) := rfl
theorem cal_L_lay_g : goodWord (Cond.code (mNm m_L_lay) (mBy m_L_lay) (mML m_L_lay) (mRt m_L_lay)) = true := rfl
theorem cal_L_lay : CalS m_L_lay 10 := ⟨⟨WL_mem 301 (by decide +kernel) (by decide +kernel), wi_8, WL_mem 302 cal_L_lay_c cal_L_lay_g⟩, ⟨(by decide +kernel), (by decide +kernel), (by decide +kernel)⟩⟩
set_option maxRecDepth 100000 in
set_option maxHeartbeats 4000000 in
theorem cal_L_act_c : lw_tbl[204]? = some (Cond.code (mNm m_L_act) (mBy m_L_act) (mML m_L_act) (mRt m_L_act)) := rfl
theorem cal_L_act_g : goodWord (Cond.code (mNm m_L_act) (mBy m_L_act) (mML m_L_act) (mRt m_L_act)) = true := rfl
theorem cal_L_act : CalS m_L_act 10 := ⟨⟨WL_mem 203 (by decide +kernel) (by decide +kernel), wi_8, WL_mem 204 cal_L_act_c cal_L_act_g⟩, ⟨(by decide +kernel), (by decide +kernel), (by decide +kernel)⟩⟩
end
