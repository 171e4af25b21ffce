/-! A SMALL MACHINE OVER THE KIT: cells by number (number i lies at lo + i), values and locals as lists, a triple Ev for a place in a method's body, a contract Cn for a whole method. -/
abbrev mAc : Type := (Nat × (Nat → Int32)) ⊕ (Nat × (Nat → Int64)) ⊕ (Nat × Nat × (Nat → Option Nat)) ⊕ (Nat × List Value)
abbrev aI (n : Nat) (f : Nat → Int32) : mAc := .inl (n, f)
abbrev aL (n : Nat) (f : Nat → Int64) : mAc := .inr (.inl (n, f))
abbrev aR (t n : Nat) (f : Nat → Option Nat) : mAc := .inr (.inr (.inl (t, n, f)))
abbrev aO (c : Nat) (fs : List Value) : mAc := .inr (.inr (.inr (c, fs)))
abbrev mH : Type := Nat → Option mAc
def mset (h : mH) (a : Nat) (e : mAc) : mH := fun q => if q = a then some e else h q
theorem mset_s (h : mH) (a : Nat) (e : mAc) : mset h a e a = some e := by simp [mset]
theorem mset_n {h : mH} {a : Nat} {e : mAc} {q : Nat} (hq : q ≠ a) : mset h a e q = h q := by simp [mset, hq]
/-- what stays the same over a run: the launch, the kit's tables, classes of arrays, the first address, addresses of what is read alone, what is read alone -/
abbrev mX : Type := Launch × va_G × (Nat → ClassId) × Nat × (Nat → Nat) × (Nat → Option (Nat × (Nat → Int32)))
def xl (X : mX) : Launch := X.1
def xD (X : mX) : va_G := X.2.1
def xK (X : mX) : Nat → ClassId := X.2.2.1
def xlo (X : mX) : Nat := X.2.2.2.1
def xta (X : mX) : Nat → Nat := X.2.2.2.2.1
def xro (X : mX) : Nat → Option (Nat × (Nat → Int32)) := X.2.2.2.2.2
def xA (X : mX) : Nat → Prop := fun q => xlo X ≤ q
def xad (X : mX) (i : Nat) : Nat := if i < 1000000 then xlo X + i else xta X (i - 1000000)
def cv (X : mX) : Value → Value
  | .ref i => .ref (xad X i)
  | .int x => .int x
  | .long x => .long x
  | .double x => .double x
  | .float x => .float x
  | .null => .null
  | .retAddr x => .retAddr x
def cvE (X : mX) : mAc → va_E
  | .inl (n, f) => .inl (xK X 0, n, .inl f)
  | .inr (.inl (n, f)) => .inl (xK X 1, n, .inr (.inl f))
  | .inr (.inr (.inl (t, n, f))) => .inl (xK X t, n, .inr (.inr (.inr (.inr (fun j => (f j).map (xad X))))))
  | .inr (.inr (.inr (c, fs))) => .inr (c, fs.map (cv X))
theorem cv_cat (X : mX) (v : Value) : (cv X v).category = v.category := by cases v <;> rfl
theorem cv_cats (X : mX) (l : List Value) : ((l.map (cv X)).map fun v => v.category).sum = (l.map fun v => v.category).sum := by
  rw [List.map_map]
  congr 1
  exact List.map_congr_left fun v _ => cv_cat X v
/-- a method: the number of its class, its name, bytes, locals, answer, handlers, the frames and words that it nests -/
abbrev mMD : Type := Nat × MethodName × ByteArray × Nat × Option FieldType × List (Nat × Nat × Nat × Nat) × Nat × Nat
abbrev mOwn (M : mMD) : Nat := M.1
abbrev mNm (M : mMD) : MethodName := M.2.1
abbrev mBy (M : mMD) : ByteArray := M.2.2.1
abbrev mML (M : mMD) : Nat := M.2.2.2.1
abbrev mRt (M : mMD) : Option FieldType := M.2.2.2.2.1
abbrev mHH (M : mMD) : List (Nat × Nat × Nat × Nat) := M.2.2.2.2.2.1
abbrev mFr (M : mMD) : Nat := M.2.2.2.2.2.2.1
abbrev mLo (M : mMD) : Nat := M.2.2.2.2.2.2.2
def RN : Nat → String := fun k => match k with
  | 0 => RX0
  | 1 => RX1
  | 2 => RX2
  | 3 => RX3
  | 4 => RX4
  | 5 => RX5
  | 6 => RX6
  | 7 => RX6
  | 8 => RL
  | 9 => RJ6
  | 10 => RJ6
  | _ => RJ9
def WL : List Cond := lw_tbl.filter goodWord
theorem WL_mem {w : Cond} (i : Nat) (h : lw_tbl[i]? = some w) (g : goodWord w = true) : w ∈ WL := List.mem_filter.mpr ⟨List.mem_of_getElem? h, g⟩
theorem WL_good : GoodIn WL WL := fun _ h => ⟨h, good_of_word (List.mem_filter.mp h).2⟩
theorem WL_tbl {w : Cond} (h : w ∈ WL) : w ∈ lw_tbl := (List.mem_filter.mp h).1
def wsM (M : mMD) : List Cond := .code (mNm M) (mBy M) (mML M) (mRt M) :: WL
def wsH (M : mMD) : List Cond := .codeWith (mNm M) (mBy M) (mML M) (mRt M) (mHH M) :: WL
def xtys (X : mX) : List (ClassId × FieldType) := [(xK X 0, .int), (xK X 1, .long), (xK X 2, .object RX1), (xK X 3, .object RX4)]
def exn : Nat → String := fun k => match k with
  | 0 => "java/lang/IndexOutOfBoundsException"
  | 1 => "java/lang/IllegalArgumentException"
  | _ => "java/lang/IllegalStateException"
def xstrs : List (Nat × String) := [(141, "code is not 33 to 126"), (144, "the buffer is full"), (321, "no such text"), (333, "what is out of range"), (335, "the buffer is not a complete text"), (337, "the store has not enough slots or room"), (80, "no such place"), (104, "many is out of range"), (323, "no such setting"), (331, "value is out of range"), (176, "piece is below 0"), (205, "no such slot")]
def xstat : Nat → String := fun k => match k with
  | 0 => "FIRST_VALUES"
  | 1 => "LOWEST_VALUES"
  | _ => "HIGHEST_VALUES"
def exDc : List String := ["java/lang/RuntimeException", "java/lang/Exception", "java/lang/Throwable"]
/-- an array of ints that is read alone: its cell whole, its class that of int arrays -/
def va_R (X : mX) (t n : Nat) (f : Nat → Int32) (U : State) (H : Heap) : Prop := ∃ cell : Cell, H[t]? = some cell ∧ U.isArrayOf cell .int ∧ cell.vm ≠ .unknown ∧ cell.slots.size = n ∧ (∀ j : Nat, j < n → cell.slots[j]? = some (.int (f j))) ∧ ¬ xA X t
/-- what stays the same, of a state's tables and of the heap below lo -/
def Fx (X : mX) (U : State) (H : Heap) : Prop :=
  (xl X).stackTraces = false ∧ va_K (xD X) vwCl (xtys X) U ∧ (∀ k, k < 3 → va_Nw (.castable (exn k) (exn k)) U) ∧ (∀ j k, j < 3 → k < 3 → j ≠ k → True) ∧ va_Nw (.castable "[I" "java/lang/Cloneable") U ∧
  (∀ q ∈ xstrs, ∃ a, vk_R RX6 q.1 q.2 a U) ∧ vx_Zq Bundle.tN "UNASSIGNED_STACK" Bundle.steD (xA X) U H ∧ vx_Zq Bundle.tN "SUPPRESSED_SENTINEL" Bundle.listD (xA X) U H ∧
  (∀ k, k < 3 → va_Z RX6 (xstat k) "[I" (.ref (xta X k)) (xA X) U H) ∧ (∀ k n f, xro X (1000000 + k) = some (n, f) → va_R X (xta X k) n f U H) ∧ va_AO RX1 U ∧ va_AO RX4 U ∧ ((∃ cell : Cell, H[xta X 0]? = some cell ∧ U.vm.findClass "[I" = some cell.cls) ∧ ¬ xA X (xta X 0)) ∧ (∀ n ∈ exDc, va_Nw (.declares (Bundle.initS n)) U) ∧ va_Nw (.fieldLinkNest RX3 9 RX6 "FIRST_VALUES" "[I" RX6) U
theorem va_R.go {X : mX} {t n : Nat} {f : Nat → Int32} {u U : State} {H H1 : Heap} (hvm : u.vm.Alike U.vm) (hq : ∀ a : Nat, a < H.size → ¬ xA X a → H1[a]? = H[a]?) (h : va_R X t n f u H) : va_R X t n f U H1 := by
  obtain ⟨cell, h1, h2, h3, h4, h5, h6⟩ := h
  exact ⟨cell, by rw [hq t (Array.getElem?_eq_some_iff.mp h1).1 h6]; exact h1, State.isArrayOf_alike hvm h2, h3, h4, h5, h6⟩
theorem Fx.go {X : mX} {s U : State} {H H1 : Heap} (h : Fx X s H) (hW : s.WarmedH U.vm) (hq : ∀ a : Nat, a < H.size → ¬ xA X a → H1[a]? = H[a]?) : Fx X U H1 := by
  obtain ⟨h1, h2, h3, h3b, h4, h5, h6, h7, h8, h9, h10, h11, ⟨⟨cell, e1, e2⟩, h12⟩, h13, h14⟩ := h
  have hvm := hW.alike
  refine ⟨h1, h2.moved hvm, fun k hk => (h3 k hk).warmC hW, fun j k hj hk hn => trivial, h4.warmC hW, fun q hq' => ?_, (h6.moved hvm).kept hq, (h7.moved hvm).kept hq, fun k hk => ((h8 k hk).moved hvm).kept hq, fun k n f e => (h9 k n f e).go hvm hq, h10.moved hvm, h11.moved hvm, ⟨⟨cell, ?_, ?_⟩, h12⟩, fun n hn => (h13 n hn).warmD hW, h14.warmF hW⟩
  · obtain ⟨a, ha⟩ := h5 q hq'
    exact ⟨a, ha.warm hW⟩
  · rw [hq _ (Array.getElem?_eq_some_iff.mp e1).1 h12]; exact e1
  · rw [hvm.findClass]; exact e2
/-- the numbered cells lie in the heap; f: the heap's size, where it is known -/
def Wd (X : mX) (h : mH) (f : Option Nat) (H : Heap) : Prop :=
  (∀ a e, h a = some e → a < 1000000 ∧ va_at (xD X) vwCl (xlo X + a, cvE X e) H) ∧ xlo X ≤ H.size ∧ ∀ n, f = some n → H.size = xlo X + n ∧ n < 1000000 ∧ ∀ a, n ≤ a → h a = none
theorem Wd.no {X : mX} {h : mH} {f : Option Nat} {H : Heap} (w : Wd X h f H) : Wd X h none H := ⟨w.1, w.2.1, fun n hn => by cases hn⟩
theorem Wd.to {X : mX} {h : mH} {f f' : Option Nat} {H : Heap} (w : Wd X h f H) (hf : f = f' ∨ f' = none) : Wd X h f' H := by
  rcases hf with rfl | rfl
  · exact w
  · exact w.no
/-- one cell is written -/
theorem Wd.put {X : mX} {h : mH} {f : Option Nat} {H H1 : Heap} {a : Nat} {e0 e : mAc} (w : Wd X h f H) (ha : h a = some e0) (z : H1.size = H.size) (hq : ∀ q, q ≠ xlo X + a → H1[q]? = H[q]?) (he : va_at (xD X) vwCl (xlo X + a, cvE X e) H1) : Wd X (mset h a e) f H1 := by
  refine ⟨fun b e1 hb => ?_, by rw [z]; exact w.2.1, fun n hn => ?_⟩
  · by_cases hba : b = a
    · subst hba
      rw [mset_s] at hb
      cases hb
      exact ⟨(w.1 b e0 ha).1, he⟩
    · rw [mset_n hba] at hb
      obtain ⟨k1, k2⟩ := w.1 b e1 hb
      exact ⟨k1, va_at.kept k2 (hq _ (by show xlo X + b ≠ xlo X + a; omega))⟩
  · obtain ⟨k1, k2, k3⟩ := w.2.2 n hn
    refine ⟨by rw [z]; exact k1, k2, fun b hb => ?_⟩
    have hba : b ≠ a := fun q => by
      subst q
      rw [k3 b hb] at ha
      cases ha
    rw [mset_n hba]
    exact k3 b hb
/-- one cell is new -/
theorem Wd.push {X : mX} {h : mH} {n : Nat} {H H1 : Heap} {e : mAc} (w : Wd X h (some n) H) (hn1 : n + 1 < 1000000) (z : H1.size = H.size + 1) (hq : ∀ q, q < H.size → H1[q]? = H[q]?) (he : va_at (xD X) vwCl (H.size, cvE X e) H1) : Wd X (mset h n e) (some (n + 1)) H1 := by
  obtain ⟨k1, k2, k3⟩ := w.2.2 n rfl
  refine ⟨fun b e1 hb => ?_, by rw [z]; have := w.2.1; omega, fun n' hn => ?_⟩
  · by_cases hba : b = n
    · subst hba
      rw [mset_s] at hb
      cases hb
      rw [k1] at he
      exact ⟨k2, he⟩
    · rw [mset_n hba] at hb
      obtain ⟨j1, j2⟩ := w.1 b e1 hb
      exact ⟨j1, va_at.kept j2 (hq _ j2.lt)⟩
  · cases hn
    refine ⟨by rw [z, k1]; omega, hn1, fun b hb => ?_⟩
    rw [mset_n (by omega)]
    exact k3 b (by omega)
abbrev jk : Value := .retAddr 0
/-- the machine's locals hold the listed ones, but for those that are unset -/
def LR (X : mX) (L : List Value) (ls : Array Slot) (n : Nat) : Prop := ls.size = n ∧ L.length = n ∧ lv_wf ls ∧ ∀ (i : Nat) (v : Value), L[i]? = some v → v ≠ jk → ls[i]? = some (.val (cv X v))
/-- the first half of a long or double goes when its second is written over -/
def stk (L : List Value) (j : Nat) : List Value := match L[j]? with
  | some (.long _) => L.set j jk
  | some (.double _) => L.set j jk
  | _ => L
def stl (L : List Value) (i : Nat) (v : Value) : List Value := (if i = 0 then L else stk L (i - 1)).set i v
def stl2 (L : List Value) (i : Nat) (v : Value) : List Value := (stl L i v).set (i + 1) jk
/-- the listed locals as the kit wants them -/
def lvl (X : mX) (L : List Value) : List (Nat × Value) := (List.range L.length).filterMap (fun i => match L[i]? with
  | some v => if v = jk then none else some (i, cv X v)
  | none => none)
theorem lvl_mem {X : mX} {L : List Value} {i : Nat} {w : Value} : (i, w) ∈ lvl X L ↔ ∃ v, L[i]? = some v ∧ v ≠ jk ∧ w = cv X v := by
  unfold lvl
  rw [List.mem_filterMap]
  constructor
  · rintro ⟨j, hj, h⟩
    cases hv : L[j]? with
    | none => rw [hv] at h; cases h
    | some v =>
      rw [hv] at h
      by_cases hjk : v = jk
      · simp [hjk] at h
      · simp only [hjk, if_false, Option.some.injEq, Prod.mk.injEq] at h
        obtain ⟨rfl, rfl⟩ := h
        exact ⟨v, hv, hjk, rfl⟩
  · rintro ⟨v, hv, hjk, rfl⟩
    refine ⟨i, List.mem_range.mpr (List.getElem?_eq_some_iff.mp hv).1, ?_⟩
    rw [hv]
    simp [hjk]
theorem LR.has {X : mX} {L : List Value} {ls : Array Slot} {n : Nat} (h : LR X L ls n) : lv_has ls n (lvl X L) := by
  refine ⟨h.1, h.2.2.1, fun q hq => ?_⟩
  obtain ⟨i, w⟩ := q
  obtain ⟨v, hv, hjk, rfl⟩ := lvl_mem.mp hq
  exact h.2.2.2 i v hv hjk
theorem stk_len (L : List Value) (j : Nat) : (stk L j).length = L.length := by
  unfold stk
  split <;> simp
theorem stk_get {L : List Value} {j k : Nat} {w : Value} (h : (stk L j)[k]? = some w) (hw : w ≠ jk) : L[k]? = some w ∧ ¬ (k = j ∧ w.category = 2) := by
  have set : ∀ u : Value, L[j]? = some u → (L.set j jk)[k]? = some w → L[k]? = some w ∧ ¬ (k = j ∧ w.category = 2) := by
    intro u hu h
    by_cases hk : k = j
    · subst hk
      rw [List.getElem?_set_self (List.getElem?_eq_some_iff.mp hu).1] at h
      exact absurd (Option.some.inj h).symm hw
    · rw [List.getElem?_set_ne (by omega)] at h
      exact ⟨h, fun q => hk q.1⟩
  unfold stk at h
  cases e : L[j]? with
  | none =>
    rw [e] at h
    exact ⟨h, fun q => by rw [q.1, e] at h; cases h⟩
  | some u =>
    rw [e] at h
    cases u with
    | long x => exact set _ e h
    | double x => exact set _ e h
    | _ => exact ⟨h, fun q => by rw [q.1, e] at h; rw [← Option.some.inj h] at q; exact absurd q.2 (Nat.ne_of_lt (Nat.lt_succ_self 1))⟩
theorem stl_len (L : List Value) (i : Nat) (v : Value) : (stl L i v).length = L.length := by
  unfold stl
  rw [List.length_set]
  split
  · rfl
  · exact stk_len _ _
theorem stl_get {L : List Value} {i j : Nat} {v w : Value} (hi : i < L.length) (h : (stl L i v)[j]? = some w) (hw : w ≠ jk) : (j = i ∧ w = v) ∨ (j ≠ i ∧ L[j]? = some w ∧ ¬ (j + 1 = i ∧ w.category = 2)) := by
  unfold stl at h
  by_cases hj : j = i
  · subst hj
    rw [List.getElem?_set_self (by split; exact hi; rw [stk_len]; exact hi)] at h
    exact Or.inl ⟨rfl, (Option.some.inj h).symm⟩
  · rw [List.getElem?_set_ne (by omega)] at h
    by_cases h0 : i = 0
    · rw [if_pos h0] at h
      exact Or.inr ⟨hj, h, by omega⟩
    · rw [if_neg h0] at h
      obtain ⟨h1, h2⟩ := stk_get h hw
      exact Or.inr ⟨hj, h1, fun q => h2 ⟨by omega, q.2⟩⟩
theorem LR.st1 {X : mX} {L : List Value} {ls ls' : Array Slot} {n i : Nat} {v : Value} (h : LR X L ls n) (hi : i < n) (h' : lv_has ls' n ((i, cv X v) :: (lvl X L).filter (fun q => !(q.1 == i) && !(q.1 + 1 == i && q.2.category == 2)))) : LR X (stl L i v) ls' n := by
  refine ⟨h'.1, by rw [stl_len]; exact h.2.1, h'.2.1, fun j w hj hw => ?_⟩
  refine h'.2.2 (j, cv X w) ?_
  rcases stl_get (by rw [h.2.1]; exact hi) hj hw with ⟨rfl, rfl⟩ | ⟨h1, h2, h3⟩
  · exact List.mem_cons_self
  · refine List.mem_cons_of_mem _ (List.mem_filter.mpr ⟨lvl_mem.mpr ⟨w, h2, hw, rfl⟩, ?_⟩)
    simp only [cv_cat]
    by_cases h4 : j + 1 = i
    · have h5 : ¬ w.category = 2 := fun q => h3 ⟨h4, q⟩
      simp [h1, h5]
    · simp [h1, h4]
theorem LR.st2 {X : mX} {L : List Value} {ls ls' : Array Slot} {n i : Nat} {v : Value} (h : LR X L ls n) (hi : i + 1 < n) (h' : lv_has ls' n ((i, cv X v) :: (lvl X L).filter (fun q => !(q.1 == i) && (!(q.1 == i + 1) && !(q.1 + 1 == i && q.2.category == 2))))) : LR X (stl2 L i v) ls' n := by
  refine ⟨h'.1, by unfold stl2; rw [List.length_set, stl_len]; exact h.2.1, h'.2.1, fun j w hj hw => ?_⟩
  refine h'.2.2 (j, cv X w) ?_
  unfold stl2 at hj
  by_cases h6 : j = i + 1
  · subst h6
    rw [List.getElem?_set_self (by rw [stl_len, h.2.1]; exact hi)] at hj
    exact absurd (Option.some.inj hj).symm hw
  · rw [List.getElem?_set_ne (by omega)] at hj
    rcases stl_get (by rw [h.2.1]; omega) hj hw with ⟨rfl, rfl⟩ | ⟨h1, h2, h3⟩
    · exact List.mem_cons_self
    · refine List.mem_cons_of_mem _ (List.mem_filter.mpr ⟨lvl_mem.mpr ⟨w, h2, hw, rfl⟩, ?_⟩)
      simp only [cv_cat]
      by_cases h4 : j + 1 = i
      · have h5 : ¬ w.category = 2 := fun q => h3 ⟨h4, q⟩
        simp [h1, h5, h6]
      · simp [h1, h4, h6]
/-- how a method ends: an answer, or an exception by its number -/
abbrev mO : Type := Option Value ⊕ Nat
def Qcv (X : mX) (Q : mO → mH → Prop) (f : Option Nat) : Array Value → State → Outcome → State → Prop := fun _ st oc t => ∃ (v : Option Value) (h : mH), oc = .returned (v.map (cv X)) ∧ Q (.inl v) h ∧ Wd X h f t.heap ∧ va_F (xA X) st t
def Qxv (X : mX) (Q : mO → mH → Prop) : String → State → State → Prop := fun E st t => ∃ (k : Nat) (h : mH), k < 3 ∧ E = exn k ∧ Q (.inr k) h ∧ Wd X h none t.heap ∧ va_F (xA X) st t
/-- the machine at a place of a method's body -/
def Cx (X : mX) (M : mMD) (R : Room) (p : Program) (s : State) (m : MethodId) (args : Array Value) (meth : Method) (c : Code) : Prop :=
  p.tables.exec = Jvm.exec ∧ c.code = mBy M ∧ meth.sig.returnType = mRt M ∧ c.maxLocals = mML M ∧ s.vm.findClass (RN (mOwn M)) = some m.cls ∧ (∀ w ∈ WL, w.before args s = true) ∧ meth.locks = false ∧ meth.name = (mNm M).name ∧ c.exceptionTable.toList.map (fun h => (h.startPc, h.endPc, h.handlerPc, h.catchType)) = mHH M ∧ R.frames = mFr M ∧ R.locals = mLo M ∧ Fx X s s.heap ∧ xlo X ≤ s.heap.size
/-- the heap's size if known, at the end too; cells and slots made so far, and those that the whole may make -/
abbrev mB : Type := Option Nat × Option Nat × Nat × Nat × Nat × Nat
def Ev (X : mX) (M : mMD) (B : mB) (pc : Nat) (L st : List Value) (h : mH) (Q : mO → mH → Prop) : Prop :=
  ∀ (p : Program) (e : Env) (s : State) (m : MethodId) (args : Array Value) (below : List Frame) (meth : Method) (c : Code) (H : Heap) (locs : List Loc) (ls : Array Slot) (R : Room),
    Cx X M R p s m args meth c → R.cells = B.2.2.2.2.1 → R.slots = B.2.2.2.2.2 → Wd X h B.1 H → va_S (xA X) s.heap H locs → LR X L ls (mML M) →
    W p (xl X) e R s m args below meth c H locs B.2.2.1 B.2.2.2.1 (vx_MQ below (Qcv X Q B.2.1) (Qxv X Q) args s B.2.2.2.2.1 B.2.2.2.2.2 (xA X)) (F0 m pc ls (st.map (cv X)))
def mRm (M : mMD) (mc ms : Nat) : Room := { frames := mFr M, cells := mc, slots := ms, locals := mLo M }
def mPc (X : mX) (f : Option Nat) (as : List Value) (h : mH) : Array Value → State → Prop := va_Pc (as.map (cv X)) (fun U => Wd X h f U.heap ∧ Fx X U U.heap)
/-- a whole method, from these arguments and cells; ws: its words -/
def CnW (X : mX) (M : mMD) (ws : List Cond) (f f' : Option Nat) (mc ms : Nat) (as : List Value) (h : mH) (Q : mO → mH → Prop) : Prop :=
  vx_Met (xl X) (mNm M) ws (mRm M mc ms) (mPc X f as h) (Qcv X Q f') (Qxv X Q) mc ms (xA X)
abbrev Cn (X : mX) (M : mMD) (f f' : Option Nat) (mc ms : Nat) (as : List Value) (h : mH) (Q : mO → mH → Prop) : Prop := CnW X M (wsM M) f f' mc ms as h Q
abbrev CnH (X : mX) (M : mMD) (f f' : Option Nat) (mc ms : Nat) (as : List Value) (h : mH) (Q : mO → mH → Prop) : Prop := CnW X M (wsH M) f f' mc ms as h Q
/-- the locals with which a method begins -/
def entA : List Value → List Value
  | [] => []
  | .long x :: vs => .long x :: jk :: entA vs
  | .double x :: vs => .double x :: jk :: entA vs
  | v :: vs => v :: entA vs
def ent (as : List Value) (n : Nat) : List Value := entA as ++ List.replicate (n - (entA as).length) jk
