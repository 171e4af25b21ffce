def TN : Nat → u_T := fun c => match c with
  | 0 => TX0
  | 1 => TX1
  | 2 => TX2
  | 3 => TX3
  | 4 => TX4
  | 5 => TX5
  | _ => TX6
def NN : Nat → Nat := fun c => match c with
  | 0 => 2
  | 1 => 7
  | 2 => 2
  | 3 => 1
  | 4 => 3
  | 5 => 5
  | _ => 7
def tyN : Nat → Nat → FieldType := fun c => match c with
  | 0 => tyX0
  | 1 => tyX1
  | 2 => tyX2
  | 3 => tyX3
  | 4 => tyX4
  | 5 => tyX5
  | _ => tyX6
theorem lt7 {P : Nat → Prop} (h0 : P 0) (h1 : P 1) (h2 : P 2) (h3 : P 3) (h4 : P 4) (h5 : P 5) (h6 : P 6) {c : Nat} (hc : c < 7) : P c := by
  match c, hc with
  | 0, _ => exact h0
  | 1, _ => exact h1
  | 2, _ => exact h2
  | 3, _ => exact h3
  | 4, _ => exact h4
  | 5, _ => exact h5
  | 6, _ => exact h6
theorem cl_at {c : Nat} (hc : c < 7) : vwCl[c]? = some (RN c, TN c, NN c) := lt7 (P := fun c => vwCl[c]? = some (RN c, TN c, NN c)) rfl rfl rfl rfl rfl rfl rfl hc
theorem nm_N {c : Nat} (hc : c < 7) : ∀ a, a < NN c → ∀ b, b < NN c → a ≠ b → (TN c a).2.1 ≠ (TN c b).2.1 := lt7 (P := fun c => ∀ a, a < NN c → ∀ b, b < NN c → a ≠ b → (TN c a).2.1 ≠ (TN c b).2.1) nmX0 nmX1 nmX2 nmX3 nmX4 nmX5 nmX6 hc
theorem ty_N {c : Nat} (hc : c < 7) : ∀ k, k < NN c → parseFieldDescriptor (TN c k).2.2.1 = some (tyN c k) := lt7 (P := fun c => ∀ k, k < NN c → parseFieldDescriptor (TN c k).2.2.1 = some (tyN c k)) tyX0_ok tyX1_ok tyX2_ok tyX3_ok tyX4_ok tyX5_ok tyX6_ok hc
theorem in_N {c : Nat} (hc : c < 7) : ∀ w ∈ u_ws (RN c) (TN c) (NN c), w ∈ WL := by
  have key : ∀ ws : List Cond, (∀ w ∈ ws, w ∈ lw_tbl ∧ goodWord w = true) → ∀ w ∈ ws, w ∈ WL := fun ws h w hw => List.mem_filter.mpr (h w hw)
  refine lt7 (P := fun c => ∀ w ∈ u_ws (RN c) (TN c) (NN c), w ∈ WL) ?_ ?_ ?_ ?_ ?_ ?_ ?_ hc <;> exact key _ (by decide +kernel)
/-- the pool's entry idx of class own means field k of class ci -/
def LkF (own idx ci k : Nat) : Prop := ci < 7 ∧ k < NN ci ∧ Cond.fieldLink (RN own) idx (TN ci k).1 (TN ci k).2.1 (TN ci k).2.2.1 ∈ WL
theorem xad_lo {X : mX} {h : mH} {f : Option Nat} {H : Heap} {a : Nat} {e : mAc} (w : Wd X h f H) (ha : h a = some e) : xad X a = xlo X + a := if_pos (w.1 a e ha).1
theorem Wd.one {X : mX} {h : mH} {f : Option Nat} {H : Heap} {a : Nat} {e : mAc} (w : Wd X h f H) (ha : h a = some e) : va_P (xD X) vwCl [(xlo X + a, cvE X e)] H := by
  intro k q hk
  have hz : k < 1 := (List.getElem?_eq_some_iff.mp hk).1
  rw [show k = 0 by omega] at hk
  cases hk
  exact (w.1 a e ha).2
theorem ev_getfield {X : mX} {M : mMD} {B : mB} {pc : Nat} {L st : List Value} {h : mH} {Q : mO → mH → Prop} {idx ci k a : Nat} {fs : List Value} {v : Value} (hd : decode (mBy M) pc = .ok (.getfield idx, 3)) (hk : LkF (mOwn M) idx ci k) (ha : h a = some (aO ci fs)) (hv : fs[k]? = some v) (kk : Ev X M B (pc + 3) L (v :: st) h Q) : Ev X M B pc L (.ref a :: st) h Q := by
  intro p e s m args below meth c H locs ls R C hc hs hW hS hL
  show W _ _ _ _ _ _ _ _ _ _ _ _ _ _ _ (F0 m pc ls (.ref (xad X a) :: st.map (cv X)))
  rw [xad_lo hW ha]
  exact va_get (D := xD X) (ci := ci) C.1 C.2.1 C.2.2.2.2.2.1 (in_N hk.1) C.2.2.2.2.1 C.2.2.2.2.2.2.2.2.2.2.2.1.2.1 (hW.one ha) 0 rfl (cl_at hk.1) k hk.2.1 (C.2.2.2.2.2.1 _ hk.2.2) (fun _ z => z) (by rw [List.getElem?_map, hv]; rfl) hd (kk p e s m args below meth c H locs ls R C hc hs hW hS hL)
theorem ev_putfield {X : mX} {M : mMD} {B : mB} {pc : Nat} {L st : List Value} {h : mH} {Q : mO → mH → Prop} {idx ci k a : Nat} {fs fs' : List Value} {v : Value} (hd : decode (mBy M) pc = .ok (.putfield idx, 3)) (hk : LkF (mOwn M) idx ci k) (hfin : (TN ci k).2.2.2 = false) (ha : h a = some (aO ci fs)) (hl : k < fs.length) (hn : narrow (tyN ci k) (cv X v) = cv X v) (hfit : fits (tyN ci k) (cv X v) = true) (hfs : fs.set k v = fs') (kk : Ev X M B (pc + 3) L st (mset h a (aO ci fs')) Q) : Ev X M B pc L (v :: .ref a :: st) h Q := by
  subst hfs
  intro p e s m args below meth c H locs ls R C hc hs hW hS hL
  show W _ _ _ _ _ _ _ _ _ _ _ _ _ _ _ (F0 m pc ls (cv X v :: .ref (xad X a) :: st.map (cv X)))
  rw [xad_lo hW ha]
  have hap := va_apart (own := RN (mOwn M)) C.2.2.2.2.2.1 (in_N hk.1) (tyN ci) (ty_N hk.1) (nm_N hk.1) C.2.2.2.2.2.2.2.2.2.2.2.1.2.1 (cl_at hk.1)
  obtain ⟨r, h1, cell, q1, q2, q3, q4⟩ := (hW.1 a _ ha).2
  have hr : r = (RN ci, TN ci, NN ci) := Option.some.inj (h1.symm.trans (cl_at hk.1))
  subst hr
  obtain ⟨hSl, hfc, kC, hkC, hkind⟩ := C.2.2.2.2.2.2.2.2.2.2.2.1.2.1.1 ci _ (cl_at hk.1)
  obtain ⟨cf, kf, fi, f, hi, hsl⟩ := hSl k hk.2.1
  have hlay := C.2.2.2.2.2.1 _ (in_N hk.1 _ (u_in_lay hk.2.1))
  unfold u_lay at hlay
  rw [if_neg (by rw [hfin]; decide)] at hlay
  have hst := (u_facts hfc hkC (u_lays C.2.2.2.2.2.1 (in_N hk.1) hk.2.1) hi).1
  have h6 := u_store hfc hkC hkind hlay hi (ty_N hk.1 k hk.2.1) hn hfit
  refine W.putK C.1 C.2.1 (f := f) ⟨C.2.2.2.2.1, C.2.2.2.2.2.1 _ hk.2.2, ⟨_, _, _, hi⟩, hst⟩ (by rw [q2]; exact h6) q1 q3 (by rw [hsl]; exact k2_hasslot (q4 k hk.2.1)) rfl rfl hd fun H' e1 e2 e3 => ?_
  rw [hsl] at e1 ⊢
  refine kk p e s m args below meth c H' _ ls R C hc hs (hW.put ha e2 e3 ⟨_, cl_at hk.1, t_OB.to (V := updV (vp_V (fs.map (cv X))) k (cv X v)) ⟨_, e1, q2, q3, t_set q4 hap hk.2.1 (cv X v)⟩ (fun j _ => ?_)⟩) (hS.put e2 e3 (Nat.le_add_right _ _)) hL
  rw [vp_updV_set (by rw [List.length_map]; exact hl), ← List.map_set]
theorem ev_putfinal {X : mX} {M : mMD} {B : mB} {pc : Nat} {L st : List Value} {h : mH} {Q : mO → mH → Prop} {idx ci k a : Nat} {fs fs' : List Value} {v : Value} (hd : decode (mBy M) pc = .ok (.putfield idx, 3)) (hk : LkF (mOwn M) idx ci k) (hfin : (TN ci k).2.2.2 = true) (hin : (mNm M).name = "<init>") (hdecl : (TN ci k).1 = RN (mOwn M)) (ha : h a = some (aO ci fs)) (hl : k < fs.length) (hn : narrow (tyN ci k) (cv X v) = cv X v) (hfit : fits (tyN ci k) (cv X v) = true) (hfs : fs.set k v = fs') (kk : Ev X M B (pc + 3) L st (mset h a (aO ci fs')) Q) : Ev X M B pc L (v :: .ref a :: st) h Q := by
  subst hfs
  intro p e s m args below meth c H locs ls R C hc hs hW hS hL
  show W _ _ _ _ _ _ _ _ _ _ _ _ _ _ _ (F0 m pc ls (cv X v :: .ref (xad X a) :: st.map (cv X)))
  rw [xad_lo hW ha]
  have hap := va_apart (own := RN (mOwn M)) C.2.2.2.2.2.1 (in_N hk.1) (tyN ci) (ty_N hk.1) (nm_N hk.1) C.2.2.2.2.2.2.2.2.2.2.2.1.2.1 (cl_at hk.1)
  obtain ⟨r, h1, cell, q1, q2, q3, q4⟩ := (hW.1 a _ ha).2
  have hr : r = (RN ci, TN ci, NN ci) := Option.some.inj (h1.symm.trans (cl_at hk.1))
  subst hr
  obtain ⟨hSl, hfc, kC, hkC, hkind⟩ := C.2.2.2.2.2.2.2.2.2.2.2.1.2.1.1 ci _ (cl_at hk.1)
  obtain ⟨cf, kf, fi, f, hi, hsl⟩ := hSl k hk.2.1
  have hlay := C.2.2.2.2.2.1 _ (in_N hk.1 _ (u_in_lay hk.2.1))
  unfold u_lay at hlay
  rw [if_pos hfin] at hlay
  have hst := (u_facts hfc hkC (u_lays C.2.2.2.2.2.1 (in_N hk.1) hk.2.1) hi).1
  have hcf : m.cls = cf := by
    obtain ⟨_, _, c', _, _, _, -, -, hf', -, -, -, hown2, -⟩ := Cond.laysFinal_spec hlay
    have e1 : c' = cf := by have := hi.symm.trans hf'; simp at this; exact this.1.symm
    rw [hdecl] at hown2
    rw [← e1]; exact Option.some.inj (C.2.2.2.2.1.symm.trans hown2)
  have h6 := u_fits hfc hkC hkind (Or.inr hlay) hi (ty_N hk.1 k hk.2.1) hn hfit
  refine W.putFinK C.1 C.2.1 C.2.2.2.2.1 (C.2.2.2.2.2.1 _ hk.2.2) hi hst hcf (C.2.2.2.2.2.2.2.1.trans hin) (by rw [q2]; exact h6) q1 q3 (by rw [hsl]; exact k2_hasslot (q4 k hk.2.1)) rfl rfl hd fun H' e1 e2 e3 => ?_
  rw [hsl] at e1 ⊢
  refine kk p e s m args below meth c H' _ ls R C hc hs (hW.put ha e2 e3 ⟨_, cl_at hk.1, t_OB.to (V := updV (vp_V (fs.map (cv X))) k (cv X v)) ⟨_, e1, q2, q3, t_set q4 hap hk.2.1 (cv X v)⟩ (fun j _ => ?_)⟩) (hS.put e2 e3 (Nat.le_add_right _ _)) hL
  rw [vp_updV_set (by rw [List.length_map]; exact hl), ← List.map_set]
theorem ev_iaload {X : mX} {M : mMD} {B : mB} {pc : Nat} {L st : List Value} {h : mH} {Q : mO → mH → Prop} {a n : Nat} {f : Nat → Int32} {i : Int32} (hd : decode (mBy M) pc = .ok (.iaload, 1)) (ha : h a = some (aI n f)) (hin : vp_in i n) (kk : Ev X M B (pc + 1) L (.int (f i.toNatClampNeg) :: st) h Q) : Ev X M B pc L (.int i :: .ref a :: st) h Q := by
  intro p e s m args below meth c H locs ls R C hc hs hW hS hL
  show W _ _ _ _ _ _ _ _ _ _ _ _ _ _ _ (F0 m pc ls (.int i :: .ref (xad X a) :: st.map (cv X)))
  rw [xad_lo hW ha]
  exact va_iald C.1 C.2.1 C.2.2.2.2.2.2.2.2.2.2.2.1.2.1 (hW.one ha) 0 0 rfl rfl hin hd (kk p e s m args below meth c H locs ls R C hc hs hW hS hL)
theorem ev_laload {X : mX} {M : mMD} {B : mB} {pc : Nat} {L st : List Value} {h : mH} {Q : mO → mH → Prop} {a n : Nat} {f : Nat → Int64} {i : Int32} (hd : decode (mBy M) pc = .ok (.laload, 1)) (ha : h a = some (aL n f)) (hin : vp_in i n) (kk : Ev X M B (pc + 1) L (.long (f i.toNatClampNeg) :: st) h Q) : Ev X M B pc L (.int i :: .ref a :: st) h Q := by
  intro p e s m args below meth c H locs ls R C hc hs hW hS hL
  show W _ _ _ _ _ _ _ _ _ _ _ _ _ _ _ (F0 m pc ls (.int i :: .ref (xad X a) :: st.map (cv X)))
  rw [xad_lo hW ha]
  exact va_lald C.1 C.2.1 C.2.2.2.2.2.2.2.2.2.2.2.1.2.1 (hW.one ha) 0 1 rfl rfl hin hd (kk p e s m args below meth c H locs ls R C hc hs hW hS hL)
def kC : Nat → String := fun t => if t = 2 then RX1 else RX4
theorem ev_aaload {X : mX} {M : mMD} {B : mB} {pc : Nat} {L st : List Value} {h : mH} {Q : mO → mH → Prop} {a n t b : Nat} {f : Nat → Option Nat} {i : Int32} (hd : decode (mBy M) pc = .ok (.aaload, 1)) (ht : t = 2 ∨ t = 3) (ha : h a = some (aR t n f)) (hin : vp_in i n) (hb : f i.toNatClampNeg = some b) (kk : Ev X M B (pc + 1) L (.ref b :: st) h Q) : Ev X M B pc L (.int i :: .ref a :: st) h Q := by
  intro p e s m args below meth c H locs ls R C hc hs hW hS hL
  show W _ _ _ _ _ _ _ _ _ _ _ _ _ _ _ (F0 m pc ls (.int i :: .ref (xad X a) :: st.map (cv X)))
  rw [xad_lo hW ha]
  refine va_aldq (C := kC t) (f := fun j => (f j).map (xad X)) C.1 C.2.1 C.2.2.2.2.2.2.2.2.2.2.2.1.2.1 (hW.one ha) 0 t rfl (by rcases ht with rfl | rfl <;> rfl) hin hd ?_
  rw [hb]
  exact kk p e s m args below meth c H locs ls R C hc hs hW hS hL
theorem ev_ialoadR {X : mX} {M : mMD} {B : mB} {pc : Nat} {L st : List Value} {h : mH} {Q : mO → mH → Prop} {j n : Nat} {f : Nat → Int32} {i : Int32} (hd : decode (mBy M) pc = .ok (.iaload, 1)) (ha : xro X (1000000 + j) = some (n, f)) (hin : vp_in i n) (kk : Ev X M B (pc + 1) L (.int (f i.toNatClampNeg) :: st) h Q) : Ev X M B pc L (.int i :: .ref (1000000 + j) :: st) h Q := by
  intro p e s m args below meth c H locs ls R C hc hs hW hS hL
  show W _ _ _ _ _ _ _ _ _ _ _ _ _ _ _ (F0 m pc ls (.int i :: .ref (xad X (1000000 + j)) :: st.map (cv X)))
  have ead : xad X (1000000 + j) = xta X j := by
    unfold xad
    rw [if_neg (by omega), Nat.add_sub_cancel_left]
  rw [ead]
  obtain ⟨cell, h1, h2, h3, h4, h5, h6⟩ := C.2.2.2.2.2.2.2.2.2.2.2.1.2.2.2.2.2.2.2.2.2.1 j n f ha
  have hlt : i.toNatClampNeg < n := Nat.not_le.mp fun q => hin (Or.inr q)
  exact W.iald (v := .int (f i.toNatClampNeg)) C.1 C.2.1 (by rw [hS.2.1 _ (Array.getElem?_eq_some_iff.mp h1).1 h6]; exact h1) h2 h3 (by rw [h4]; exact hin) (h5 _ hlt) rfl rfl hd (kk p e s m args below meth c H locs ls R C hc hs hW hS hL)
theorem ev_arraylengthR {X : mX} {M : mMD} {B : mB} {pc : Nat} {L st : List Value} {h : mH} {Q : mO → mH → Prop} {j n : Nat} {f : Nat → Int32} (hd : decode (mBy M) pc = .ok (.arraylength, 1)) (ha : xro X (1000000 + j) = some (n, f)) (kk : Ev X M B (pc + 1) L (.int (nI n) :: st) h Q) : Ev X M B pc L (.ref (1000000 + j) :: st) h Q := by
  intro p e s m args below meth c H locs ls R C hc hs hW hS hL
  show W _ _ _ _ _ _ _ _ _ _ _ _ _ _ _ (F0 m pc ls (.ref (xad X (1000000 + j)) :: st.map (cv X)))
  have ead : xad X (1000000 + j) = xta X j := by
    unfold xad
    rw [if_neg (by omega), Nat.add_sub_cancel_left]
  rw [ead]
  obtain ⟨cell, h1, h2, h3, h4, h5, h6⟩ := C.2.2.2.2.2.2.2.2.2.2.2.1.2.2.2.2.2.2.2.2.2.1 j n f ha
  exact W.alen (n := Int32.ofNat n) C.1 C.2.1 (by rw [hS.2.1 _ (Array.getElem?_eq_some_iff.mp h1).1 h6]; exact h1) h2 (by rw [h4] <;> rfl) rfl rfl hd (kk p e s m args below meth c H locs ls R C hc hs hW hS hL)
theorem ev_arraylengthL {X : mX} {M : mMD} {B : mB} {pc : Nat} {L st : List Value} {h : mH} {Q : mO → mH → Prop} {a n : Nat} {f : Nat → Int64} (hd : decode (mBy M) pc = .ok (.arraylength, 1)) (ha : h a = some (aL n f)) (kk : Ev X M B (pc + 1) L (.int (nI n) :: st) h Q) : Ev X M B pc L (.ref a :: st) h Q := by
  intro p e s m args below meth c H locs ls R C hc hs hW hS hL
  show W _ _ _ _ _ _ _ _ _ _ _ _ _ _ _ (F0 m pc ls (.ref (xad X a) :: st.map (cv X)))
  rw [xad_lo hW ha]
  exact va_alen (x := (n, .inr (.inl f))) C.1 C.2.1 C.2.2.2.2.2.2.2.2.2.2.2.1.2.1 (hW.one ha) 0 1 rfl (ty := .long) rfl rfl hd (kk p e s m args below meth c H locs ls R C hc hs hW hS hL)
theorem ev_iastore {X : mX} {M : mMD} {B : mB} {pc : Nat} {L st : List Value} {h : mH} {Q : mO → mH → Prop} {a n : Nat} {f : Nat → Int32} {i x : Int32} (hd : decode (mBy M) pc = .ok (.iastore, 1)) (ha : h a = some (aI n f)) (hin : vp_in i n) (kk : Ev X M B (pc + 1) L st (mset h a (aI n (upd f i.toNatClampNeg x))) Q) : Ev X M B pc L (.int x :: .int i :: .ref a :: st) h Q := by
  intro p e s m args below meth c H locs ls R C hc hs hW hS hL
  show W _ _ _ _ _ _ _ _ _ _ _ _ _ _ _ (F0 m pc ls (.int x :: .int i :: .ref (xad X a) :: st.map (cv X)))
  rw [xad_lo hW ha]
  refine W.iast C.1 C.2.1 ((hW.1 a _ ha).2) ((C.2.2.2.2.2.2.2.2.2.2.2.1.2.1.2 0 _ rfl).1 n (fun j => .int (f j))) (fun q => by cases q) (by show ¬ (i < 0 ∨ (arrV _ _ _).slots.size ≤ _); rw [arrV_size]; exact hin) rfl rfl hd fun H1 e1 z oq => ?_
  refine kk p e s m args below meth c H1 _ ls R C hc hs (hW.put ha z oq ?_) (hS.put z oq (Nat.le_add_right _ _)) hL
  show H1[xlo X + a]? = some (vp_cell _ _)
  rw [e1, vp_cell_i, vp_cell_i, arrV_store]
  congr 2
  funext q
  by_cases hq : q = i.toNatClampNeg
  · subst hq
    simp [updV, upd]
  · simp [updV, upd, hq]
theorem ev_lastore {X : mX} {M : mMD} {B : mB} {pc : Nat} {L st : List Value} {h : mH} {Q : mO → mH → Prop} {a n : Nat} {f : Nat → Int64} {i : Int32} {x : Int64} (hd : decode (mBy M) pc = .ok (.lastore, 1)) (ha : h a = some (aL n f)) (hin : vp_in i n) (kk : Ev X M B (pc + 1) L st (mset h a (aL n (vp_updL f i.toNatClampNeg x))) Q) : Ev X M B pc L (.long x :: .int i :: .ref a :: st) h Q := by
  intro p e s m args below meth c H locs ls R C hc hs hW hS hL
  show W _ _ _ _ _ _ _ _ _ _ _ _ _ _ _ (F0 m pc ls (.long x :: .int i :: .ref (xad X a) :: st.map (cv X)))
  rw [xad_lo hW ha]
  refine W.last C.1 C.2.1 ((hW.1 a _ ha).2) ((C.2.2.2.2.2.2.2.2.2.2.2.1.2.1.2 1 _ rfl).1 n (fun j => .long (f j))) (fun q => by cases q) (by show ¬ (i < 0 ∨ (arrV _ _ _).slots.size ≤ _); rw [arrV_size]; exact hin) rfl rfl hd fun H1 e1 z oq => ?_
  refine kk p e s m args below meth c H1 _ ls R C hc hs (hW.put ha z oq ?_) (hS.put z oq (Nat.le_add_right _ _)) hL
  show H1[xlo X + a]? = some (vp_cell _ _)
  rw [e1, vp_cell_l, vp_cell_l, arrV_store]
  congr 2
  funext q
  by_cases hq : q = i.toNatClampNeg
  · subst hq
    simp [updV, vp_updL]
  · simp [updV, vp_updL, hq]
def upR (f : Nat → Option Nat) (k : Nat) (v : Option Nat) : Nat → Option Nat := fun j => if j = k then v else f j
theorem ev_aastore {X : mX} {M : mMD} {B : mB} {pc : Nat} {L st : List Value} {h : mH} {Q : mO → mH → Prop} {a n t b cb : Nat} {f : Nat → Option Nat} {i : Int32} {fb : List Value} (hd : decode (mBy M) pc = .ok (.aastore, 1)) (ht : t = 2 ∧ cb = 1 ∨ t = 3 ∧ cb = 4) (ha : h a = some (aR t n f)) (hb : h b = some (aO cb fb)) (hin : vp_in i n) (kk : Ev X M B (pc + 1) L st (mset h a (aR t n (upR f i.toNatClampNeg (some b)))) Q) : Ev X M B pc L (.ref b :: .int i :: .ref a :: st) h Q := by
  intro p e s m args below meth c H locs ls R C hc hs hW hS hL
  show W _ _ _ _ _ _ _ _ _ _ _ _ _ _ _ (F0 m pc ls (.ref (xad X b) :: .int i :: .ref (xad X a) :: st.map (cv X)))
  rw [xad_lo hW ha, xad_lo hW hb]
  have hK := C.2.2.2.2.2.2.2.2.2.2.2.1.2.1
  have hcb : cb < 7 := by omega
  have htc : (xtys X)[t]? = some (xK X t, .object (RN cb)) := by rcases ht with ⟨rfl, rfl⟩ | ⟨rfl, rfl⟩ <;> rfl
  have hlt : i.toNatClampNeg < n := Nat.not_le.mp fun q => hin (Or.inr q)
  have h0 : ¬ i < 0 := fun q => hin (Or.inl q)
  obtain ⟨r', hr', cellV, g1, g2, g3, -⟩ := (hW.1 b _ hb).2
  have hcls := (hK.1 cb _ (cl_at hcb)).2
  obtain ⟨kA, comp, k1, k2, k3, -⟩ := (hK.2 t _ htc).2
  have hcomp : comp = (xD X).1 cb := Option.some.inj (k3.symm.trans hcls.1)
  subst hcomp
  obtain ⟨kC, hkC, -⟩ := hcls.2
  refine W.aast C.1 C.2.1 ((hW.1 a _ ha).2) (fun q h => by cases h) (fun h => by cases h) k1 k2 rfl hkC ⟨h0, by show _ < (arrV _ _ _).slots.size; rw [arrV_size]; exact hlt⟩ g1 (fun q h => by rw [g3] at h; cases h) (by rw [g2]; exact hkC) (by rw [g2]; exact va_assign hcls) rfl rfl hd fun H1 e1 z oq => ?_
  refine kk p e s m args below meth c H1 _ ls R C hc hs (hW.put ha z oq ?_) (hS.put z oq (Nat.le_add_right _ _)) hL
  show H1[xlo X + a]? = some (vp_cell _ _)
  rw [e1, vp_cell_q, vp_cell_q, arrV_store]
  congr 2
  funext q
  by_cases hq : q = i.toNatClampNeg
  · subst hq
    simp [updV, upR, va_rf, xad_lo hW hb]
  · simp [updV, upR, hq]
theorem ev_getstatic {X : mX} {M : mMD} {B : mB} {pc : Nat} {L st : List Value} {h : mH} {Q : mO → mH → Prop} {idx k : Nat} (hd : decode (mBy M) pc = .ok (.getstatic idx, 3)) (hk : k < 3) (hl : Cond.fieldLink (RN (mOwn M)) idx RX6 (xstat k) "[I" ∈ WL) (kk : Ev X M B (pc + 3) L (.ref (1000000 + k) :: st) h Q) : Ev X M B pc L st h Q := by
  intro p e s m args below meth c H locs ls R C hc hs hW hS hL
  have ead : xad X (1000000 + k) = xta X k := by
    unfold xad
    rw [if_neg (by omega), Nat.add_sub_cancel_left]
  have K := kk p e s m args below meth c H locs ls R C hc hs hW hS hL
  have e2 : cv X (.ref (1000000 + k)) = .ref (xta X k) := congrArg Value.ref ead
  rw [List.map_cons, e2] at K
  exact va_gets C.1 C.2.1 (C.2.2.2.2.2.2.2.2.2.2.2.1.2.2.2.2.2.2.2.2.1 k hk) hS C.2.2.2.2.1 (C.2.2.2.2.2.1 _ hl) (fun _ z => z) hd K
theorem ev_getstaticN {X : mX} {M : mMD} {B : mB} {pc : Nat} {L st : List Value} {h : mH} {Q : mO → mH → Prop} (hd : decode (mBy M) pc = .ok (.getstatic 9, 3)) (hM : mOwn M = 3) (kk : Ev X M B (pc + 3) L (.ref 1000000 :: st) h Q) : Ev X M B pc L st h Q := by
  intro p e s m args below meth c H locs ls R C hc hs hW hS hL
  have ead : xad X 1000000 = xta X 0 := by
    unfold xad
    rw [if_neg (by omega)]
  have K := kk p e s m args below meth c H locs ls R C hc hs hW hS hL
  have e2 : cv X (.ref 1000000) = .ref (xta X 0) := congrArg Value.ref ead
  rw [List.map_cons, e2] at K
  have hF := C.2.2.2.2.2.2.2.2.2.2.2.1
  have hown := C.2.2.2.2.1
  rw [hM] at hown
  exact va_getsN C.1 C.2.1 (hF.2.2.2.2.2.2.2.2.1 0 (by decide)) hS hown (va_Nw.use rfl hF.2.2.2.2.2.2.2.2.2.2.2.2.2.2) (fun _ z => z) hd K
