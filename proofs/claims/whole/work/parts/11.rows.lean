def mm_drv (k : Nat) : Int32 := if k = 0 then 97 else if k = 1 then 98 else 95
def mm_dr (i : Int32) : Option Int32 := if i < 0 ∨ 3 ≤ i.toNatClampNeg then none else some (mm_drv i.toNatClampNeg)
/-- the one static array that the class reads -/
def mm_St (lo : Nat) (U : State) (H : Heap) : Prop := ∃ t : Nat, va_Z RX9 "DRAWN_SIGNS" "[I" (.ref t) (mm_fr lo) U H ∧ va_T .int t 3 (fun k => .int (mm_drv k)) (mm_fr lo) U H
def mm_C (D : va_G) (dA : Nat → ClassId) (lo : Nat) (cc : ByteArray) (own : String) (nL : Nat) (p : Program) (s : State) (m : MethodId) (args : Array Value) (c : Code) : Prop :=
  p.tables.exec = Jvm.exec ∧ c.code = cc ∧ c.maxLocals = nL ∧ s.vm.findClass own = some m.cls ∧ (∀ w ∈ mm_ws, w.before args s = true) ∧ va_K D vwCl (mm_tys dA) s ∧ mm_St lo s s.heap
def mm_I (D : va_G) (dA : Nat → ClassId) (lo : Nat) (s : State) (M : mm_M) (H : Heap) (locs : List Loc) : Prop := mm_H D dA lo M H ∧ va_S (mm_fr lo) s.heap H locs
/-- a field by its link: the class, the place, the type, whether final -/
def mm_FL (own : String) (idx ci k : Nat) (ty : FieldType) (fin : Bool) : Prop := ∃ (C : String) (T : u_T) (N : Nat) (ty0 : Nat → FieldType), vwCl[ci]? = some (C, T, N) ∧ k < N ∧ (∀ w ∈ u_ws C T N, w ∈ mm_ws) ∧ (∀ k, k < N → parseFieldDescriptor (T k).2.2.1 = some (ty0 k)) ∧ (∀ a, a < N → ∀ b, b < N → a ≠ b → (T a).2.1 ≠ (T b).2.1) ∧ Cond.fieldLink own idx C (T k).2.1 (T k).2.2.1 ∈ mm_ws ∧ (T k).1 = C ∧ (T k).2.2.2 = fin ∧ parseFieldDescriptor (T k).2.2.1 = some ty
def mm_P (D : va_G) (dA : Nat → ClassId) (lo : Nat) (av : List Value) (M : mm_M) : Array Value → State → Prop := va_Pc av (fun U => mm_H D dA lo M U.heap ∧ va_K D vwCl (mm_tys dA) U ∧ mm_St lo U U.heap)
def mm_Q (D : va_G) (dA : Nat → ClassId) (lo : Nat) (r : Option Value) (M' : mm_M) : Array Value → State → Outcome → State → Prop := fun _ st oc t => oc = .returned r ∧ mm_H D dA lo M' t.heap ∧ va_F (mm_fr lo) st t
def mm_rm (fr lc mc ms : Nat) : Room := { frames := fr, cells := mc, slots := ms, locals := lc }
def mm_Met (l : Launch) (D : va_G) (dA : Nat → ClassId) (lo : Nat) (y : MethodName) (cc : ByteArray) (maxL : Nat) (ret : Option FieldType) (fr lc mc ms : Nat) (av : List Value) (M : mm_M) (r : Option Value) (M' : mm_M) : Prop :=
  Met l y (Cond.code y cc maxL ret :: mm_ws) (mm_rm fr lc mc ms) (mm_P D dA lo av M) (mm_Q D dA lo r M') mc ms (mm_fr lo)
theorem mm_enter {l : Launch} {D : va_G} {dA : Nat → ClassId} {lo : Nat} {y : MethodName} {cc : ByteArray} {maxL : Nat} {ret : Option FieldType} {fr lc mc ms : Nat} {av : List Value} {M : mm_M} {r : Option Value} {M' : mm_M} (hy : plainName y.cls = true) (hav : (lg_sl av).length ≤ maxL)
    (body : ∀ (p : Program) (e : Env) (s : State) (m : MethodId) (args : Array Value) (below : List Frame) (meth : Method) (c : Code) (ls : Array Slot), mm_C D dA lo cc y.cls maxL p s m args c → meth.sig.returnType = ret → meth.locks = false → meth.name = y.name → mm_I D dA lo s M s.heap [] → lv_has ls maxL (lv_args 0 av) →
      W p l e (mm_rm fr lc mc ms) s m args below meth c s.heap [] 0 0 (MQ below (mm_Q D dA lo r M') args s mc ms (mm_fr lo)) (F0 m 0 ls [])) : mm_Met l D dA lo y cc maxL ret fr lc mc ms av M r M' := by
  refine Met.ofW (cc := cc) (maxL := maxL) (ret := ret) hy rfl ?_
  intro p e s m args below meth c s₁ B hml hv
  obtain ⟨rfl, hH, hK, hSt⟩ := hv
  have hts := atoms_spec (ws := Cond.code y cc maxL ret :: mm_ws) B.pre
  have hl := lv_entry av hav
  rw [lg_entry_eq]
  exact body p e s m _ below meth c _ ⟨B.exec, B.bytes, hml, findClass_of_methodNamed B.named, fun w hw => hts w (List.mem_cons_of_mem _ hw), hK, hSt⟩ B.returns B.notSynchronized (name_of_methodNamed B.named B.method).1 ⟨hH, va_S.rf⟩ hl
section MMR
variable {p : Program} {l : Launch} {e : Env} {R : Room} {s : State} {m : MethodId} {args : Array Value} {below : List Frame} {meth : Method} {c : Code} {H : Heap} {locs : List Loc} {cells slots : Nat} {Q : State → Prop}
variable {cc : ByteArray} {own : String} {nL : Nat} {D : va_G} {dA : Nat → ClassId} {lo : Nat} {M : mm_M} {pc : Nat} {ls : Array Slot} {rest : List Value}
theorem mm_rget (X : mm_C D dA lo cc own nL p s m args c) (I : mm_I D dA lo s M H locs) {idx ci k : Nat} {ty : FieldType} {fin : Bool} (fl : mm_FL own idx ci k ty fin) {a : Nat} (hdg : decode cc pc = .ok (.getfield idx, 3)) {v : Value} (hv : mm_get ci k M a = some v) (kk : W p l e R s m args below meth c H locs cells slots Q (F0 m (pc + 3) ls (v :: rest))) : W p l e R s m args below meth c H locs cells slots Q (F0 m pc ls (.ref a :: rest)) := by
  obtain ⟨fs, he, hv⟩ := mm_get_some hv
  obtain ⟨hx, hb, hml, hown, hts, hK, hSt⟩ := X
  obtain ⟨C, T, N, ty0, hc, hk, hin, hty, hnm, hlk, hT, hfin, hd⟩ := fl
  exact va_get (D := D) (ref := C) hx hb hts hin hown hK (I.1.at he) 0 rfl hc k hk (hts _ hlk) (fun _ h9 => by rw [hT] at h9; exact h9) hv hdg kk
theorem mm_rgi (X : mm_C D dA lo cc own nL p s m args c) (I : mm_I D dA lo s M H locs) {idx ci k : Nat} {ty : FieldType} {fin : Bool} (fl : mm_FL own idx ci k ty fin) {a : Nat} (hdg : decode cc pc = .ok (.getfield idx, 3)) {β : Type} {F : Int32 → Option β} {o : β} (h : mm_b1 (mm_gi ci k M a) F = some o) (kk : ∀ v : Int32, F v = some o → W p l e R s m args below meth c H locs cells slots Q (F0 m (pc + 3) ls (.int v :: rest))) : W p l e R s m args below meth c H locs cells slots Q (F0 m pc ls (.ref a :: rest)) := by
  obtain ⟨v, hv, h⟩ := mm_b1_some h
  exact mm_rget X I fl hdg (mm_gi_some hv) (kk v h)
theorem mm_rgl (X : mm_C D dA lo cc own nL p s m args c) (I : mm_I D dA lo s M H locs) {idx ci k : Nat} {ty : FieldType} {fin : Bool} (fl : mm_FL own idx ci k ty fin) {a : Nat} (hdg : decode cc pc = .ok (.getfield idx, 3)) {β : Type} {F : Int64 → Option β} {o : β} (h : mm_b1 (mm_gl ci k M a) F = some o) (kk : ∀ v : Int64, F v = some o → W p l e R s m args below meth c H locs cells slots Q (F0 m (pc + 3) ls (.long v :: rest))) : W p l e R s m args below meth c H locs cells slots Q (F0 m pc ls (.ref a :: rest)) := by
  obtain ⟨v, hv, h⟩ := mm_b1_some h
  exact mm_rget X I fl hdg (mm_gl_some hv) (kk v h)
theorem mm_rgr (X : mm_C D dA lo cc own nL p s m args c) (I : mm_I D dA lo s M H locs) {idx ci k : Nat} {ty : FieldType} {fin : Bool} (fl : mm_FL own idx ci k ty fin) {a : Nat} (hdg : decode cc pc = .ok (.getfield idx, 3)) {β : Type} {F : Nat → Option β} {o : β} (h : mm_b1 (mm_gr ci k M a) F = some o) (kk : ∀ v : Nat, F v = some o → W p l e R s m args below meth c H locs cells slots Q (F0 m (pc + 3) ls (.ref v :: rest))) : W p l e R s m args below meth c H locs cells slots Q (F0 m pc ls (.ref a :: rest)) := by
  obtain ⟨v, hv, h⟩ := mm_b1_some h
  exact mm_rget X I fl hdg (mm_gr_some hv) (kk v h)
theorem mm_rput (X : mm_C D dA lo cc own nL p s m args c) (I : mm_I D dA lo s M H locs) {idx ci k : Nat} {ty : FieldType} (fl : mm_FL own idx ci k ty false) {a : Nat} (hdg : decode cc pc = .ok (.putfield idx, 3)) {v : Value} (hn : narrow ty v = v) (hfit : fits ty v = true) {M' : mm_M} (hv : mm_put ci k M a v = some M') (kk : ∀ (H1 : Heap) (locs1 : List Loc), mm_I D dA lo s M' H1 locs1 → W p l e R s m args below meth c H1 locs1 cells slots Q (F0 m (pc + 3) ls rest)) : W p l e R s m args below meth c H locs cells slots Q (F0 m pc ls (v :: .ref a :: rest)) := by
  obtain ⟨fs, he, hl, rfl⟩ := mm_put_some hv
  obtain ⟨hx, hb, hml, hown, hts, hK, hSt⟩ := X
  obtain ⟨C, T, N, ty0, hc, hk, hin, hty, hnm, hlk, hT, hfin, hd⟩ := fl
  have hap := va_apart (own := own) hts hin ty0 hty hnm hK hc
  obtain ⟨r, h1, cell, q1, q2, q3, q4⟩ := (I.1.2.2 a _ he).2
  have hr : r = (C, T, N) := Option.some.inj (h1.symm.trans hc)
  subst hr
  obtain ⟨hS, hfc, kC, hkC, hkind⟩ := hK.1 ci _ hc
  obtain ⟨cf, kf, fi, f, hi, hsl⟩ := hS k hk
  have hlay := hts _ (hin _ (u_in_lay hk))
  unfold u_lay at hlay
  rw [if_neg (by rw [hfin]; decide)] at hlay
  have hst := (u_facts hfc hkC (u_lays hts hin hk) hi).1
  have h6 := u_store hfc hkC hkind hlay hi hd hn hfit
  have hi2 : s.fieldFound? C (T k).2.1 (T k).2.2.1 = some (cf, kf, fi, f) := by rw [hT] at hi; exact hi
  refine W.putK hx hb (f := f) ⟨hown, hts _ hlk, ⟨_, _, _, hi2⟩, hst⟩ (by rw [q2]; exact h6) q1 q3 (by rw [hsl]; exact k2_hasslot (q4 k hk)) rfl rfl hdg fun H' e1 e2 e3 => ?_
  rw [hsl] at e1 ⊢
  exact kk H' _ ⟨I.1.set he e2 e3 ⟨_, hc, t_OB.to (V := updV (vp_V fs) k v) ⟨_, e1, q2, q3, t_set q4 hap hk v⟩ (fun j _ => vp_updV_set hl v j)⟩, I.2.put e2 e3 (I.1.2.2 a _ he).1⟩
theorem mm_rputF (X : mm_C D dA lo cc own nL p s m args c) (I : mm_I D dA lo s M H locs) {idx ci k : Nat} {ty : FieldType} (fl : mm_FL own idx ci k ty true) (hin2 : meth.name = "<init>") (hdecl : (vwCl[ci]?).map (·.1) = some own) {a : Nat} (hdg : decode cc pc = .ok (.putfield idx, 3)) {v : Value} (hn : narrow ty v = v) (hfit : fits ty v = true) {M' : mm_M} (hv : mm_put ci k M a v = some M') (kk : ∀ (H1 : Heap) (locs1 : List Loc), mm_I D dA lo s M' H1 locs1 → W p l e R s m args below meth c H1 locs1 cells slots Q (F0 m (pc + 3) ls rest)) : W p l e R s m args below meth c H locs cells slots Q (F0 m pc ls (v :: .ref a :: rest)) := by
  obtain ⟨fs, he, hl, rfl⟩ := mm_put_some hv
  obtain ⟨hx, hb, hml, hown, hts, hK, hSt⟩ := X
  obtain ⟨C, T, N, ty0, hc, hk, hin, hty, hnm, hlk, hT, hfin, hd⟩ := fl
  have hap := va_apart (own := own) hts hin ty0 hty hnm hK hc
  have hCo : C = own := by rw [hc] at hdecl; exact Option.some.inj hdecl
  obtain ⟨r, h1, cell, q1, q2, q3, q4⟩ := (I.1.2.2 a _ he).2
  have hr : r = (C, T, N) := Option.some.inj (h1.symm.trans hc)
  subst hr
  obtain ⟨hS, hfc, kC, hkC, hkind⟩ := hK.1 ci _ hc
  obtain ⟨cf, kf, fi, f, hi, hsl⟩ := hS k hk
  have hlay := hts _ (hin _ (u_in_lay hk))
  unfold u_lay at hlay
  rw [if_pos hfin] at hlay
  have hst := (u_facts hfc hkC (u_lays hts hin hk) hi).1
  have hcf : m.cls = cf := by
    obtain ⟨_, _, c', _, _, _, -, -, hf', -, -, -, hown2, -⟩ := Cond.laysFinal_spec hlay
    have e1 : c' = cf := by have := hi.symm.trans hf'; simp at this; exact this.1.symm
    rw [hT, hCo] at hown2
    rw [← e1]; exact Option.some.inj (hown.symm.trans hown2)
  have h6 := u_fits hfc hkC hkind (Or.inr hlay) hi hd hn hfit
  have hi2 : s.fieldFound? C (T k).2.1 (T k).2.2.1 = some (cf, kf, fi, f) := by rw [hT] at hi; exact hi
  refine W.putFinK hx hb hown (hts _ hlk) hi2 hst hcf hin2 (by rw [q2]; exact h6) q1 q3 (by rw [hsl]; exact k2_hasslot (q4 k hk)) rfl rfl hdg fun H' e1 e2 e3 => ?_
  rw [hsl] at e1 ⊢
  exact kk H' _ ⟨I.1.set he e2 e3 ⟨_, hc, t_OB.to (V := updV (vp_V fs) k v) ⟨_, e1, q2, q3, t_set q4 hap hk v⟩ (fun j _ => vp_updV_set hl v j)⟩, I.2.put e2 e3 (I.1.2.2 a _ he).1⟩
theorem mm_rpi (X : mm_C D dA lo cc own nL p s m args c) (I : mm_I D dA lo s M H locs) {idx ci k : Nat} (fl : mm_FL own idx ci k .int false) {a : Nat} (hdg : decode cc pc = .ok (.putfield idx, 3)) {v : Int32} {β : Type} {F : mm_M → Option β} {o : β} (h : mm_b1 (mm_pi ci k M a v) F = some o) (kk : ∀ (M' : mm_M) (H1 : Heap) (locs1 : List Loc), mm_I D dA lo s M' H1 locs1 → F M' = some o → W p l e R s m args below meth c H1 locs1 cells slots Q (F0 m (pc + 3) ls rest)) : W p l e R s m args below meth c H locs cells slots Q (F0 m pc ls (.int v :: .ref a :: rest)) := by
  obtain ⟨M1, hv, h⟩ := mm_b1_some h
  exact mm_rput X I fl hdg rfl rfl hv (fun H1 l1 I1 => kk M1 H1 l1 I1 h)
theorem mm_rpl (X : mm_C D dA lo cc own nL p s m args c) (I : mm_I D dA lo s M H locs) {idx ci k : Nat} (fl : mm_FL own idx ci k .long false) {a : Nat} (hdg : decode cc pc = .ok (.putfield idx, 3)) {v : Int64} {β : Type} {F : mm_M → Option β} {o : β} (h : mm_b1 (mm_pl ci k M a v) F = some o) (kk : ∀ (M' : mm_M) (H1 : Heap) (locs1 : List Loc), mm_I D dA lo s M' H1 locs1 → F M' = some o → W p l e R s m args below meth c H1 locs1 cells slots Q (F0 m (pc + 3) ls rest)) : W p l e R s m args below meth c H locs cells slots Q (F0 m pc ls (.long v :: .ref a :: rest)) := by
  obtain ⟨M1, hv, h⟩ := mm_b1_some h
  exact mm_rput X I fl hdg rfl rfl hv (fun H1 l1 I1 => kk M1 H1 l1 I1 h)
theorem mm_rpz (X : mm_C D dA lo cc own nL p s m args c) (I : mm_I D dA lo s M H locs) {idx ci k : Nat} (fl : mm_FL own idx ci k .boolean false) {a : Nat} (hdg : decode cc pc = .ok (.putfield idx, 3)) {v : Int32} {β : Type} {F : mm_M → Option β} {o : β} (h : mm_b1 (mm_pz ci k M a v) F = some o) (kk : ∀ (M' : mm_M) (H1 : Heap) (locs1 : List Loc), mm_I D dA lo s M' H1 locs1 → F M' = some o → W p l e R s m args below meth c H1 locs1 cells slots Q (F0 m (pc + 3) ls rest)) : W p l e R s m args below meth c H locs cells slots Q (F0 m pc ls (.int v :: .ref a :: rest)) := by
  obtain ⟨M1, hv, h⟩ := mm_b1_some h
  unfold mm_pz at hv
  split at hv
  · rename_i hz
    refine mm_rput X I fl hdg ?_ ?_ hv (fun H1 l1 I1 => kk M1 H1 l1 I1 h)
    · rcases hz with rfl | rfl <;> rfl
    · rcases hz with rfl | rfl <;> rfl
  · cases hv
theorem mm_rpr (X : mm_C D dA lo cc own nL p s m args c) (I : mm_I D dA lo s M H locs) {idx ci k : Nat} {ty : FieldType} (fl : mm_FL own idx ci k ty false) {a : Nat} (hdg : decode cc pc = .ok (.putfield idx, 3)) {v : Nat} (hn : narrow ty (.ref v) = .ref v) (hfit : fits ty (.ref v) = true) {β : Type} {F : mm_M → Option β} {o : β} (h : mm_b1 (mm_pr ci k M a v) F = some o) (kk : ∀ (M' : mm_M) (H1 : Heap) (locs1 : List Loc), mm_I D dA lo s M' H1 locs1 → F M' = some o → W p l e R s m args below meth c H1 locs1 cells slots Q (F0 m (pc + 3) ls rest)) : W p l e R s m args below meth c H locs cells slots Q (F0 m pc ls (.ref v :: .ref a :: rest)) := by
  obtain ⟨M1, hv, h⟩ := mm_b1_some h
  exact mm_rput X I fl hdg hn hfit hv (fun H1 l1 I1 => kk M1 H1 l1 I1 h)
theorem mm_rprF (X : mm_C D dA lo cc own nL p s m args c) (I : mm_I D dA lo s M H locs) {idx ci k : Nat} {ty : FieldType} (fl : mm_FL own idx ci k ty true) (hin2 : meth.name = "<init>") (hdecl : (vwCl[ci]?).map (·.1) = some own) {a : Nat} (hdg : decode cc pc = .ok (.putfield idx, 3)) {v : Nat} (hn : narrow ty (.ref v) = .ref v) (hfit : fits ty (.ref v) = true) {β : Type} {F : mm_M → Option β} {o : β} (h : mm_b1 (mm_pr ci k M a v) F = some o) (kk : ∀ (M' : mm_M) (H1 : Heap) (locs1 : List Loc), mm_I D dA lo s M' H1 locs1 → F M' = some o → W p l e R s m args below meth c H1 locs1 cells slots Q (F0 m (pc + 3) ls rest)) : W p l e R s m args below meth c H locs cells slots Q (F0 m pc ls (.ref v :: .ref a :: rest)) := by
  obtain ⟨M1, hv, h⟩ := mm_b1_some h
  exact mm_rputF X I fl hin2 hdecl hdg hn hfit hv (fun H1 l1 I1 => kk M1 H1 l1 I1 h)
theorem mm_ria (X : mm_C D dA lo cc own nL p s m args c) (I : mm_I D dA lo s M H locs) {a : Nat} {i : Int32} (hdg : decode cc pc = .ok (.iaload, 1)) {β : Type} {F : Int32 → Option β} {o : β} (h : mm_b1 (mm_ia M a i) F = some o) (kk : ∀ v : Int32, F v = some o → W p l e R s m args below meth c H locs cells slots Q (F0 m (pc + 1) ls (.int v :: rest))) : W p l e R s m args below meth c H locs cells slots Q (F0 m pc ls (.int i :: .ref a :: rest)) := by
  obtain ⟨v, hv, h⟩ := mm_b1_some h
  obtain ⟨n, f, he, hin, rfl⟩ := mm_ia_some hv
  obtain ⟨hx, hb, hml, hown, hts, hK, hSt⟩ := X
  exact va_iald hx hb hK (I.1.at he) 0 0 rfl (mm_tys_at dA (by decide)) hin hdg (kk _ h)
theorem mm_rla (X : mm_C D dA lo cc own nL p s m args c) (I : mm_I D dA lo s M H locs) {a : Nat} {i : Int32} (hdg : decode cc pc = .ok (.laload, 1)) {β : Type} {F : Int64 → Option β} {o : β} (h : mm_b1 (mm_la M a i) F = some o) (kk : ∀ v : Int64, F v = some o → W p l e R s m args below meth c H locs cells slots Q (F0 m (pc + 1) ls (.long v :: rest))) : W p l e R s m args below meth c H locs cells slots Q (F0 m pc ls (.int i :: .ref a :: rest)) := by
  obtain ⟨v, hv, h⟩ := mm_b1_some h
  obtain ⟨n, f, he, hin, rfl⟩ := mm_la_some hv
  obtain ⟨hx, hb, hml, hown, hts, hK, hSt⟩ := X
  exact va_lald hx hb hK (I.1.at he) 0 1 rfl (mm_tys_at dA (by decide)) hin hdg (kk _ h)
theorem mm_rra (X : mm_C D dA lo cc own nL p s m args c) (I : mm_I D dA lo s M H locs) {a : Nat} {i : Int32} (hdg : decode cc pc = .ok (.aaload, 1)) {β : Type} {F : Nat → Option β} {o : β} (h : mm_b1 (mm_ra M a i) F = some o) (kk : ∀ v : Nat, F v = some o → W p l e R s m args below meth c H locs cells slots Q (F0 m (pc + 1) ls (.ref v :: rest))) : W p l e R s m args below meth c H locs cells slots Q (F0 m pc ls (.int i :: .ref a :: rest)) := by
  obtain ⟨v, hv, h⟩ := mm_b1_some h
  obtain ⟨t, n, f, he, hin, ht, hf⟩ := mm_ra_some hv
  obtain ⟨hx, hb, hml, hown, hts, hK, hSt⟩ := X
  obtain ⟨C, hC⟩ : ∃ C : String, mm_tyn (t + 2) = .object C := by
    match t, ht with
    | 0, _ => exact ⟨_, rfl⟩
    | 1, _ => exact ⟨_, rfl⟩
    | 2, _ => exact ⟨_, rfl⟩
    | 3, _ => exact ⟨_, rfl⟩
    | 4, _ => exact ⟨_, rfl⟩
  refine va_aldq (C := C) hx hb hK (I.1.at he) 0 (t + 2) rfl (by rw [← hC]; exact mm_tys_at dA (by omega)) hin hdg ?_
  show W p l e R s m args below meth c H locs cells slots Q (F0 m (pc + 1) ls (va_rf (f i.toNatClampNeg) :: rest))
  rw [hf]
  exact kk v h
theorem mm_rlen (X : mm_C D dA lo cc own nL p s m args c) (I : mm_I D dA lo s M H locs) {a : Nat} (hdg : decode cc pc = .ok (.arraylength, 1)) {β : Type} {F : Int32 → Option β} {o : β} (h : mm_b1 (mm_len M a) F = some o) (kk : ∀ v : Int32, F v = some o → W p l e R s m args below meth c H locs cells slots Q (F0 m (pc + 1) ls (.int v :: rest))) : W p l e R s m args below meth c H locs cells slots Q (F0 m pc ls (.ref a :: rest)) := by
  obtain ⟨v, hv, h⟩ := mm_b1_some h
  obtain ⟨hx, hb, hml, hown, hts, hK, hSt⟩ := X
  unfold mm_len at hv
  split at hv
  · rename_i x he; exact va_alen (v := v) hx hb hK (I.1.at he) 0 0 rfl (mm_tys_at dA (by decide)) (Option.some.inj hv) hdg (kk v h)
  · rename_i x he; exact va_alen (v := v) hx hb hK (I.1.at he) 0 1 rfl (mm_tys_at dA (by decide)) (Option.some.inj hv) hdg (kk v h)
  · rename_i x he
    split at hv
    · cases hv
    · rename_i h5; exact va_alen (v := v) hx hb hK (I.1.at he) 0 (x.1 + 2) rfl (mm_tys_at dA (by omega)) (Option.some.inj hv) hdg (kk v h)
  · cases hv
theorem mm_ris (X : mm_C D dA lo cc own nL p s m args c) (I : mm_I D dA lo s M H locs) {a : Nat} {i v : Int32} (hdg : decode cc pc = .ok (.iastore, 1)) {β : Type} {F : mm_M → Option β} {o : β} (h : mm_b1 (mm_is M a i v) F = some o) (kk : ∀ (M' : mm_M) (H1 : Heap) (locs1 : List Loc), mm_I D dA lo s M' H1 locs1 → F M' = some o → W p l e R s m args below meth c H1 locs1 cells slots Q (F0 m (pc + 1) ls rest)) : W p l e R s m args below meth c H locs cells slots Q (F0 m pc ls (.int v :: .int i :: .ref a :: rest)) := by
  obtain ⟨M1, hv, h⟩ := mm_b1_some h
  obtain ⟨n, f, he, hin, rfl⟩ := mm_is_some hv
  obtain ⟨hx, hb, hml, hown, hts, hK, hSt⟩ := X
  refine W.iast hx hb (I.1.2.2 a _ he).2 ((hK.2 0 _ (mm_tys_at dA (by decide))).1 n (fun j => .int (f j))) (fun q => by cases q) (by show ¬ (i < 0 ∨ (arrV _ _ _).slots.size ≤ _); rw [arrV_size]; exact hin) rfl rfl hdg fun H1 e z oq => ?_
  refine kk _ H1 _ ⟨I.1.set he z oq ?_, I.2.put z oq (I.1.2.2 a _ he).1⟩ h
  show H1[a]? = some (vp_cell _ _)
  rw [e]
  show some ((vp_cell (dA 0) (n, .inl f)).setSlot i.toNatClampNeg (.int v)) = some (vp_cell (dA 0) (n, .inl (upd f i.toNatClampNeg v)))
  rw [vp_cell_i, vp_cell_i, arrV_store]
  congr 2
  funext q
  by_cases hq : q = i.toNatClampNeg
  · subst hq; simp [updV, upd]
  · simp [updV, upd, hq]
theorem mm_rls (X : mm_C D dA lo cc own nL p s m args c) (I : mm_I D dA lo s M H locs) {a : Nat} {i : Int32} {v : Int64} (hdg : decode cc pc = .ok (.lastore, 1)) {β : Type} {F : mm_M → Option β} {o : β} (h : mm_b1 (mm_lst M a i v) F = some o) (kk : ∀ (M' : mm_M) (H1 : Heap) (locs1 : List Loc), mm_I D dA lo s M' H1 locs1 → F M' = some o → W p l e R s m args below meth c H1 locs1 cells slots Q (F0 m (pc + 1) ls rest)) : W p l e R s m args below meth c H locs cells slots Q (F0 m pc ls (.long v :: .int i :: .ref a :: rest)) := by
  obtain ⟨M1, hv, h⟩ := mm_b1_some h
  obtain ⟨n, f, he, hin, rfl⟩ := mm_lst_some hv
  obtain ⟨hx, hb, hml, hown, hts, hK, hSt⟩ := X
  refine W.last hx hb (I.1.2.2 a _ he).2 ((hK.2 1 _ (mm_tys_at dA (by decide))).1 n (fun j => .long (f j))) (fun q => by cases q) (by show ¬ (i < 0 ∨ (arrV _ _ _).slots.size ≤ _); rw [arrV_size]; exact hin) rfl rfl hdg fun H1 e z oq => ?_
  refine kk _ H1 _ ⟨I.1.set he z oq ?_, I.2.put z oq (I.1.2.2 a _ he).1⟩ h
  show H1[a]? = some (vp_cell _ _)
  rw [e]
  show some ((vp_cell (dA 1) (n, .inr (.inl f))).setSlot i.toNatClampNeg (.long v)) = some (vp_cell (dA 1) (n, .inr (.inl (vp_updL f i.toNatClampNeg v))))
  rw [vp_cell_l, vp_cell_l, arrV_store]
  congr 2
  funext q
  by_cases hq : q = i.toNatClampNeg
  · subst hq; simp [updV, vp_updL]
  · simp [updV, vp_updL, hq]
theorem mm_rrs (X : mm_C D dA lo cc own nL p s m args c) (I : mm_I D dA lo s M H locs) {a : Nat} {i : Int32} {v : Nat} (hdg : decode cc pc = .ok (.aastore, 1)) {β : Type} {F : mm_M → Option β} {o : β} (h : mm_b1 (mm_rs M a i v) F = some o) (kk : ∀ (M' : mm_M) (H1 : Heap) (locs1 : List Loc), mm_I D dA lo s M' H1 locs1 → F M' = some o → W p l e R s m args below meth c H1 locs1 cells slots Q (F0 m (pc + 1) ls rest)) : W p l e R s m args below meth c H locs cells slots Q (F0 m pc ls (.ref v :: .int i :: .ref a :: rest)) := by
  obtain ⟨M1, hv, h⟩ := mm_b1_some h
  obtain ⟨t, n, f, fs, he, hin, ht, hob, rfl⟩ := mm_rs_some hv
  obtain ⟨hx, hb, hml, hown, hts, hK, hSt⟩ := X
  obtain ⟨C, T, N, hC, hel⟩ : ∃ (C : String) (T : u_T) (N : Nat), mm_tyn (t + 2) = .object C ∧ vwCl[mm_elc t]? = some (C, T, N) := by
    match t, ht with
    | 0, _ => exact ⟨_, _, _, rfl, rfl⟩
    | 1, _ => exact ⟨_, _, _, rfl, rfl⟩
    | 2, _ => exact ⟨_, _, _, rfl, rfl⟩
    | 3, _ => exact ⟨_, _, _, rfl, rfl⟩
    | 4, _ => exact ⟨_, _, _, rfl, rfl⟩
  have hlt : i.toNatClampNeg < n := Nat.not_le.mp fun q => hin (Or.inr q)
  have h0 : ¬ i < 0 := fun q => hin (Or.inl q)
  obtain ⟨r', hr', cellV, g1, g2, g3, -⟩ := (I.1.2.2 v _ hob).2
  have hcls := (hK.1 (mm_elc t) _ hel).2
  have htt : (mm_tys dA)[t + 2]? = some (dA (t + 2), .object C) := by rw [← hC]; exact mm_tys_at dA (by omega)
  obtain ⟨kA, comp, k1, k2, k3, -⟩ := (hK.2 (t + 2) _ htt).2
  have hcomp : comp = D.1 (mm_elc t) := Option.some.inj (k3.symm.trans hcls.1)
  subst hcomp
  have hcls2 := hcls
  obtain ⟨kC, hkC, -⟩ := hcls2.2
  refine W.aast hx hb (I.1.2.2 a _ he).2 (fun q h => by cases h) (fun h => by cases h) k1 k2 rfl hkC ⟨h0, by show _ < (arrV _ _ _).slots.size; rw [arrV_size]; exact hlt⟩ g1 (fun q h => by rw [g3] at h; cases h) (by rw [g2]; exact hkC) (by rw [g2]; exact va_assign hcls) rfl rfl hdg fun H1 e z oq => ?_
  refine kk _ H1 _ ⟨I.1.set he z oq ?_, I.2.put z oq (I.1.2.2 a _ he).1⟩ h
  show H1[a]? = some (vp_cell _ _)
  rw [e]
  show some ((vp_cell (dA (t + 2)) (n, .inr (.inr (.inr (.inr f))))).setSlot i.toNatClampNeg (.ref v)) = some (vp_cell (dA (t + 2)) (n, .inr (.inr (.inr (.inr (va_up f i.toNatClampNeg (some v)))))))
  rw [vp_cell_q, vp_cell_q, arrV_store]
  congr 2
  funext q
  by_cases hq : q = i.toNatClampNeg
  · subst hq; simp [updV, va_up, va_rf]
  · simp [updV, va_up, hq]
theorem mm_jeq (X : mm_C D dA lo cc own nL p s m args c) {x : Int32} {off : Int} {tgt : Nat} (hdg : decode cc pc = .ok (.ifCond .eq off, 3)) (ht : (pc : Int) + off = (tgt : Int)) {β : Type} {A B : Option β} {o : β} (h : (if x = 0 then A else B) = some o) (kt : A = some o → W p l e R s m args below meth c H locs cells slots Q (F0 m tgt ls rest)) (kf : B = some o → W p l e R s m args below meth c H locs cells slots Q (F0 m (pc + 3) ls rest)) : W p l e R s m args below meth c H locs cells slots Q (F0 m pc ls (.int x :: rest)) :=
  lv_if_eq X.1 X.2.1 hdg ht (fun z => kt (by rw [if_pos z] at h; exact h)) (fun z => kf (by rw [if_neg z] at h; exact h))
theorem mm_jne (X : mm_C D dA lo cc own nL p s m args c) {x : Int32} {off : Int} {tgt : Nat} (hdg : decode cc pc = .ok (.ifCond .ne off, 3)) (ht : (pc : Int) + off = (tgt : Int)) {β : Type} {A B : Option β} {o : β} (h : (if x = 0 then B else A) = some o) (kt : A = some o → W p l e R s m args below meth c H locs cells slots Q (F0 m tgt ls rest)) (kf : B = some o → W p l e R s m args below meth c H locs cells slots Q (F0 m (pc + 3) ls rest)) : W p l e R s m args below meth c H locs cells slots Q (F0 m pc ls (.int x :: rest)) :=
  lv_if_ne X.1 X.2.1 hdg ht (fun z => kt (by rw [if_neg z] at h; exact h)) (fun z => kf (by rw [if_pos z] at h; exact h))
theorem mm_jlt (X : mm_C D dA lo cc own nL p s m args c) {x : Int32} {off : Int} {tgt : Nat} (hdg : decode cc pc = .ok (.ifCond .lt off, 3)) (ht : (pc : Int) + off = (tgt : Int)) {β : Type} {A B : Option β} {o : β} (h : (if x < 0 then A else B) = some o) (kt : A = some o → W p l e R s m args below meth c H locs cells slots Q (F0 m tgt ls rest)) (kf : B = some o → W p l e R s m args below meth c H locs cells slots Q (F0 m (pc + 3) ls rest)) : W p l e R s m args below meth c H locs cells slots Q (F0 m pc ls (.int x :: rest)) :=
  lv_if_lt X.1 X.2.1 hdg ht (fun z => kt (by rw [if_pos z] at h; exact h)) (fun z => kf (by rw [if_neg z] at h; exact h))
theorem mm_jge (X : mm_C D dA lo cc own nL p s m args c) {x : Int32} {off : Int} {tgt : Nat} (hdg : decode cc pc = .ok (.ifCond .ge off, 3)) (ht : (pc : Int) + off = (tgt : Int)) {β : Type} {A B : Option β} {o : β} (h : (if 0 ≤ x then A else B) = some o) (kt : A = some o → W p l e R s m args below meth c H locs cells slots Q (F0 m tgt ls rest)) (kf : B = some o → W p l e R s m args below meth c H locs cells slots Q (F0 m (pc + 3) ls rest)) : W p l e R s m args below meth c H locs cells slots Q (F0 m pc ls (.int x :: rest)) :=
  lv_if_ge X.1 X.2.1 hdg ht (fun z => kt (by rw [if_pos z] at h; exact h)) (fun z => kf (by rw [if_neg z] at h; exact h))
theorem mm_jgt (X : mm_C D dA lo cc own nL p s m args c) {x : Int32} {off : Int} {tgt : Nat} (hdg : decode cc pc = .ok (.ifCond .gt off, 3)) (ht : (pc : Int) + off = (tgt : Int)) {β : Type} {A B : Option β} {o : β} (h : (if 0 < x then A else B) = some o) (kt : A = some o → W p l e R s m args below meth c H locs cells slots Q (F0 m tgt ls rest)) (kf : B = some o → W p l e R s m args below meth c H locs cells slots Q (F0 m (pc + 3) ls rest)) : W p l e R s m args below meth c H locs cells slots Q (F0 m pc ls (.int x :: rest)) :=
  lv_if_gt X.1 X.2.1 hdg ht (fun z => kt (by rw [if_pos z] at h; exact h)) (fun z => kf (by rw [if_neg z] at h; exact h))
theorem mm_jle (X : mm_C D dA lo cc own nL p s m args c) {x : Int32} {off : Int} {tgt : Nat} (hdg : decode cc pc = .ok (.ifCond .le off, 3)) (ht : (pc : Int) + off = (tgt : Int)) {β : Type} {A B : Option β} {o : β} (h : (if x ≤ 0 then A else B) = some o) (kt : A = some o → W p l e R s m args below meth c H locs cells slots Q (F0 m tgt ls rest)) (kf : B = some o → W p l e R s m args below meth c H locs cells slots Q (F0 m (pc + 3) ls rest)) : W p l e R s m args below meth c H locs cells slots Q (F0 m pc ls (.int x :: rest)) :=
  lv_if_le X.1 X.2.1 hdg ht (fun z => kt (by rw [if_pos z] at h; exact h)) (fun z => kf (by rw [if_neg z] at h; exact h))
theorem mm_keq (X : mm_C D dA lo cc own nL p s m args c) {x y : Int32} {off : Int} {tgt : Nat} (hdg : decode cc pc = .ok (.if_icmp .eq off, 3)) (ht : (pc : Int) + off = (tgt : Int)) {β : Type} {A B : Option β} {o : β} (h : (if x = y then A else B) = some o) (kt : A = some o → W p l e R s m args below meth c H locs cells slots Q (F0 m tgt ls rest)) (kf : B = some o → W p l e R s m args below meth c H locs cells slots Q (F0 m (pc + 3) ls rest)) : W p l e R s m args below meth c H locs cells slots Q (F0 m pc ls (.int y :: .int x :: rest)) :=
  lv_icmp_eq X.1 X.2.1 hdg ht (fun z => kt (by rw [if_pos z] at h; exact h)) (fun z => kf (by rw [if_neg z] at h; exact h))
theorem mm_kne (X : mm_C D dA lo cc own nL p s m args c) {x y : Int32} {off : Int} {tgt : Nat} (hdg : decode cc pc = .ok (.if_icmp .ne off, 3)) (ht : (pc : Int) + off = (tgt : Int)) {β : Type} {A B : Option β} {o : β} (h : (if x = y then B else A) = some o) (kt : A = some o → W p l e R s m args below meth c H locs cells slots Q (F0 m tgt ls rest)) (kf : B = some o → W p l e R s m args below meth c H locs cells slots Q (F0 m (pc + 3) ls rest)) : W p l e R s m args below meth c H locs cells slots Q (F0 m pc ls (.int y :: .int x :: rest)) :=
  lv_icmp_ne X.1 X.2.1 hdg ht (fun z => kt (by rw [if_neg z] at h; exact h)) (fun z => kf (by rw [if_pos z] at h; exact h))
theorem mm_klt (X : mm_C D dA lo cc own nL p s m args c) {x y : Int32} {off : Int} {tgt : Nat} (hdg : decode cc pc = .ok (.if_icmp .lt off, 3)) (ht : (pc : Int) + off = (tgt : Int)) {β : Type} {A B : Option β} {o : β} (h : (if x < y then A else B) = some o) (kt : A = some o → W p l e R s m args below meth c H locs cells slots Q (F0 m tgt ls rest)) (kf : B = some o → W p l e R s m args below meth c H locs cells slots Q (F0 m (pc + 3) ls rest)) : W p l e R s m args below meth c H locs cells slots Q (F0 m pc ls (.int y :: .int x :: rest)) :=
  lv_icmp_lt X.1 X.2.1 hdg ht (fun z => kt (by rw [if_pos z] at h; exact h)) (fun z => kf (by rw [if_neg z] at h; exact h))
theorem mm_kge (X : mm_C D dA lo cc own nL p s m args c) {x y : Int32} {off : Int} {tgt : Nat} (hdg : decode cc pc = .ok (.if_icmp .ge off, 3)) (ht : (pc : Int) + off = (tgt : Int)) {β : Type} {A B : Option β} {o : β} (h : (if y ≤ x then A else B) = some o) (kt : A = some o → W p l e R s m args below meth c H locs cells slots Q (F0 m tgt ls rest)) (kf : B = some o → W p l e R s m args below meth c H locs cells slots Q (F0 m (pc + 3) ls rest)) : W p l e R s m args below meth c H locs cells slots Q (F0 m pc ls (.int y :: .int x :: rest)) :=
  lv_icmp_ge X.1 X.2.1 hdg ht (fun z => kt (by rw [if_pos z] at h; exact h)) (fun z => kf (by rw [if_neg z] at h; exact h))
theorem mm_kgt (X : mm_C D dA lo cc own nL p s m args c) {x y : Int32} {off : Int} {tgt : Nat} (hdg : decode cc pc = .ok (.if_icmp .gt off, 3)) (ht : (pc : Int) + off = (tgt : Int)) {β : Type} {A B : Option β} {o : β} (h : (if y < x then A else B) = some o) (kt : A = some o → W p l e R s m args below meth c H locs cells slots Q (F0 m tgt ls rest)) (kf : B = some o → W p l e R s m args below meth c H locs cells slots Q (F0 m (pc + 3) ls rest)) : W p l e R s m args below meth c H locs cells slots Q (F0 m pc ls (.int y :: .int x :: rest)) :=
  lv_icmp_gt X.1 X.2.1 hdg ht (fun z => kt (by rw [if_pos z] at h; exact h)) (fun z => kf (by rw [if_neg z] at h; exact h))
theorem mm_kle (X : mm_C D dA lo cc own nL p s m args c) {x y : Int32} {off : Int} {tgt : Nat} (hdg : decode cc pc = .ok (.if_icmp .le off, 3)) (ht : (pc : Int) + off = (tgt : Int)) {β : Type} {A B : Option β} {o : β} (h : (if x ≤ y then A else B) = some o) (kt : A = some o → W p l e R s m args below meth c H locs cells slots Q (F0 m tgt ls rest)) (kf : B = some o → W p l e R s m args below meth c H locs cells slots Q (F0 m (pc + 3) ls rest)) : W p l e R s m args below meth c H locs cells slots Q (F0 m pc ls (.int y :: .int x :: rest)) :=
  lv_icmp_le X.1 X.2.1 hdg ht (fun z => kt (by rw [if_pos z] at h; exact h)) (fun z => kf (by rw [if_neg z] at h; exact h))
theorem mm_rdiv (X : mm_C D dA lo cc own nL p s m args c) {x y : Int32} (hdg : decode cc pc = .ok (.idiv, 1)) {β : Type} {A : Option β} {o : β} (h : (if y = 0 then none else A) = some o) (kk : A = some o → W p l e R s m args below meth c H locs cells slots Q (F0 m (pc + 1) ls (.int (x / y) :: rest))) : W p l e R s m args below meth c H locs cells slots Q (F0 m pc ls (.int y :: .int x :: rest)) := by
  by_cases z : y = 0
  · rw [if_pos z] at h; cases h
  · rw [if_neg z] at h; exact lv_idiv X.1 X.2.1 hdg z (kk h)
theorem mm_rrem (X : mm_C D dA lo cc own nL p s m args c) {x y : Int32} (hdg : decode cc pc = .ok (.irem, 1)) {β : Type} {A : Option β} {o : β} (h : (if y = 0 then none else A) = some o) (kk : A = some o → W p l e R s m args below meth c H locs cells slots Q (F0 m (pc + 1) ls (.int (x - x / y * y) :: rest))) : W p l e R s m args below meth c H locs cells slots Q (F0 m pc ls (.int y :: .int x :: rest)) := by
  by_cases z : y = 0
  · rw [if_pos z] at h; cases h
  · rw [if_neg z] at h; exact lv_irem X.1 X.2.1 hdg z (kk h)
theorem mm_rlrem (X : mm_C D dA lo cc own nL p s m args c) {x y : Int64} (hdg : decode cc pc = .ok (.lrem, 1)) {β : Type} {A : Option β} {o : β} (h : (if y = 0 then none else A) = some o) (kk : A = some o → W p l e R s m args below meth c H locs cells slots Q (F0 m (pc + 1) ls (.long (x - x / y * y) :: rest))) : W p l e R s m args below meth c H locs cells slots Q (F0 m pc ls (.long y :: .long x :: rest)) := by
  by_cases z : y = 0
  · rw [if_pos z] at h; cases h
  · rw [if_neg z] at h; exact lv_lrem X.1 X.2.1 hdg z (kk h)
theorem mm_xi (X : mm_C D dA lo cc own nL p s m args c) (I : mm_I D dA lo s M H locs) (hr : meth.sig.returnType = some .int) (hlk : meth.locks = false) {v : Int32} (hdg : decode cc pc = .ok (.ireturn, 1)) {o : Int32 × mm_M} (h : some (v, M) = some o) : W p l e R s m args below meth c H locs cells slots (MQ below (mm_Q D dA lo (some (.int o.1)) o.2) args s cells slots (mm_fr lo)) (F0 m pc ls [.int v]) := by
  cases h
  exact W.iret X.1 X.2.1 hr (fun t ht hW => ⟨rfl, by rw [ht]; exact I.1, I.2.F ht⟩) I.2.2.2 hdg hlk
theorem mm_xz (X : mm_C D dA lo cc own nL p s m args c) (I : mm_I D dA lo s M H locs) (hr : meth.sig.returnType = some .boolean) (hlk : meth.locks = false) {v : Int32} (hdg : decode cc pc = .ok (.ireturn, 1)) {o : Int32 × mm_M} (h : mm_rz v M = some o) : W p l e R s m args below meth c H locs cells slots (MQ below (mm_Q D dA lo (some (.int o.1)) o.2) args s cells slots (mm_fr lo)) (F0 m pc ls [.int v]) := by
  unfold mm_rz at h
  split at h
  · rename_i hz
    cases h
    exact W.zret X.1 X.2.1 hr (by rcases hz with rfl | rfl <;> rfl) (fun t ht hW => ⟨rfl, by rw [ht]; exact I.1, I.2.F ht⟩) I.2.2.2 hdg hlk
  · cases h
theorem mm_xz0 (X : mm_C D dA lo cc own nL p s m args c) (I : mm_I D dA lo s M H locs) (hr : meth.sig.returnType = some .boolean) (hlk : meth.locks = false) (hdg : decode cc pc = .ok (.ireturn, 1)) {o : Int32 × mm_M} (h : some (0, M) = some o) : W p l e R s m args below meth c H locs cells slots (MQ below (mm_Q D dA lo (some (.int o.1)) o.2) args s cells slots (mm_fr lo)) (F0 m pc ls [.int 0]) := by
  cases h
  exact W.zret X.1 X.2.1 hr rfl (fun t ht hW => ⟨rfl, by rw [ht]; exact I.1, I.2.F ht⟩) I.2.2.2 hdg hlk
theorem mm_xz1 (X : mm_C D dA lo cc own nL p s m args c) (I : mm_I D dA lo s M H locs) (hr : meth.sig.returnType = some .boolean) (hlk : meth.locks = false) (hdg : decode cc pc = .ok (.ireturn, 1)) {o : Int32 × mm_M} (h : some (1, M) = some o) : W p l e R s m args below meth c H locs cells slots (MQ below (mm_Q D dA lo (some (.int o.1)) o.2) args s cells slots (mm_fr lo)) (F0 m pc ls [.int 1]) := by
  cases h
  exact W.zret X.1 X.2.1 hr rfl (fun t ht hW => ⟨rfl, by rw [ht]; exact I.1, I.2.F ht⟩) I.2.2.2 hdg hlk
theorem mm_xv (X : mm_C D dA lo cc own nL p s m args c) (I : mm_I D dA lo s M H locs) (hr : meth.sig.returnType = none) (hlk : meth.locks = false) (hdg : decode cc pc = .ok (.return_, 1)) {o : mm_M} (h : some M = some o) : W p l e R s m args below meth c H locs cells slots (MQ below (mm_Q D dA lo none o) args s cells slots (mm_fr lo)) (F0 m pc ls []) := by
  cases h
  exact W.vret X.1 X.2.1 hr (fun t ht hW => ⟨rfl, by rw [ht]; exact I.1, I.2.F ht⟩) I.2.2.2 hdg hlk
theorem mm_xr (X : mm_C D dA lo cc own nL p s m args c) (I : mm_I D dA lo s M H locs) {rt : FieldType} (hr : meth.sig.returnType = some rt) (hrt : (∃ n, rt = .object n) ∨ ∃ t, rt = .array t) (hlk : meth.locks = false) {v : Nat} (hdg : decode cc pc = .ok (.areturn, 1)) {o : Nat × mm_M} (h : some (v, M) = some o) : W p l e R s m args below meth c H locs cells slots (MQ below (mm_Q D dA lo (some (.ref o.1)) o.2) args s cells slots (mm_fr lo)) (F0 m pc ls [.ref v]) := by
  cases h
  exact W.aret X.1 X.2.1 hr hrt (Or.inr ⟨v, rfl⟩) (fun t ht hW => ⟨rfl, by rw [ht]; exact I.1, I.2.F ht⟩) I.2.2.2 hdg hlk
theorem mm_after {mc ms : Nat} {st0 : List Value} {r : Option Value} {M' : mm_M} {a : Array Value} (hr : va_Run p l e R s m args below meth c H locs cells slots mc ms (F0 m pc ls st0) rest (mm_Q D dA lo r M' a) (mm_fr lo)) (I : mm_I D dA lo s M H locs)
    (kk : ∀ (H1 : Heap) (locs1 : List Loc), mm_I D dA lo s M' H1 locs1 → W p l e R s m args below meth c H1 locs1 (cells + mc) (slots + ms) Q (F0 m (pc + 3) ls (r.toList ++ rest))) : W p l e R s m args below meth c H locs cells slots Q (F0 m pc ls st0) := by
  intro T hT X
  obtain ⟨v, st₀, t, T', L, h0, X', hL, e1, e2, ⟨hv, hH, hz, hk⟩, st⟩ := hr T hT X
  cases hv
  rw [h0] at hz hk
  obtain ⟨t2, a1, b1⟩ := kk T'.heap (locs ++ L) ⟨by rw [e1]; exact hH, Nat.le_trans I.2.1 (by rw [e1]; exact hz), fun q h1 h2 => by rw [e1, hk q (Nat.lt_of_lt_of_le h1 I.2.1) h2]; exact I.2.2.1 q h1 h2, fun q hq => by
      rcases List.mem_append.mp hq with h | h
      · exact I.2.2.2 q h
      · exact hL q h⟩ T' rfl X'
  exact ⟨t2, st t2 a1, b1⟩
/-- what the tables say of a method -/
def mm_MD (y : MethodName) (cc : ByteArray) (maxL : Nat) (ret : Option FieldType) (n : Nat) : Prop := Cond.code y cc maxL ret ∈ mm_ws ∧ Cond.initialized y.cls ∈ mm_ws ∧ y.cls ≠ "java/lang/invoke/MethodHandle" ∧ y.cls ≠ "java/lang/invoke/VarHandle" ∧ (parseMethodDescriptor y.desc).map (fun d => d.parameters.length) = some n
def mm_MV (y : MethodName) : Prop := Cond.instanceMethod y ∈ mm_ws ∧ Cond.selects y.cls y y ∈ mm_ws
theorem mm_blind {av : List Value} : FrameBlind (mm_P D dA lo av M) := fun a U g mk q => by
  obtain ⟨q0, q1, qK, ⟨t, qZ, qT⟩⟩ := q
  exact ⟨q0, q1, va_K.moved (u := U) (U := U.calling g mk a) (Vm.Alike.refl U.vm) qK, t, va_Z.moved (u := U) (U := U.calling g mk a) (Vm.Alike.refl U.vm) qZ, va_T.moved (u := U) (U := U.calling g mk a) (Vm.Alike.refl U.vm) qT⟩
theorem mm_pre (X : mm_C D dA lo cc own nL p s m args c) (I : mm_I D dA lo s M H locs) {av : List Value} : ∀ U : State, U.heap = H → s.WarmedH U.vm → mm_P D dA lo av M av.toArray U := fun U hU hW => by
  obtain ⟨hx, hb, hml, hown, hts, hK, t, hZ, hT⟩ := X
  refine ⟨rfl, by rw [hU]; exact I.1, va_K.moved hW.alike hK, t, ?_, ?_⟩
  · rw [hU]; exact va_Z.moved hW.alike (hZ.kept (fun a h1 h2 => I.2.2.1 a h1 h2))
  · rw [hU]; exact va_T.moved hW.alike (hT.kept (fun a h1 h2 => I.2.2.1 a h1 h2))
theorem mm_cb (X : mm_C D dA lo cc own nL p s m args c) {y : MethodName} {ccy : ByteArray} {maxLy : Nat} {rety : Option FieldType} {n idx fr lc mc ms : Nat} (md : mm_MD y ccy maxLy rety n) (ml : Cond.methodLink own idx y ∈ mm_ws) (hR : fr + 1 ≤ R.frames ∧ 8 + (maxLy + 11) + lc ≤ R.locals) : CallB R s args own idx y ccy maxLy rety (Cond.code y ccy maxLy rety :: mm_ws) (mm_rm fr lc mc ms) mc ms n := by
  obtain ⟨hx, hb, hml, hown, hts, hK, hSt⟩ := X
  obtain ⟨m1, m2, m3, m4, m5⟩ := md
  exact callB_of n hts (mm_good (fun w hw => by
    rcases List.mem_cons.mp hw with h | h
    · rw [h]; exact m1
    · exact h)) rfl rfl rfl (hts _ m2) (hts _ ml) ⟨m3, m4, m5⟩ hR
theorem mm_cV (X : mm_C D dA lo cc own nL p s m args c) (I : mm_I D dA lo s M H locs) (hl : ls.size = nL) {y : MethodName} {ccy : ByteArray} {maxLy : Nat} {rety : Option FieldType} {n idx fr lc mc ms ci b : Nat} {As st : List Value} {r : Option Value} {M' : mm_M} (md : mm_MD y ccy maxLy rety n) (mv : mm_MV y) (ml : Cond.methodLink own idx y ∈ mm_ws) (hcl : (vwCl[ci]?).map (·.1) = some y.cls)
    (hM : mm_Met l D dA lo y ccy maxLy rety fr lc mc ms (.ref b :: As) M r M') (hob : ∃ fs, M.2 b = some (mm_ob ci fs)) (hR : fr + 1 ≤ R.frames ∧ 8 + (maxLy + 11) + lc ≤ R.locals) (hcs : cells + mc ≤ R.cells ∧ slots + ms ≤ R.slots) (hn : As.length = n) (hst : st = As.reverse ++ .ref b :: rest) (hroom : (rest.map fun v => v.category).sum ≤ 8) (hdg : decode cc pc = .ok (.invokevirtual idx, 3))
    (kk : ∀ (H1 : Heap) (locs1 : List Loc), mm_I D dA lo s M' H1 locs1 → W p l e R s m args below meth c H1 locs1 (cells + mc) (slots + ms) Q (F0 m (pc + 3) ls (r.toList ++ rest))) : W p l e R s m args below meth c H locs cells slots Q (F0 m pc ls st) := by
  obtain ⟨fs, hob⟩ := hob
  obtain ⟨q, hq⟩ : ∃ q, vwCl[ci]? = some q := by
    cases hh : vwCl[ci]? with
    | none => rw [hh] at hcl; cases hcl
    | some q => exact ⟨q, rfl⟩
  have hqc : q.1 = y.cls := by rw [hq] at hcl; exact Option.some.inj hcl
  have hrecv := va_recv X.2.2.2.2.2.1 (I.1.at hob) (ci := ci) (q := q) (q0 := 0) hq rfl
  rw [hqc] at hrecv
  subst hst
  exact mm_after (va_runV (C := y.cls) (As := As) (rest := rest) ⟨X.1, X.2.1, X.2.2.1, X.2.2.2.1, X.2.2.2.2.1⟩ hM ⟨mm_cb X md ml hR, X.2.2.2.2.1 _ mv.1, X.2.2.2.2.1 _ mv.2⟩ ⟨mm_blind, hrecv, mm_pre X I⟩ rfl hn hl rfl (lv_room hroom) hdg hcs) I kk
theorem mm_cS (X : mm_C D dA lo cc own nL p s m args c) (I : mm_I D dA lo s M H locs) (hl : ls.size = nL) {y : MethodName} {ccy : ByteArray} {maxLy : Nat} {rety : Option FieldType} {n idx fr lc mc ms : Nat} {As st : List Value} {r : Option Value} {M' : mm_M} (md : mm_MD y ccy maxLy rety n) (mv : Cond.static y ∈ mm_ws) (ml : Cond.methodLink own idx y ∈ mm_ws)
    (hM : mm_Met l D dA lo y ccy maxLy rety fr lc mc ms As M r M') (hR : fr + 1 ≤ R.frames ∧ 8 + (maxLy + 11) + lc ≤ R.locals) (hcs : cells + mc ≤ R.cells ∧ slots + ms ≤ R.slots) (hn : As.length = n) (hst : st = As.reverse ++ rest) (hroom : (rest.map fun v => v.category).sum ≤ 8) (hdg : decode cc pc = .ok (.invokestatic idx, 3))
    (kk : ∀ (H1 : Heap) (locs1 : List Loc), mm_I D dA lo s M' H1 locs1 → W p l e R s m args below meth c H1 locs1 (cells + mc) (slots + ms) Q (F0 m (pc + 3) ls (r.toList ++ rest))) : W p l e R s m args below meth c H locs cells slots Q (F0 m pc ls st) := by
  subst hst
  exact mm_after (va_runS (As := As) (rest := rest) ⟨X.1, X.2.1, X.2.2.1, X.2.2.2.1, X.2.2.2.2.1⟩ hM ⟨mm_cb X md ml hR, X.2.2.2.2.1 _ mv⟩ ⟨mm_blind, mm_pre X I⟩ rfl hn hl rfl (lv_room hroom) hdg hcs) I kk
theorem mm_cVi (X : mm_C D dA lo cc own nL p s m args c) (I : mm_I D dA lo s M H locs) {lv : List (Nat × Value)} (hl : lv_has ls nL lv) {y : MethodName} {ccy : ByteArray} {maxLy : Nat} {rety : Option FieldType} {n idx fr lc ci b : Nat} {As st : List Value} (md : mm_MD y ccy maxLy rety n) (mv : mm_MV y) (ml : Cond.methodLink own idx y ∈ mm_ws) (hcl : (vwCl[ci]?).map (·.1) = some y.cls) {f : Option (Int32 × mm_M)}
    (hM : ∀ (o : Int32 × mm_M), f = some o → (∃ fs, M.2 b = some (mm_ob ci fs)) ∧ mm_Met l D dA lo y ccy maxLy rety fr lc 0 0 (.ref b :: As) M (some (.int o.1)) o.2) (hR : fr + 1 ≤ R.frames ∧ 8 + (maxLy + 11) + lc ≤ R.locals) (hcs : cells ≤ R.cells ∧ slots ≤ R.slots) (hn : As.length = n) (hst : st = As.reverse ++ .ref b :: rest) (hroom : (rest.map fun v => v.category).sum ≤ 8) (hdg : decode cc pc = .ok (.invokevirtual idx, 3))
    {β : Type} {F : Int32 → mm_M → Option β} {o : β} (h : mm_b2 f F = some o) (kk : ∀ (r : Int32) (M' : mm_M) (H1 : Heap) (locs1 : List Loc), mm_I D dA lo s M' H1 locs1 → F r M' = some o → W p l e R s m args below meth c H1 locs1 cells slots Q (F0 m (pc + 3) ls (.int r :: rest))) : W p l e R s m args below meth c H locs cells slots Q (F0 m pc ls st) := by
  obtain ⟨r, M1, hf, h⟩ := mm_b2_some h
  obtain ⟨hob, hm⟩ := hM (r, M1) hf
  exact mm_cV X I hl.1 md mv ml hcl hm hob hR hcs hn hst hroom hdg (fun H1 l1 I1 => kk r M1 H1 l1 I1 h)
theorem mm_cSi (X : mm_C D dA lo cc own nL p s m args c) (I : mm_I D dA lo s M H locs) {lv : List (Nat × Value)} (hl : lv_has ls nL lv) {y : MethodName} {ccy : ByteArray} {maxLy : Nat} {rety : Option FieldType} {n idx fr lc : Nat} {As st : List Value} (md : mm_MD y ccy maxLy rety n) (mv : Cond.static y ∈ mm_ws) (ml : Cond.methodLink own idx y ∈ mm_ws) {f : Option (Int32 × mm_M)}
    (hM : ∀ (o : Int32 × mm_M), f = some o → mm_Met l D dA lo y ccy maxLy rety fr lc 0 0 As M (some (.int o.1)) o.2) (hR : fr + 1 ≤ R.frames ∧ 8 + (maxLy + 11) + lc ≤ R.locals) (hcs : cells ≤ R.cells ∧ slots ≤ R.slots) (hn : As.length = n) (hst : st = As.reverse ++ rest) (hroom : (rest.map fun v => v.category).sum ≤ 8) (hdg : decode cc pc = .ok (.invokestatic idx, 3))
    {β : Type} {F : Int32 → mm_M → Option β} {o : β} (h : mm_b2 f F = some o) (kk : ∀ (r : Int32) (M' : mm_M) (H1 : Heap) (locs1 : List Loc), mm_I D dA lo s M' H1 locs1 → F r M' = some o → W p l e R s m args below meth c H1 locs1 cells slots Q (F0 m (pc + 3) ls (.int r :: rest))) : W p l e R s m args below meth c H locs cells slots Q (F0 m pc ls st) := by
  obtain ⟨r, M1, hf, h⟩ := mm_b2_some h
  exact mm_cS X I hl.1 md mv ml (hM (r, M1) hf) hR hcs hn hst hroom hdg (fun H1 l1 I1 => kk r M1 H1 l1 I1 h)
theorem mm_cVr (X : mm_C D dA lo cc own nL p s m args c) (I : mm_I D dA lo s M H locs) {lv : List (Nat × Value)} (hl : lv_has ls nL lv) {y : MethodName} {ccy : ByteArray} {maxLy : Nat} {rety : Option FieldType} {n idx fr lc ci b : Nat} {As st : List Value} (md : mm_MD y ccy maxLy rety n) (mv : mm_MV y) (ml : Cond.methodLink own idx y ∈ mm_ws) (hcl : (vwCl[ci]?).map (·.1) = some y.cls) {f : Option (Nat × mm_M)}
    (hM : ∀ (o : Nat × mm_M), f = some o → (∃ fs, M.2 b = some (mm_ob ci fs)) ∧ mm_Met l D dA lo y ccy maxLy rety fr lc 0 0 (.ref b :: As) M (some (.ref o.1)) o.2) (hR : fr + 1 ≤ R.frames ∧ 8 + (maxLy + 11) + lc ≤ R.locals) (hcs : cells ≤ R.cells ∧ slots ≤ R.slots) (hn : As.length = n) (hst : st = As.reverse ++ .ref b :: rest) (hroom : (rest.map fun v => v.category).sum ≤ 8) (hdg : decode cc pc = .ok (.invokevirtual idx, 3))
    {β : Type} {F : Nat → mm_M → Option β} {o : β} (h : mm_b2 f F = some o) (kk : ∀ (r : Nat) (M' : mm_M) (H1 : Heap) (locs1 : List Loc), mm_I D dA lo s M' H1 locs1 → F r M' = some o → W p l e R s m args below meth c H1 locs1 cells slots Q (F0 m (pc + 3) ls (.ref r :: rest))) : W p l e R s m args below meth c H locs cells slots Q (F0 m pc ls st) := by
  obtain ⟨r, M1, hf, h⟩ := mm_b2_some h
  obtain ⟨hob, hm⟩ := hM (r, M1) hf
  exact mm_cV X I hl.1 md mv ml hcl hm hob hR hcs hn hst hroom hdg (fun H1 l1 I1 => kk r M1 H1 l1 I1 h)
theorem mm_cSr (X : mm_C D dA lo cc own nL p s m args c) (I : mm_I D dA lo s M H locs) {lv : List (Nat × Value)} (hl : lv_has ls nL lv) {y : MethodName} {ccy : ByteArray} {maxLy : Nat} {rety : Option FieldType} {n idx fr lc : Nat} {As st : List Value} (md : mm_MD y ccy maxLy rety n) (mv : Cond.static y ∈ mm_ws) (ml : Cond.methodLink own idx y ∈ mm_ws) {f : Option (Nat × mm_M)}
    (hM : ∀ (o : Nat × mm_M), f = some o → mm_Met l D dA lo y ccy maxLy rety fr lc 0 0 As M (some (.ref o.1)) o.2) (hR : fr + 1 ≤ R.frames ∧ 8 + (maxLy + 11) + lc ≤ R.locals) (hcs : cells ≤ R.cells ∧ slots ≤ R.slots) (hn : As.length = n) (hst : st = As.reverse ++ rest) (hroom : (rest.map fun v => v.category).sum ≤ 8) (hdg : decode cc pc = .ok (.invokestatic idx, 3))
    {β : Type} {F : Nat → mm_M → Option β} {o : β} (h : mm_b2 f F = some o) (kk : ∀ (r : Nat) (M' : mm_M) (H1 : Heap) (locs1 : List Loc), mm_I D dA lo s M' H1 locs1 → F r M' = some o → W p l e R s m args below meth c H1 locs1 cells slots Q (F0 m (pc + 3) ls (.ref r :: rest))) : W p l e R s m args below meth c H locs cells slots Q (F0 m pc ls st) := by
  obtain ⟨r, M1, hf, h⟩ := mm_b2_some h
  exact mm_cS X I hl.1 md mv ml (hM (r, M1) hf) hR hcs hn hst hroom hdg (fun H1 l1 I1 => kk r M1 H1 l1 I1 h)
theorem mm_cVv (X : mm_C D dA lo cc own nL p s m args c) (I : mm_I D dA lo s M H locs) {lv : List (Nat × Value)} (hl : lv_has ls nL lv) {y : MethodName} {ccy : ByteArray} {maxLy : Nat} {rety : Option FieldType} {n idx fr lc ci b : Nat} {As st : List Value} (md : mm_MD y ccy maxLy rety n) (mv : mm_MV y) (ml : Cond.methodLink own idx y ∈ mm_ws) (hcl : (vwCl[ci]?).map (·.1) = some y.cls) {f : Option (mm_M)}
    (hM : ∀ (o : mm_M), f = some o → (∃ fs, M.2 b = some (mm_ob ci fs)) ∧ mm_Met l D dA lo y ccy maxLy rety fr lc 0 0 (.ref b :: As) M none o) (hR : fr + 1 ≤ R.frames ∧ 8 + (maxLy + 11) + lc ≤ R.locals) (hcs : cells ≤ R.cells ∧ slots ≤ R.slots) (hn : As.length = n) (hst : st = As.reverse ++ .ref b :: rest) (hroom : (rest.map fun v => v.category).sum ≤ 8) (hdg : decode cc pc = .ok (.invokevirtual idx, 3))
    {β : Type} {F : mm_M → Option β} {o : β} (h : mm_b1 f F = some o) (kk : ∀ (M' : mm_M) (H1 : Heap) (locs1 : List Loc), mm_I D dA lo s M' H1 locs1 → F M' = some o → W p l e R s m args below meth c H1 locs1 cells slots Q (F0 m (pc + 3) ls (rest))) : W p l e R s m args below meth c H locs cells slots Q (F0 m pc ls st) := by
  obtain ⟨M1, hf, h⟩ := mm_b1_some h
  obtain ⟨hob, hm⟩ := hM M1 hf
  exact mm_cV X I hl.1 md mv ml hcl hm hob hR hcs hn hst hroom hdg (fun H1 l1 I1 => kk M1 H1 l1 I1 h)
theorem mm_cSv (X : mm_C D dA lo cc own nL p s m args c) (I : mm_I D dA lo s M H locs) {lv : List (Nat × Value)} (hl : lv_has ls nL lv) {y : MethodName} {ccy : ByteArray} {maxLy : Nat} {rety : Option FieldType} {n idx fr lc : Nat} {As st : List Value} (md : mm_MD y ccy maxLy rety n) (mv : Cond.static y ∈ mm_ws) (ml : Cond.methodLink own idx y ∈ mm_ws) {f : Option (mm_M)}
    (hM : ∀ (o : mm_M), f = some o → mm_Met l D dA lo y ccy maxLy rety fr lc 0 0 As M none o) (hR : fr + 1 ≤ R.frames ∧ 8 + (maxLy + 11) + lc ≤ R.locals) (hcs : cells ≤ R.cells ∧ slots ≤ R.slots) (hn : As.length = n) (hst : st = As.reverse ++ rest) (hroom : (rest.map fun v => v.category).sum ≤ 8) (hdg : decode cc pc = .ok (.invokestatic idx, 3))
    {β : Type} {F : mm_M → Option β} {o : β} (h : mm_b1 f F = some o) (kk : ∀ (M' : mm_M) (H1 : Heap) (locs1 : List Loc), mm_I D dA lo s M' H1 locs1 → F M' = some o → W p l e R s m args below meth c H1 locs1 cells slots Q (F0 m (pc + 3) ls (rest))) : W p l e R s m args below meth c H locs cells slots Q (F0 m pc ls st) := by
  obtain ⟨M1, hf, h⟩ := mm_b1_some h
  exact mm_cS X I hl.1 md mv ml (hM M1 hf) hR hcs hn hst hroom hdg (fun H1 l1 I1 => kk M1 H1 l1 I1 h)
theorem mm_rgs (X : mm_C D dA lo cc own nL p s m args c) (I : mm_I D dA lo s M H locs) {idx : Nat} (hlk : Cond.fieldLink own idx RX9 "DRAWN_SIGNS" "[I" ∈ mm_ws) (hdg : decode cc pc = .ok (.getstatic idx, 3)) (kk : ∀ t : Nat, va_T .int t 3 (fun k => .int (mm_drv k)) (mm_fr lo) s s.heap → W p l e R s m args below meth c H locs cells slots Q (F0 m (pc + 3) ls (.ref t :: rest))) : W p l e R s m args below meth c H locs cells slots Q (F0 m pc ls rest) := by
  obtain ⟨hx, hb, hml, hown, hts, hK, t, hZ, hT⟩ := X
  exact va_gets hx hb hZ I.2 hown (hts _ hlk) (fun _ h9 => h9) hdg (kk t hT)
theorem mm_T_lt {t N : Nat} {f : Nat → Value} {ty : FieldType} {A : Nat → Prop} {U : State} {H : Heap} (h : va_T ty t N f A U H) : t < H.size := by
  obtain ⟨cell, h1, -⟩ := h
  exact (Array.getElem?_eq_some_iff.mp h1).1
theorem mm_rta (X : mm_C D dA lo cc own nL p s m args c) (I : mm_I D dA lo s M H locs) {t : Nat} (hT : va_T .int t 3 (fun k => .int (mm_drv k)) (mm_fr lo) s s.heap) {i : Int32} (hdg : decode cc pc = .ok (.iaload, 1)) {β : Type} {F : Int32 → Option β} {o : β} (h : mm_b1 (mm_dr i) F = some o) (kk : ∀ v : Int32, F v = some o → W p l e R s m args below meth c H locs cells slots Q (F0 m (pc + 1) ls (.int v :: rest))) : W p l e R s m args below meth c H locs cells slots Q (F0 m pc ls (.int i :: .ref t :: rest)) := by
  obtain ⟨v, hv, h⟩ := mm_b1_some h
  unfold mm_dr at hv
  split at hv
  · cases hv
  · rename_i hc
    cases hv
    have hlt := mm_T_lt hT
    obtain ⟨cell, h1, h2, h3, h4, h5, h6, h7⟩ := hT
    have hj : i.toNatClampNeg < 3 := Nat.not_le.mp (fun q => hc (Or.inr q))
    exact W.iald (v := .int (mm_drv i.toNatClampNeg)) X.1 X.2.1 (by rw [I.2.2.1 t hlt h7]; exact h1) h2 h3 (fun q => by rcases q with q | q; exact hc (Or.inl q); omega) (h6 _ hj) rfl rfl hdg (kk _ h)
theorem mm_rtl (X : mm_C D dA lo cc own nL p s m args c) (I : mm_I D dA lo s M H locs) {t : Nat} (hT : va_T .int t 3 (fun k => .int (mm_drv k)) (mm_fr lo) s s.heap) (hdg : decode cc pc = .ok (.arraylength, 1)) (kk : W p l e R s m args below meth c H locs cells slots Q (F0 m (pc + 1) ls (.int 3 :: rest))) : W p l e R s m args below meth c H locs cells slots Q (F0 m pc ls (.ref t :: rest)) := by
  have hlt := mm_T_lt hT
  obtain ⟨cell, h1, h2, h3, h4, h5, h6, h7⟩ := hT
  exact W.alen (n := 3) X.1 X.2.1 (by rw [I.2.2.1 t hlt h7]; exact h1) h2 h5 rfl rfl hdg kk
end MMR
