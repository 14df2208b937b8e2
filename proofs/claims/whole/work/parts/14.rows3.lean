def mm_nest : List (String × Nat × MethodName) := [(RX9, 9, yX8_init), (RX6, 25, yX1_init), (RX6, 34, yX2_init), (RX2, 9, yX5_init), (RX6, 35, yX0_init), (RX0, 11, yX5_init), (RX0, 20, yX2_init), (RX9, 32, yX5_init), (RX9, 45, yX7_init), (RX7, 9, yX5_init), (RX4, 17, yX7_init)]
def mm_ovs : List String := [RX2, RX0, RX6, RX7, RX4]
def mm_N (U : State) : Prop := (∀ q ∈ mm_nest, va_Nw (.methodLinkNest q.1 q.2.1 q.2.2 RX9) U) ∧ ∀ C ∈ mm_ovs, va_AO C U
theorem mm_N.warm {s U : State} (hW : s.WarmedH U.vm) (h : mm_N s) : mm_N U := ⟨fun q hq => va_Nw.warmM hW (h.1 q hq), fun C hC => va_AO.moved hW.alike (h.2 C hC)⟩
theorem mm_N.same {u U : State} (hv : u.vm = U.vm) (h : mm_N u) : mm_N U := ⟨fun q hq => va_Nw.same rfl hv (h.1 q hq), fun C hC => va_AO.moved (by rw [hv]; exact Vm.Alike.refl _) (h.2 C hC)⟩
def mm_PN (D : va_G) (dA : Nat → ClassId) (lo : Nat) (av : List Value) (M : mm_M) : Array Value → State → Prop := fun v U => mm_P D dA lo av M v U ∧ mm_N U
def mm_MetN (l : Launch) (D : va_G) (dA : Nat → ClassId) (lo : Nat) (y : MethodName) (cc : ByteArray) (maxL : Nat) (ret : Option FieldType) (fr lc mc ms : Nat) (av : List Value) (M : mm_M) (r : Option Value) (M' : mm_M) : Prop :=
  Met l y (Cond.code y cc maxL ret :: mm_ws) (mm_rm fr lc mc ms) (mm_PN D dA lo av M) (mm_Q D dA lo r M') mc ms (mm_fr lo)
theorem mm_enterN {l : Launch} {D : va_G} {dA : Nat → ClassId} {lo : Nat} {y : MethodName} {cc : ByteArray} {maxL : Nat} {ret : Option FieldType} {fr lc mc ms : Nat} {av : List Value} {M : mm_M} {r : Option Value} {M' : mm_M} (hy : plainName y.cls = true) (hav : (lg_sl av).length ≤ maxL)
    (body : ∀ (p : Program) (e : Env) (s : State) (m : MethodId) (args : Array Value) (below : List Frame) (meth : Method) (c : Code) (ls : Array Slot), mm_C D dA lo cc y.cls maxL p s m args c → mm_N s → meth.sig.returnType = ret → meth.locks = false → meth.name = y.name → mm_I D dA lo s M s.heap [] → lv_has ls maxL (lv_args 0 av) →
      W p l e (mm_rm fr lc mc ms) s m args below meth c s.heap [] 0 0 (MQ below (mm_Q D dA lo r M') args s mc ms (mm_fr lo)) (F0 m 0 ls [])) : mm_MetN l D dA lo y cc maxL ret fr lc mc ms av M r M' := by
  refine Met.ofW (cc := cc) (maxL := maxL) (ret := ret) hy rfl ?_
  intro p e s m args below meth c s₁ B hml hv
  obtain ⟨⟨rfl, hH, hK, hSt⟩, hN⟩ := hv
  have hts := atoms_spec (ws := Cond.code y cc maxL ret :: mm_ws) B.pre
  have hl := lv_entry av hav
  rw [lg_entry_eq]
  exact body p e s m _ below meth c _ ⟨B.exec, B.bytes, hml, findClass_of_methodNamed B.named, fun w hw => hts w (List.mem_cons_of_mem _ hw), hK, hSt⟩ hN B.returns B.notSynchronized (name_of_methodNamed B.named B.method).1 ⟨hH, va_S.rf⟩ hl
def mm_nw {β : Type} (M : mm_M) (e : mm_E) (F : Nat → mm_M → Option β) : Option β := F M.1 (mm_new M e)
def mm_NW (own : String) (idx ci N : Nat) (fs : List Value) : Prop := ∃ (C : String) (T : u_T) (ty : Nat → FieldType), vwCl[ci]? = some (C, T, N) ∧ Cond.classLink own idx C ∈ mm_ws ∧ Cond.instantiable C N ∈ mm_ws ∧ Cond.initialized C ∈ mm_ws ∧ (∀ w ∈ u_ws C T N, w ∈ mm_ws) ∧ (∀ k, k < N → parseFieldDescriptor (T k).2.2.1 = some (ty k)) ∧ ∀ j, j < N → defaultValue (ty j) = vp_V fs j
section MMN
variable {p : Program} {l : Launch} {e : Env} {R : Room} {s : State} {m : MethodId} {args : Array Value} {below : List Frame} {meth : Method} {c : Code} {H : Heap} {locs : List Loc} {cells slots : Nat} {Q : State → Prop}
variable {cc : ByteArray} {own : String} {nL : Nat} {D : va_G} {dA : Nat → ClassId} {lo : Nat} {M : mm_M} {pc : Nat} {ls : Array Slot} {rest : List Value}
theorem mm_S1 (hS : va_S (mm_fr lo) s.heap H locs) {H1 : Heap} (z : H1.size = H.size + 1) (o1 : ∀ q : Nat, q < H.size → H1[q]? = H[q]?) : va_S (mm_fr lo) s.heap H1 locs :=
  ⟨Nat.le_trans hS.1 (by omega), fun x h1 h2 => (o1 x (Nat.lt_of_lt_of_le h1 hS.1)).trans (hS.2.1 x h1 h2), hS.2.2⟩
theorem mm_rnew (X : mm_C D dA lo cc own nL p s m args c) (I : mm_I D dA lo s M H locs) {idx ci n : Nat} {fs : List Value} (nw : mm_NW own idx ci n fs) (hcells : cells + 1 ≤ R.cells) (hslots : slots + n ≤ R.slots) (hdg : decode cc pc = .ok (.new idx, 3)) {β : Type} {F : Nat → mm_M → Option β} {o : β} (h : mm_nw M (mm_ob ci fs) F = some o)
    (kk : ∀ (v : Nat) (M' : mm_M) (H1 : Heap), mm_I D dA lo s M' H1 locs → F v M' = some o → W p l e R s m args below meth c H1 locs (cells + 1) (slots + n) Q (F0 m (pc + 3) ls (.ref v :: rest))) : W p l e R s m args below meth c H locs cells slots Q (F0 m pc ls rest) := by
  obtain ⟨C, T, ty, hc, hcl, hinst, hini, hin, hty, hfs⟩ := nw
  obtain ⟨hx, hb, hml, hown, hts, hK, hSt⟩ := X
  have hKn := hK.1 ci _ hc
  refine W.newcK hx hb hown (hts _ hcl) (hts _ hinst) (hts _ hini) rfl hdg hcells hslots hKn.2.1 I.1.1 fun H1 kC hkC e1 z1 o1 => ?_
  have z2 : H1.size = H.size + 1 := by rw [I.1.1]; exact z1
  have o2 : ∀ q : Nat, q < H.size → H1[q]? = H[q]? := fun q hq => o1 q (by rw [← I.1.1]; exact hq)
  exact kk M.1 _ H1 ⟨I.1.new (e := mm_ob ci fs) z2 o2 ⟨_, hc, (u_born ty hts hin hKn hkC e1 hty).to hfs⟩, mm_S1 I.2 z2 o2⟩ h
theorem mm_rnai (X : mm_C D dA lo cc own nL p s m args c) (I : mm_I D dA lo s M H locs) (harr : Cond.arrayClass .int ∈ mm_ws) {n : Int32} {N : Nat} (hn : ¬ n < 0) (hN : n.toNatClampNeg = N) (hby : N * 4 ≤ 536870912) (hcells : cells + 1 ≤ R.cells) (hslots : slots + N ≤ R.slots) (hdg : decode cc pc = .ok (.newarray .int, 2)) {β : Type} {F : Nat → mm_M → Option β} {o : β} (h : mm_nw M (mm_ai N (fun _ => 0)) F = some o)
    (kk : ∀ (v : Nat) (M' : mm_M) (H1 : Heap), mm_I D dA lo s M' H1 locs → F v M' = some o → W p l e R s m args below meth c H1 locs (cells + 1) (slots + N) Q (F0 m (pc + 2) ls (.ref v :: rest))) : W p l e R s m args below meth c H locs cells slots Q (F0 m pc ls (.int n :: rest)) := by
  obtain ⟨hx, hb, hml, hown, hts, hK, hSt⟩ := X
  refine va_newaK (atype := .int) hx hb (hts _ harr) rfl hdg rfl hn hN hby hcells hslots I.1.1 fun H1 cA e1 z1 o1 hAr hNm => ?_
  have z2 : H1.size = H.size + 1 := by rw [I.1.1]; exact z1
  have o2 : ∀ q : Nat, q < H.size → H1[q]? = H[q]? := fun q hq => o1 q (by rw [← I.1.1]; exact hq)
  have hd : s.vm.findClass ("[" ++ (FieldType.int).toString) = some (dA 0) := (hK.2 0 _ (mm_tys_at dA (by decide))).2
  have hcA : cA = dA 0 := Option.some.inj (hNm.symm.trans hd)
  subst hcA
  refine kk M.1 _ H1 ⟨I.1.new (e := mm_ai N (fun _ => 0)) z2 o2 ?_, mm_S1 I.2 z2 o2⟩ h
  show H1[M.1]? = some (vp_cell (dA 0) (N, .inl (fun _ => 0)))
  rw [e1, vp_cell_i]
  rfl
theorem mm_rnal (X : mm_C D dA lo cc own nL p s m args c) (I : mm_I D dA lo s M H locs) (harr : Cond.arrayClass .long ∈ mm_ws) {n : Int32} {N : Nat} (hn : ¬ n < 0) (hN : n.toNatClampNeg = N) (hby : N * 8 ≤ 536870912) (hcells : cells + 1 ≤ R.cells) (hslots : slots + N ≤ R.slots) (hdg : decode cc pc = .ok (.newarray .long, 2)) {β : Type} {F : Nat → mm_M → Option β} {o : β} (h : mm_nw M (mm_al N (fun _ => 0)) F = some o)
    (kk : ∀ (v : Nat) (M' : mm_M) (H1 : Heap), mm_I D dA lo s M' H1 locs → F v M' = some o → W p l e R s m args below meth c H1 locs (cells + 1) (slots + N) Q (F0 m (pc + 2) ls (.ref v :: rest))) : W p l e R s m args below meth c H locs cells slots Q (F0 m pc ls (.int n :: rest)) := by
  obtain ⟨hx, hb, hml, hown, hts, hK, hSt⟩ := X
  refine va_newaK (atype := .long) hx hb (hts _ harr) rfl hdg rfl hn hN hby hcells hslots I.1.1 fun H1 cA e1 z1 o1 hAr hNm => ?_
  have z2 : H1.size = H.size + 1 := by rw [I.1.1]; exact z1
  have o2 : ∀ q : Nat, q < H.size → H1[q]? = H[q]? := fun q hq => o1 q (by rw [← I.1.1]; exact hq)
  have hd : s.vm.findClass ("[" ++ (FieldType.long).toString) = some (dA 1) := (hK.2 1 _ (mm_tys_at dA (by decide))).2
  have hcA : cA = dA 1 := Option.some.inj (hNm.symm.trans hd)
  subst hcA
  refine kk M.1 _ H1 ⟨I.1.new (e := mm_al N (fun _ => 0)) z2 o2 ?_, mm_S1 I.2 z2 o2⟩ h
  show H1[M.1]? = some (vp_cell (dA 1) (N, .inr (.inl (fun _ => 0))))
  rw [e1, vp_cell_l]
  rfl
theorem mm_rnar (X : mm_C D dA lo cc own nL p s m args c) (NN : mm_N s) (I : mm_I D dA lo s M H locs) {idx t : Nat} {C : String} (hov : C ∈ mm_ovs) (ht : t < 5) (hC : mm_tyn (t + 2) = .object C) (hcl : Cond.classLink own idx C ∈ mm_ws) {n : Int32} {N : Nat} (hn : ¬ n < 0) (hN : n.toNatClampNeg = N) (hby : N * 4 ≤ 536870912) (hcells : cells + 1 ≤ R.cells) (hslots : slots + N ≤ R.slots) (hdg : decode cc pc = .ok (.anewarray idx, 3)) {β : Type} {F : Nat → mm_M → Option β} {o : β} (h : mm_nw M (mm_ar t N (fun _ => none)) F = some o)
    (kk : ∀ (v : Nat) (M' : mm_M) (H1 : Heap), mm_I D dA lo s M' H1 locs → F v M' = some o → W p l e R s m args below meth c H1 locs (cells + 1) (slots + N) Q (F0 m (pc + 3) ls (.ref v :: rest))) : W p l e R s m args below meth c H locs cells slots Q (F0 m pc ls (.int n :: rest)) := by
  obtain ⟨hx, hb, hml, hown, hts, hK, hSt⟩ := X
  subst hN
  refine W.anew hx hb hown (hts _ hcl) (va_AO.use (NN.2 C hov)) rfl hdg rfl hn hby hcells hslots fun cA kA comp f1 f2 f3 f4 => ?_
  generalize hH1 : H.push ({ cls := cA, slots := Array.replicate n.toNatClampNeg .null, vm := .none } : Cell) = H1
  have z1 : H1.size = H.size + 1 := by rw [← hH1, Array.size_push]
  have e1 : H1[H.size]? = some (arrV cA n.toNatClampNeg (fun _ => .null)) := by rw [← hH1, Array.getElem?_push_size, ← arrV_new]
  have o1 : ∀ q : Nat, q < H.size → H1[q]? = H[q]? := fun q hq => by rw [← hH1, Array.getElem?_push, if_neg (Nat.ne_of_lt hq)]
  have htt : (mm_tys dA)[t + 2]? = some (dA (t + 2), .object C) := by rw [← hC]; exact mm_tys_at dA (by omega)
  obtain ⟨_, _, _, _, _, hd⟩ := (hK.2 (t + 2) _ htt).2
  have hcA : cA = dA (t + 2) := Option.some.inj (f1.symm.trans hd)
  subst hcA
  rw [I.1.1]
  refine kk M.1 _ H1 ⟨I.1.new (e := mm_ar t n.toNatClampNeg (fun _ => none)) z1 o1 ?_, mm_S1 I.2 z1 o1⟩ h
  show H1[M.1]? = some (vp_cell (dA (t + 2)) (n.toNatClampNeg, .inr (.inr (.inr (.inr (fun _ => none))))))
  rw [← I.1.1, e1, vp_cell_q]
  rfl
theorem mm_rob (X : mm_C D dA lo cc own nL p s m args c) {lv : List (Nat × Value)} (hl : lv_has ls nL lv) {idx a : Nat} (ml : Cond.methodLink own idx objectInit ∈ mm_ws) (hfr : 1 ≤ R.frames) (hlc : (rest.map fun v => v.category).sum + 12 ≤ R.locals) (hdg : decode cc pc = .ok (.invokespecial idx, 3)) (kk : W p l e R s m args below meth c H locs cells slots Q (F0 m (pc + 3) ls rest)) : W p l e R s m args below meth c H locs cells slots Q (F0 m pc ls (.ref a :: rest)) :=
  W.objInit X.1 X.2.1 X.2.2.2.1 (X.2.2.2.2.1 _ ml) (X.2.2.2.2.1 _ (mm_in (List.mem_of_getElem? (i := 132) (by decide +kernel)) rfl)) (X.2.2.2.2.1 _ (mm_in (List.mem_of_getElem? (i := 133) (by decide +kernel)) rfl)) rfl (by rw [X.2.2.1]; exact hl.1) rfl hdg hfr (by show 2 * 0 + _ + 12 ≤ _; omega) kk
theorem mm_blindN {av : List Value} : FrameBlind (mm_PN D dA lo av M) := fun a U g mk q => ⟨mm_blind a U g mk q.1, mm_N.same rfl q.2⟩
theorem mm_cI (X : mm_C D dA lo cc own nL p s m args c) (NN : mm_N s) (I : mm_I D dA lo s M H locs) {lv : List (Nat × Value)} (hl : lv_has ls nL lv) {y : MethodName} {ccy : ByteArray} {maxLy n idx fr lc mc ms b : Nat} {As st : List Value} (md : mm_MD y ccy maxLy none n) (hi : Cond.instanceMethod y ∈ mm_ws) (hy1 : y.name = "<init>") (lk : Cond.methodLink own idx y ∈ mm_ws ∨ (own, idx, y) ∈ mm_nest) {f : Option mm_M}
    (hM : ∀ (o : mm_M), f = some o → mm_MetN l D dA lo y ccy maxLy none fr lc mc ms (.ref b :: As) M none o) (hR : fr + 1 ≤ R.frames ∧ 8 + (maxLy + 11) + lc ≤ R.locals) (hc : cells + mc ≤ R.cells) (hs : slots + ms ≤ R.slots) (hn : As.length = n) (hst : st = As.reverse ++ .ref b :: rest) (hroom : (rest.map fun v => v.category).sum ≤ 8) (hdg : decode cc pc = .ok (.invokespecial idx, 3))
    {β : Type} {F : mm_M → Option β} {o : β} (h : mm_b1 f F = some o) (kk : ∀ (M' : mm_M) (H1 : Heap) (locs1 : List Loc), mm_I D dA lo s M' H1 locs1 → F M' = some o → W p l e R s m args below meth c H1 locs1 (cells + mc) (slots + ms) Q (F0 m (pc + 3) ls rest)) : W p l e R s m args below meth c H locs cells slots Q (F0 m pc ls st) := by
  obtain ⟨M1, hf, h⟩ := mm_b1_some h
  subst hst
  have hp : PreS s H (mm_PN D dA lo (.ref b :: As) M) (.ref b :: As) := ⟨mm_blindN, fun U hU hW => ⟨mm_pre X I U hU hW, NN.warm hW⟩⟩
  rcases lk with lk | lk
  · exact mm_after (va_runI (As := As) (rest := rest) ⟨X.1, X.2.1, X.2.2.1, X.2.2.2.1, X.2.2.2.2.1⟩ (hM M1 hf) ⟨mm_cb X md lk hR, hy1, X.2.2.2.2.1 _ hi⟩ hp rfl hn hl.1 rfl (lv_room hroom) hdg ⟨hc, hs⟩) I (fun H1 l1 I1 => kk M1 H1 l1 I1 h)
  · obtain ⟨m1, m2, m3, m4, m5⟩ := md
    exact mm_after (va_runIN (host := RX9) (As := As) (rest := rest) ⟨X.1, X.2.1, X.2.2.1, X.2.2.2.1, X.2.2.2.2.1⟩ (hM M1 hf) ⟨va_cnB n X.2.2.2.2.1 (mm_good (fun w hw => by
      rcases List.mem_cons.mp hw with h | h
      · rw [h]; exact m1
      · exact h)) rfl rfl rfl (NN.1 _ lk) (X.2.2.2.2.1 _ m2) ⟨m3, m4, m5⟩ hR, hy1, X.2.2.2.2.1 _ hi⟩ hp rfl hn hl.1 rfl (lv_room hroom) hdg ⟨hc, hs⟩) I (fun H1 l1 I1 => kk M1 H1 l1 I1 h)
end MMN
