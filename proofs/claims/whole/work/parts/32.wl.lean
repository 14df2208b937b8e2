theorem fl_X9_144 : mm_FL RX9 144 2 1 .int false := ⟨RX2, TX2, 2, tyX2, rfl, by decide, in_X2, tyX2_ok, nmX2, mm_in (List.mem_of_getElem? (i := 214) (by decide +kernel)) rfl, rfl, rfl, by decide +kernel⟩
def mm_nse : String := "java/util/NoSuchElementException"
def mm_sup : List String := ["java/lang/RuntimeException", "java/lang/Exception"]
def mm_dcl : List MethodName := [⟨"java/lang/RuntimeException", "<init>", "()V"⟩, ⟨"java/lang/Exception", "<init>", "()V"⟩, ⟨"java/lang/Throwable", "<init>", "()V"⟩]
/-- what a throw needs of the start -/
def mm_XN (lo : Nat) (U : State) (H : Heap) : Prop := va_Nw (.castable mm_nse mm_nse) U ∧ (∀ y ∈ mm_dcl, va_Nw (.declares y) U) ∧ vx_Zq Bundle.tN "UNASSIGNED_STACK" Bundle.steD (mm_fr lo) U H ∧ vx_Zq Bundle.tN "SUPPRESSED_SENTINEL" Bundle.listD (mm_fr lo) U H
theorem mm_XN.to {lo : Nat} {s U : State} {H : Heap} (hW : s.WarmedH U.vm) (h : mm_XN lo s s.heap) (hq : ∀ a : Nat, a < s.heap.size → ¬ mm_fr lo a → H[a]? = s.heap[a]?) : mm_XN lo U H :=
  ⟨va_Nw.warmC hW h.1, fun y hy => va_Nw.warmD hW (h.2.1 y hy), vx_Zq.moved hW.alike (h.2.2.1.kept hq), vx_Zq.moved hW.alike (h.2.2.2.kept hq)⟩
theorem mm_XN.same {lo : Nat} {u U : State} {H : Heap} (hv : u.vm = U.vm) (h : mm_XN lo u H) : mm_XN lo U H := by
  have hA : u.vm.Alike U.vm := by rw [hv]; exact Vm.Alike.refl _
  exact ⟨va_Nw.same rfl hv h.1, fun y hy => va_Nw.same rfl hv (h.2.1 y hy), vx_Zq.moved hA h.2.2.1, vx_Zq.moved hA h.2.2.2⟩
def mm_PX (D : va_G) (dA : Nat → ClassId) (lo : Nat) (av : List Value) (M : mm_M) : Array Value → State → Prop := fun v U => mm_P D dA lo av M v U ∧ mm_XN lo U U.heap
def mm_Qo (D : va_G) (dA : Nat → ClassId) (lo : Nat) (o : Option Int32 × mm_M) : Array Value → State → Outcome → State → Prop := fun _ st oc t => (∃ v : Int32, o.1 = some v ∧ oc = .returned (some (.int v))) ∧ mm_H D dA lo o.2 t.heap ∧ va_F (mm_fr lo) st t
def mm_XC (D : va_G) (dA : Nat → ClassId) (lo : Nat) (o : Option Int32 × mm_M) : String → State → State → Prop := fun E st t => E = mm_nse ∧ o.1 = none ∧ (∃ k : Nat, mm_H D dA lo (k, o.2.2) t.heap) ∧ va_F (mm_fr lo) st t
theorem mm_thw : ∀ w ∈ (vx_at0 RX9 139 mm_nse mm_sup).filter goodWord, w ∈ mm_ws := fun w hw => mm_in ((show ∀ w ∈ (vx_at0 RX9 139 mm_nse mm_sup).filter goodWord, w ∈ lw_tbl by decide +kernel) w hw) (List.mem_filter.mp hw).2
theorem mm_clX : Cond.classLink RX9 137 mm_nse ∈ mm_ws := mm_in (List.mem_of_getElem? (i := 972) (by decide +kernel)) rfl
theorem mm_inX : Cond.initialized mm_nse ∈ mm_ws := mm_in (List.mem_of_getElem? (i := 123) (by decide +kernel)) rfl
section MMT
variable {p : Program} {l : Launch} {e : Env} {R : Room} {s : State} {m : MethodId} {args : Array Value} {below : List Frame} {meth : Method} {c : Code} {H : Heap} {locs : List Loc} {cells slots : Nat} {Q : State → Prop}
variable {cc : ByteArray} {own : String} {nL : Nat} {D : va_G} {dA : Nat → ClassId} {lo : Nat} {M : mm_M} {pc : Nat} {ls : Array Slot} {rest : List Value}
theorem mm_xo (X : mm_C D dA lo cc own nL p s m args c) (I : mm_I D dA lo s M H locs) (hr : meth.sig.returnType = some .int) (hlk : meth.locks = false) {v : Int32} (hdg : decode cc pc = .ok (.ireturn, 1)) {o : Option Int32 × mm_M} (h : some (some v, M) = some o) : W p l e R s m args below meth c H locs 0 0 (vx_MQ below (mm_Qo D dA lo o) (mm_XC D dA lo o) args s 1 6 (mm_fr lo)) (F0 m pc ls [.int v]) := by
  cases h
  refine W.widen (k := 1) (n := 6) (by omega) (by omega) ?_
  exact vx_ret (W.iret X.1 X.2.1 hr (fun t ht hW => ⟨⟨v, rfl, rfl⟩, by rw [ht]; exact I.1, I.2.F ht⟩) I.2.2.2 hdg hlk)
theorem mm_Hk {H1 : Heap} (h : mm_H D dA lo M H) (z : H.size ≤ H1.size) (oq : ∀ q : Nat, q < H.size → H1[q]? = H[q]?) : mm_H D dA lo (H1.size, M.2) H1 :=
  ⟨rfl, Nat.le_trans h.2.1 z, fun a e he => ⟨(h.2.2 a e he).1, (h.2.2 a e he).2.kept (oq a (h.2.2 a e he).2.lt)⟩⟩
theorem mm_throw (hst : l.stackTraces = false) (X : mm_C D dA lo cc RX9 nL p s m args c) (XN : mm_XN lo s s.heap) (I : mm_I D dA lo s M H locs) {lv : List (Nat × Value)} (hl : lv_has ls nL lv) (hout : ∀ x ∈ c.exceptionTable.toList, False) (hlk : meth.locks = false)
    (d0 : decode cc pc = .ok (.new 137, 3)) (d3 : decode cc (pc + 3) = .ok (.dup, 1)) (d4 : decode cc (pc + 4) = .ok (.invokespecial 139, 3)) (d7 : decode cc (pc + 7) = .ok (.athrow, 1)) {o : Option Int32 × mm_M} (h : some (none, M) = some o) :
    W p l e (mm_rm 6 100 1 6) s m args below meth c H locs 0 0 (vx_MQ below (mm_Qo D dA lo o) (mm_XC D dA lo o) args s 1 6 (mm_fr lo)) (F0 m pc ls []) := by
  cases h
  obtain ⟨hx, hb, hml, hown, hts, hK, hSt⟩ := X
  refine vx_throw0 (own := RX9) (cls := mm_nse) (names := mm_sup) (ik := 137) (ic := 139) (A := mm_fr lo) hx hb hst hown (by decide +kernel) (by decide +kernel) (hts _ mm_clX) (hts _ mm_inX)
    (vx_hat (B := .castable mm_nse mm_nse :: mm_dcl.map Cond.declares) (fun w hw => hts w (mm_thw w hw)) (by decide +kernel) (fun w hw => ?_)) (by decide +kernel) XN.2.2.1 XN.2.2.2 I.2 (by rw [hml]; exact hl.1) d0 d3 d4 d7 (fun x hx => absurd (hout x hx) id) (by decide) (by decide) (by decide) (by decide) hlk (fun t ht z oq => ?_) I.2.2.2 (by decide) (by decide)
  · rcases List.mem_cons.mp hw with h | h
    · rw [h]; exact va_Nw.use rfl XN.1
    · obtain ⟨y, hy, h⟩ := List.mem_map.mp h
      rw [← h]; exact va_Nw.use rfl (XN.2.1 y hy)
  · exact ⟨rfl, rfl, ⟨_, mm_Hk I.1 z oq⟩, Nat.le_trans I.2.1 z, fun q h1 h2 => (oq q (Nat.lt_of_lt_of_le h1 I.2.1)).trans (I.2.2.1 q h1 h2)⟩
theorem mm_afterX {mc ms : Nat} {st0 : List Value} {o : Option Int32 × mm_M} {a : Array Value} (hr : vx_Run p l e R s m args below meth c H locs cells slots mc ms (F0 m pc ls st0) rest (mm_Qo D dA lo o a) (mm_XC D dA lo o) (mm_fr lo)) (I : mm_I D dA lo s M H locs)
    (kk : ∀ (v : Int32) (H1 : Heap) (locs1 : List Loc), o.1 = some v → mm_I D dA lo s o.2 H1 locs1 → W p l e R s m args below meth c H1 locs1 (cells + mc) (slots + ms) Q (F0 m (pc + 3) ls (.int v :: rest)))
    (kx : ∀ (k : Nat) (q9 : Addr) (ce : Cell) (H1 : Heap) (locs1 : List Loc), o.1 = none → mm_I D dA lo s (k, o.2.2) H1 locs1 → H1[q9]? = some ce → ce.vm = .none → s.vm.findClass mm_nse = some ce.cls → vx_W p l e R s m args below meth c H1 locs1 (cells + mc) (slots + ms) Q (F0 m pc ls rest) q9) : W p l e R s m args below meth c H locs cells slots Q (F0 m pc ls st0) := by
  intro T hT X
  rcases hr T hT X with ⟨v, st₀, t, T', L, h0, X', hL, e1, e2, ⟨⟨w, hw, hv⟩, hH, hz, hk⟩, st⟩ | ⟨q, st₀, t, T', L, E, ce, h0, X', hL, e1, e2, ⟨hE, ho, ⟨k, hH⟩, hz, hk⟩, hce, hcv, hcl, st⟩
  · cases hv
    rw [h0] at hz hk
    obtain ⟨t2, a1, b1⟩ := kk w T'.heap (locs ++ L) hw ⟨by rw [e1]; exact hH, Nat.le_trans I.2.1 (by rw [e1]; exact hz), fun q h1 h2 => by rw [e1, hk q (Nat.lt_of_lt_of_le h1 I.2.1) h2]; exact I.2.2.1 q h1 h2, fun q hq => by
      rcases List.mem_append.mp hq with h | h
      · exact I.2.2.2 q h
      · exact hL q h⟩ T' rfl X'
    exact ⟨t2, st t2 a1, b1⟩
  · subst hE
    rw [h0] at hz hk
    obtain ⟨t2, a1, b1⟩ := kx k q ce T'.heap (locs ++ L) ho ⟨by rw [e1]; exact hH, Nat.le_trans I.2.1 (by rw [e1]; exact hz), fun q h1 h2 => by rw [e1, hk q (Nat.lt_of_lt_of_le h1 I.2.1) h2]; exact I.2.2.1 q h1 h2, fun q hq => by
      rcases List.mem_append.mp hq with h | h
      · exact I.2.2.2 q h
      · exact hL q h⟩ (by rw [e1]; exact hce) hcv hcl T' rfl X'
    exact ⟨t2, st.trans a1, b1⟩
theorem mm_blindX {av : List Value} : FrameBlind (mm_PX D dA lo av M) := fun a U g mk q => ⟨mm_blind a U g mk q.1, mm_XN.same rfl q.2⟩
end MMT
set_option maxHeartbeats 4000000 in
set_option maxRecDepth 100000 in
theorem kX9_line {l : Launch} (hst : l.stackTraces = false) {D : va_G} {dA : Nat → ClassId} {lo : Nat} {n : Nat} {M : mm_M} {a0 : Nat} {x1 x2 : Int32} (o : Option Int32 × mm_M) (h : pX9_line n M a0 x1 x2 = some o) : (∃ fs, M.2 a0 = some (mm_ob 9 fs)) ∧ vx_Met l yX9_line (Cond.code yX9_line cX9_line 3 (some .int) :: mm_ws) (mm_rm 6 100 1 6) (mm_PX D dA lo [.ref a0, .int x1, .int x2] M) (mm_Qo D dA lo o) (mm_XC D dA lo o) 1 6 (mm_fr lo) := by
  unfold pX9_line at h
  obtain ⟨hob, h⟩ := mm_v_some h
  refine ⟨hob, vx_ofW (cc := cX9_line) (maxL := 3) (ret := some .int) (by decide) rfl ?_⟩
  intro p e s m args below meth c s₁ B hml hout hv
  obtain ⟨⟨rfl, hH, hK, hSt⟩, XN⟩ := hv
  have hts := atoms_spec (ws := Cond.code yX9_line cX9_line 3 (some .int) :: mm_ws) B.pre
  have hl := lv_entry ([.ref a0, .int x1, .int x2]) (n := 3) (Nat.le_of_ble_eq_true rfl)
  rw [lg_entry_eq]
  generalize (lg_sl ([.ref a0, .int x1, .int x2]) ++ List.replicate (3 - (lg_sl ([.ref a0, .int x1, .int x2])).length) Slot.unset).toArray = ls at hl ⊢
  have hl : lv_has ls 3 [(0, .ref a0), (1, .int x1), (2, .int x2)] := hl
  have X : mm_C D dA lo cX9_line RX9 3 p s m _ c := ⟨B.exec, B.bytes, hml, findClass_of_methodNamed B.named, fun w hw => hts w (List.mem_cons_of_mem _ hw), hK, hSt⟩
  have I : mm_I D dA lo s M s.heap [] := ⟨hH, va_S.rf⟩
  have hr := B.returns
  have hlk := B.notSynchronized
  refine lv_aload_n X.1 X.2.1 dX9_line_0 rfl (lv_at hl 0 rfl) ?_
  refine mm_rgr X I fl_X9_60 dX9_line_1 h (fun v1 h => ?_)
  refine lv_iload_n X.1 X.2.1 dX9_line_4 rfl (lv_at hl 1 rfl) ?_
  refine mm_cVi X I hl (As := [.int x1]) (ci := 6) md_X6_hasLine mv_X6_hasLine ml_X9_134 rfl (kX6_hasLine (n := n)) (by decide) ⟨Nat.zero_le _, Nat.zero_le _⟩ rfl rfl (Nat.le_of_ble_eq_true rfl) dX9_line_5 h (fun v2 M H locs I h => ?_)
  refine mm_jeq (tgt := 20) X dX9_line_8 (by decide) h (fun h => ?_) (fun h => ?_)
  · exact mm_throw hst X XN I hl hout hlk dX9_line_20 dX9_line_23 dX9_line_24 dX9_line_27 h
  · refine lv_iload_n X.1 X.2.1 dX9_line_11 rfl (lv_at hl 2 rfl) ?_
    refine mm_jlt (tgt := 20) X dX9_line_12 (by decide) h (fun h => ?_) (fun h => ?_)
    · exact mm_throw hst X XN I hl hout hlk dX9_line_20 dX9_line_23 dX9_line_24 dX9_line_27 h
    · refine lv_iload_n X.1 X.2.1 dX9_line_15 rfl (lv_at hl 2 rfl) ?_
      refine lv_iconst (v := 1) X.1 X.2.1 dX9_line_16 (by decide) ?_
      refine mm_kle (tgt := 28) X dX9_line_17 (by decide) h (fun h => ?_) (fun h => ?_)
      · refine lv_iload_n X.1 X.2.1 dX9_line_28 rfl (lv_at hl 2 rfl) ?_
        refine mm_jne (tgt := 47) X dX9_line_29 (by decide) h (fun h => ?_) (fun h => ?_)
        · refine lv_aload_n X.1 X.2.1 dX9_line_47 rfl (lv_at hl 0 rfl) ?_
          refine mm_rgr X I fl_X9_60 dX9_line_48 h (fun v3 h => ?_)
          refine mm_rgr X I fl_X9_140 dX9_line_51 h (fun v4 h => ?_)
          refine lv_iload_n X.1 X.2.1 dX9_line_54 rfl (lv_at hl 1 rfl) ?_
          refine mm_rra X I dX9_line_55 h (fun v5 h => ?_)
          refine mm_rgr X I fl_X9_149 dX9_line_56 h (fun v6 h => ?_)
          refine mm_rgi X I fl_X9_109 dX9_line_59 h (fun v7 h => ?_)
          exact mm_xo X I hr hlk dX9_line_62 h
        · refine lv_aload_n X.1 X.2.1 dX9_line_32 rfl (lv_at hl 0 rfl) ?_
          refine mm_rgr X I fl_X9_60 dX9_line_33 h (fun v8 h => ?_)
          refine mm_rgr X I fl_X9_140 dX9_line_36 h (fun v9 h => ?_)
          refine lv_iload_n X.1 X.2.1 dX9_line_39 rfl (lv_at hl 1 rfl) ?_
          refine mm_rra X I dX9_line_40 h (fun v10 h => ?_)
          refine mm_rgi X I fl_X9_144 dX9_line_41 h (fun v11 h => ?_)
          refine lv_goto (tgt := 62) X.1 X.2.1 dX9_line_44 (by decide) ?_
          exact mm_xo X I hr hlk dX9_line_62 h
      · exact mm_throw hst X XN I hl hout hlk dX9_line_20 dX9_line_23 dX9_line_24 dX9_line_27 h

theorem mm_ofWH {l : Launch} {y : MethodName} {ws ws' : List Cond} {rm : Room} {Pc : Array Value → State → Prop} {Qc : Array Value → State → Outcome → State → Prop} {mc ms : Nat} {free : Addr → Prop} {cc : ByteArray} {maxL : Nat} {ret : Option FieldType} {hh : List (Nat × Nat × Nat × Nat)}
    (hy : plainName y.cls = true) (hw : ws = Cond.codeWith y cc maxL ret hh :: ws')
    (body : ∀ p e s m args below meth c s₁, BodyLoose p l y (headSpec ws rm) cc maxL ret e s m args below meth c s₁ → c.maxLocals = maxL → Pc args s →
      W p l e (headSpec ws rm).room s m args below meth c s.heap [] 0 0 (MQ below Qc args s mc ms free) (entryFrame m args maxL)) : Met l y ws rm Pc Qc mc ms free := by
  refine MetFree.of_bodyS (code := cc) (maxLocals := maxL) (ret := ret) hy ?_ ?_
  · intro args s m h hn
    obtain ⟨m9, meth, c, hn9, h1, h2, h3, h4, -, h5, h6, -⟩ := Cond.codeWith_spec (atoms_spec (ws := ws) h _ (by rw [hw]; exact List.mem_cons_self))
    cases hn.symm.trans hn9
    exact ⟨meth, c, h1, h2, h3, h4, h5, h6⟩
  · intro p e s m args below meth c s₁ B hml hP _
    have hh0 : s₁.heap = s.heap := by rw [B.state]; rfl
    obtain ⟨t, a1, o, b1, b2, b3⟩ := body p e s m args below meth c s₁ B hml hP s₁ hh0 (Stand.of_body B)
    exact ⟨t, o, a1, b1, b2, ⟨b3.1, b3.2⟩⟩
/-- the law's line: 0 and the answer in its row, or 1 -/
def mm_QL (D : va_G) (dA : Nat → ClassId) (lo a3 : Nat) (o : Option Int32 × mm_M) : Array Value → State → Outcome → State → Prop := fun _ st oc t => va_F (mm_fr lo) st t ∧ ((∃ (v : Int32) (M2 : mm_M), o.1 = some v ∧ mm_lst o.2 a3 0 v.toInt64 = some M2 ∧ oc = .returned (some (.int 0)) ∧ mm_H D dA lo M2 t.heap) ∨ (o.1 = none ∧ oc = .returned (some (.int 1)) ∧ ∃ k : Nat, mm_H D dA lo (k, o.2.2) t.heap))
theorem ml_L_7 : Cond.methodLink RL 7 yX9_line ∈ mm_ws := mm_in (List.mem_of_getElem? (i := 968) (by decide +kernel)) rfl
theorem md_X9_line : mm_MD yX9_line cX9_line 3 (some .int) 2 := ⟨mm_in (List.mem_of_getElem? (i := 971) (by decide +kernel)) rfl, mm_in (List.mem_of_getElem? (i := 108) (by decide +kernel)) rfl, by decide +kernel, by decide +kernel, by decide +kernel⟩
theorem mv_X9_line : mm_MV yX9_line := ⟨mm_in (List.mem_of_getElem? (i := 969) (by decide +kernel)) rfl, mm_in (List.mem_of_getElem? (i := 970) (by decide +kernel)) rfl⟩
theorem cl_L_13 : Cond.classLink RL 13 mm_nse ∈ mm_ws := mm_in (List.mem_of_getElem? (i := 967) (by decide +kernel)) rfl
theorem cw_L : Cond.codeWith yL_line cL_line 5 (some .int) [(0, 10, 13, 13)] ∈ mm_ws := mm_in (List.mem_of_getElem? (i := 966) (by decide +kernel)) rfl
set_option maxHeartbeats 4000000 in
set_option maxRecDepth 100000 in
theorem kL_line {l : Launch} (hst : l.stackTraces = false) {D : va_G} {dA : Nat → ClassId} {lo : Nat} {n : Nat} {M : mm_M} {a0 a3 : Nat} {x1 x2 : Int32} (o : Option Int32 × mm_M) (h : pX9_line n M a0 x1 x2 = some o) (h3 : ∀ v : Int32, o.1 = some v → ∃ M2, mm_lst o.2 a3 0 v.toInt64 = some M2) : Met l yL_line (Cond.codeWith yL_line cL_line 5 (some .int) [(0, 10, 13, 13)] :: mm_ws) (mm_rm 7 122 1 6) (mm_PX D dA lo [.ref a0, .int x1, .int x2, .ref a3] M) (mm_QL D dA lo a3 o) 1 6 (mm_fr lo) := by
  refine mm_ofWH (cc := cL_line) (maxL := 5) (ret := some .int) (by decide) rfl ?_
  intro p e s m args below meth c s₁ B hml hv
  obtain ⟨⟨rfl, hH, hK, hSt⟩, XN⟩ := hv
  have hts := atoms_spec (ws := Cond.codeWith yL_line cL_line 5 (some .int) [(0, 10, 13, 13)] :: mm_ws) B.pre
  have htab := vx_table (x := yL_line) B (hts _ List.mem_cons_self)
  have hl := lv_entry ([.ref a0, .int x1, .int x2, .ref a3]) (n := 5) (Nat.le_of_ble_eq_true rfl)
  rw [lg_entry_eq]
  generalize (lg_sl ([.ref a0, .int x1, .int x2, .ref a3]) ++ List.replicate (5 - (lg_sl ([.ref a0, .int x1, .int x2, .ref a3])).length) Slot.unset).toArray = ls at hl ⊢
  have hl : lv_has ls 5 [(0, .ref a0), (1, .int x1), (2, .int x2), (3, .ref a3)] := hl
  have X : mm_C D dA lo cL_line RL 5 p s m _ c := ⟨B.exec, B.bytes, hml, findClass_of_methodNamed B.named, fun w hw => hts w (List.mem_cons_of_mem _ hw), hK, hSt⟩
  have I : mm_I D dA lo s M s.heap [] := ⟨hH, va_S.rf⟩
  have hr := B.returns
  have hlk := B.notSynchronized
  refine lv_aload_n X.1 X.2.1 dL_line_0 rfl (lv_at hl 3 rfl) ?_
  refine lv_iconst (v := 0) X.1 X.2.1 dL_line_1 (by decide) ?_
  refine lv_aload_n X.1 X.2.1 dL_line_2 rfl (lv_at hl 0 rfl) ?_
  refine lv_iload_n X.1 X.2.1 dL_line_3 rfl (lv_at hl 1 rfl) ?_
  refine lv_iload_n X.1 X.2.1 dL_line_4 rfl (lv_at hl 2 rfl) ?_
  obtain ⟨⟨fs, hob⟩, hM⟩ := kX9_line hst (D := D) (dA := dA) (lo := lo) o h
  have hrecv := va_recv X.2.2.2.2.2.1 (I.1.at hob) (ci := 9) (q := (RX9, TX9, 18)) (q0 := 0) rfl rfl
  refine mm_afterX (vx_runV (C := RX9) (As := [.int x1, .int x2]) (rest := [.int 0, .ref a3]) ⟨X.1, X.2.1, X.2.2.1, X.2.2.2.1, X.2.2.2.2.1⟩ hM ⟨mm_cb X md_X9_line ml_L_7 (by decide), X.2.2.2.2.1 _ mv_X9_line.1, X.2.2.2.2.1 _ mv_X9_line.2⟩ ⟨mm_blindX, hrecv, fun U hU hW => ⟨mm_pre X I U hU hW, by rw [hU]; exact XN.to hW (fun _ _ _ => rfl)⟩⟩ rfl rfl hl.1 rfl (lv_room (Nat.le_of_ble_eq_true rfl)) dL_line_5 (by decide)) I (fun v H1 l1 ho I => ?_) (fun k q9 ce H1 l1 ho I hce hcv hcl => ?_)
  · obtain ⟨M2, hM2⟩ := h3 v ho
    refine lv_i2l (v := v.toInt64) X.1 X.2.1 dL_line_8 rfl ?_
    refine mm_rls (F := fun M => some M) X I dL_line_9 (show mm_b1 (mm_lst o.2 a3 0 v.toInt64) (fun M => some M) = some M2 by rw [hM2]; rfl) (fun M3 H locs I h9 => ?_)
    cases h9
    refine lv_goto (tgt := 17) X.1 X.2.1 dL_line_10 (by decide) ?_
    refine lv_iconst (v := 0) X.1 X.2.1 dL_line_17 (by decide) ?_
    exact W.iret X.1 X.2.1 hr (fun t ht hW => ⟨I.2.F ht, Or.inl ⟨v, M2, ho, hM2, rfl, by rw [ht]; exact I.1⟩⟩) I.2.2.2 dL_line_18 hlk
  · refine vx_catch (name := mm_nse) X.2.2.2.1 [] ⟨0, 10, 13, 13⟩ [] htab (fun z hz => absurd hz List.not_mem_nil) (by decide) (by decide) (X.2.2.2.2.1 _ cl_L_13) (va_Nw.use rfl XN.1) hce hcv hcl ?_
    refine lv_astore (lv' := [(4, .ref q9), (0, .ref a0), (1, .int x1), (2, .int x2), (3, .ref a3)]) X.1 X.2.1 dL_line_13 hl (by decide) rfl (fun ls hl => ?_)
    refine lv_iconst (v := 1) X.1 X.2.1 dL_line_15 (by decide) ?_
    exact W.iret X.1 X.2.1 hr (fun t ht hW => ⟨I.2.F ht, Or.inr ⟨ho, rfl, k, by rw [ht]; exact I.1⟩⟩) I.2.2.2 dL_line_16 hlk
