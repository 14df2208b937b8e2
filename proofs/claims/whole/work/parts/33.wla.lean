/-! THE CLAIM OUT OF ONE WALK OF THE LAW'S BODY. Your part is whole_start (and what it stands on); all else here is the same for every law, but numbers. -/
def R_law : String := "KwicStoreLaw"
def lw_P (b : Addr) (xs : List Int32) (args : Array Value) (s : State) : Prop := args = #[.ref b] ∧ s.IntsAt b xs ∧ xs.length ≤ 3072 ∧ (Jvm.Cond.and given_1 narrow_1).before args s = true
def lw_Q (_ : Array Value) (s : State) (o : Outcome) (t : State) : Prop := o = .returned (some (.int 1)) ∧ Framed s o t [] 601024 7293034
def lw_Z (below : List Frame) (a : Array Value) (s : State) : State → Prop := fun t => ∃ o, t.status = .running ∧ Ended t below o ∧ lw_Q a s o t
/-- the law's own end, with 1 on the stack, nothing written that was there before, its room as the claim has it -/
theorem lw_ret {p : Program} {l : Launch} {e : Env} {s : State} {m : MethodId} {below : List Frame} {meth : Method} {c : Code} {b : Nat} (hx : p.tables.exec = Jvm.exec) (hb : c.code = code) (hr : meth.sig.returnType = ret) (hlocks : meth.locks = false) {pc : Nat} {H : Heap} {ls : Array Slot} (hdg : decode code pc = .ok (.ireturn, 1)) : W p l e room_1 s m #[Value.ref b] below meth c H [] 601024 7293034 (lw_Z below #[Value.ref b] s) (F0 m pc ls [.int 1]) := by
  intro T hT X
  obtain ⟨fs, hret, hrun, hended, hW, hframe⟩ := X.leave (v := some (.int 1)) (hlocks := hlocks) (fun h => by rw [hr] at h; cases h)
  have hmeth' : T.vm.method? m = some meth := X.method'
  refine ⟨T.setFrames fs, ?_, .returned (some (.int 1)), hrun, hended, rfl, ⟨_, rfl⟩, hW, hframe⟩
  jvm_step X.here [X.here.top, hx, hb, hdg, hmeth', hr, ret, narrow_b1]
  (try refine ⟨rfl, ?_⟩); (try refine ⟨rfl, ?_⟩)
  first | (intro acts; rw [hret _ acts rfl rfl rfl]) | rw [hret _ _ rfl rfl rfl]
  exact Steps.refl _
/-- what holds at the law's entry: the machine, the code, the tables' words (any of lw_tbl by 'hts w (by decide +kernel)'), the script of L ints xs at the cell b, what the Statement gives of the start (any of its parts by flat_of_before) -/
def lw_At (p : Program) (s : State) (m : MethodId) (meth : Method) (c : Code) (b L : Nat) (xs : Nat → Int32) : Prop :=
  p.tables.exec = Jvm.exec ∧ c.code = code ∧ meth.sig.returnType = ret ∧ c.maxLocals = 7 ∧ s.vm.findClass R_law = some m.cls ∧ (∀ w ∈ lw_tbl, w.before #[Value.ref b] s = true) ∧ va_X b L xs s s.heap ∧ b < s.heap.size ∧ meth.locks = false ∧ (Jvm.Cond.and given_1 narrow_1).before #[Value.ref b] s = true
theorem lw_ix (a j : Nat) : nI a + Int32.ofNat j = nI (a + j) := by simp [nI, Int32.ofNat_add]
theorem lw_cmp {L t : Nat} (hL : L ≤ 3072) (ht : t ≤ 600) : (nI L - 6 < nI (6 * t)) ↔ L < 6 * t + 6 := by
  have e1 : (nI L - 6).toInt = (L : Int) - 6 := by
    have h0 : (nI L).toInt = (L : Int) := by
      show (Int32.ofNat L).toInt = _
      rw [Int32.toInt_ofNat_of_lt (by omega)]
    rw [Int32.toInt_sub, h0]
    show ((L : Int) - 6).bmod (2 ^ 32) = _
    rw [Int.bmod_eq_of_le (by omega) (by omega)]
  have e2 : (nI (6 * t)).toInt = 6 * (t : Int) := by
    show (Int32.ofNat (6 * t)).toInt = _
    rw [Int32.toInt_ofNat_of_lt (by omega)]
    omega
  rw [Int32.lt_iff_toInt_lt, e1, e2]
  omega
section LWC
variable {p : Program} {l : Launch} {e : Env} {R : Room} {s : State} {m : MethodId} {args : Array Value} {below : List Frame} {meth : Method} {c : Code} {H : Heap} {locs : List Loc} {cells slots : Nat} {Q : State → Prop}
variable {cc : ByteArray} {own : String} {nL : Nat} {D : va_G} {dA : Nat → ClassId} {lo : Nat} {M : mm_M} {pc : Nat} {ls : Array Slot} {rest : List Value}
theorem mm_cVe (X : mm_C D dA lo cc own nL p s m args c) (I : mm_I D dA lo s M H locs) {lv : List (Nat × Value)} (hl : lv_has ls nL lv) {y : MethodName} {ccy : ByteArray} {maxLy : Nat} {rety : Option FieldType} {n idx fr lc ci b : Nat} {As st : List Value} (md : mm_MD y ccy maxLy rety n) (mv : mm_MV y) (ml : Cond.methodLink own idx y ∈ mm_ws) (hcl : (vwCl[ci]?).map (·.1) = some y.cls) {f : Option (Int32 × mm_M)} {r : Int32} {M1 : mm_M} (h1 : f = some (r, M1))
    (hM : ∀ (o : Int32 × mm_M), f = some o → (∃ fs, M.2 b = some (mm_ob ci fs)) ∧ mm_Met l D dA lo y ccy maxLy rety fr lc 0 0 (.ref b :: As) M (some (.int o.1)) o.2) (hR : fr + 1 ≤ R.frames ∧ 8 + (maxLy + 11) + lc ≤ R.locals) (hcs : cells ≤ R.cells ∧ slots ≤ R.slots) (hn : As.length = n) (hst : st = As.reverse ++ .ref b :: rest) (hroom : (rest.map fun v => v.category).sum ≤ 8) (hdg : decode cc pc = .ok (.invokevirtual idx, 3))
    (kk : ∀ (H1 : Heap) (locs1 : List Loc), mm_I D dA lo s M1 H1 locs1 → W p l e R s m args below meth c H1 locs1 cells slots Q (F0 m (pc + 3) ls (.int r :: rest))) : W p l e R s m args below meth c H locs cells slots Q (F0 m pc ls st) := by
  obtain ⟨hob, hm⟩ := hM (r, M1) h1
  exact mm_cV X I hl.1 md mv ml hcl hm hob hR hcs hn hst hroom hdg kk
theorem mm_afterL {a3 : Nat} {st0 : List Value} {o : Option Int32 × mm_M} {a : Array Value} (hr : va_Run p l e R s m args below meth c H locs cells slots 1 6 (F0 m pc ls st0) rest (mm_QL D dA lo a3 o a) (mm_fr lo)) (I : mm_I D dA lo s M H locs)
    (k0 : ∀ (v : Int32) (M2 : mm_M) (H1 : Heap) (locs1 : List Loc), o.1 = some v → mm_lst o.2 a3 0 v.toInt64 = some M2 → mm_I D dA lo s M2 H1 locs1 → W p l e R s m args below meth c H1 locs1 (cells + 1) (slots + 6) Q (F0 m (pc + 3) ls (.int 0 :: rest)))
    (k1 : ∀ (k : Nat) (H1 : Heap) (locs1 : List Loc), o.1 = none → mm_I D dA lo s (k, o.2.2) H1 locs1 → W p l e R s m args below meth c H1 locs1 (cells + 1) (slots + 6) Q (F0 m (pc + 3) ls (.int 1 :: rest))) : W p l e R s m args below meth c H locs cells slots Q (F0 m pc ls st0) := by
  intro T hT X
  obtain ⟨v, st₀, t, T', L, h0, X', hL, e1, e2, ⟨⟨hz, hk⟩, hq⟩, st⟩ := hr T hT X
  rw [h0] at hz hk
  have hS : va_S (mm_fr lo) s.heap T'.heap (locs ++ L) := ⟨Nat.le_trans I.2.1 (by rw [e1]; exact hz), fun q h1 h2 => by rw [e1, hk q (Nat.lt_of_lt_of_le h1 I.2.1) h2]; exact I.2.2.1 q h1 h2, fun q hq => by
      rcases List.mem_append.mp hq with h | h
      · exact I.2.2.2 q h
      · exact hL q h⟩
  rcases hq with ⟨w, M2, ho, hM2, hv, hH⟩ | ⟨ho, hv, k, hH⟩
  · cases hv
    obtain ⟨t2, a1, b1⟩ := k0 w M2 T'.heap (locs ++ L) ho hM2 ⟨by rw [e1]; exact hH, hS⟩ T' rfl X'
    exact ⟨t2, st t2 a1, b1⟩
  · cases hv
    obtain ⟨t2, a1, b1⟩ := k1 k T'.heap (locs ++ L) ho ⟨by rw [e1]; exact hH, hS⟩ T' rfl X'
    exact ⟨t2, st t2 a1, b1⟩
end LWC

theorem ml_L_19 : Cond.methodLink RL 19 yX9_feed ∈ mm_ws := mm_in (List.mem_of_getElem? (i := 425) (by decide +kernel)) rfl
theorem md_X9_feed : mm_MD yX9_feed cX9_feed 8 (some .int) 5 := ⟨mm_in (List.mem_of_getElem? (i := 428) (by decide +kernel)) rfl, mm_in (List.mem_of_getElem? (i := 108) (by decide +kernel)) rfl, by decide +kernel, by decide +kernel, by decide +kernel⟩
theorem mv_X9_feed : mm_MV yX9_feed := ⟨mm_in (List.mem_of_getElem? (i := 426) (by decide +kernel)) rfl, mm_in (List.mem_of_getElem? (i := 427) (by decide +kernel)) rfl⟩
theorem ml_L_23 : Cond.methodLink RL 23 yX10_feed ∈ mm_ws := mm_in (List.mem_of_getElem? (i := 1143) (by decide +kernel)) rfl
theorem md_X10_feed : mm_MD yX10_feed cX10_feed 9 (some .int) 5 := ⟨mm_in (List.mem_of_getElem? (i := 1146) (by decide +kernel)) rfl, mm_in (List.mem_of_getElem? (i := 118) (by decide +kernel)) rfl, by decide +kernel, by decide +kernel, by decide +kernel⟩
theorem mv_X10_feed : mm_MV yX10_feed := ⟨mm_in (List.mem_of_getElem? (i := 1144) (by decide +kernel)) rfl, mm_in (List.mem_of_getElem? (i := 1145) (by decide +kernel)) rfl⟩
theorem ml_L_24 : Cond.methodLink RL 24 yX9_end ∈ mm_ws := mm_in (List.mem_of_getElem? (i := 433) (by decide +kernel)) rfl
theorem md_X9_end : mm_MD yX9_end cX9_end 2 (some .boolean) 1 := ⟨mm_in (List.mem_of_getElem? (i := 436) (by decide +kernel)) rfl, mm_in (List.mem_of_getElem? (i := 108) (by decide +kernel)) rfl, by decide +kernel, by decide +kernel, by decide +kernel⟩
theorem mv_X9_end : mm_MV yX9_end := ⟨mm_in (List.mem_of_getElem? (i := 434) (by decide +kernel)) rfl, mm_in (List.mem_of_getElem? (i := 435) (by decide +kernel)) rfl⟩
theorem ml_L_28 : Cond.methodLink RL 28 yX10_end ∈ mm_ws := mm_in (List.mem_of_getElem? (i := 1150) (by decide +kernel)) rfl
theorem md_X10_end : mm_MD yX10_end cX10_end 2 (some .boolean) 1 := ⟨mm_in (List.mem_of_getElem? (i := 1153) (by decide +kernel)) rfl, mm_in (List.mem_of_getElem? (i := 118) (by decide +kernel)) rfl, by decide +kernel, by decide +kernel, by decide +kernel⟩
theorem mv_X10_end : mm_MV yX10_end := ⟨mm_in (List.mem_of_getElem? (i := 1151) (by decide +kernel)) rfl, mm_in (List.mem_of_getElem? (i := 1152) (by decide +kernel)) rfl⟩
theorem ml_L_29 : Cond.methodLink RL 29 yX9_fault ∈ mm_ws := mm_in (List.mem_of_getElem? (i := 437) (by decide +kernel)) rfl
theorem md_X9_fault : mm_MD yX9_fault cX9_fault 2 (some .int) 1 := ⟨mm_in (List.mem_of_getElem? (i := 440) (by decide +kernel)) rfl, mm_in (List.mem_of_getElem? (i := 108) (by decide +kernel)) rfl, by decide +kernel, by decide +kernel, by decide +kernel⟩
theorem mv_X9_fault : mm_MV yX9_fault := ⟨mm_in (List.mem_of_getElem? (i := 438) (by decide +kernel)) rfl, mm_in (List.mem_of_getElem? (i := 439) (by decide +kernel)) rfl⟩
theorem ml_L_33 : Cond.methodLink RL 33 yX10_fault ∈ mm_ws := mm_in (List.mem_of_getElem? (i := 1157) (by decide +kernel)) rfl
theorem md_X10_fault : mm_MD yX10_fault cX10_fault 2 (some .int) 1 := ⟨mm_in (List.mem_of_getElem? (i := 1160) (by decide +kernel)) rfl, mm_in (List.mem_of_getElem? (i := 118) (by decide +kernel)) rfl, by decide +kernel, by decide +kernel, by decide +kernel⟩
theorem mv_X10_fault : mm_MV yX10_fault := ⟨mm_in (List.mem_of_getElem? (i := 1158) (by decide +kernel)) rfl, mm_in (List.mem_of_getElem? (i := 1159) (by decide +kernel)) rfl⟩
theorem ml_L_34 : Cond.methodLink RL 34 yX9_text ∈ mm_ws := mm_in (List.mem_of_getElem? (i := 504) (by decide +kernel)) rfl
theorem md_X9_text : mm_MD yX9_text cX9_text 2 (some .int) 1 := ⟨mm_in (List.mem_of_getElem? (i := 507) (by decide +kernel)) rfl, mm_in (List.mem_of_getElem? (i := 108) (by decide +kernel)) rfl, by decide +kernel, by decide +kernel, by decide +kernel⟩
theorem mv_X9_text : mm_MV yX9_text := ⟨mm_in (List.mem_of_getElem? (i := 505) (by decide +kernel)) rfl, mm_in (List.mem_of_getElem? (i := 506) (by decide +kernel)) rfl⟩
theorem ml_L_37 : Cond.methodLink RL 37 yX10_text ∈ mm_ws := mm_in (List.mem_of_getElem? (i := 1212) (by decide +kernel)) rfl
theorem md_X10_text : mm_MD yX10_text cX10_text 2 (some .int) 1 := ⟨mm_in (List.mem_of_getElem? (i := 1215) (by decide +kernel)) rfl, mm_in (List.mem_of_getElem? (i := 118) (by decide +kernel)) rfl, by decide +kernel, by decide +kernel, by decide +kernel⟩
theorem mv_X10_text : mm_MV yX10_text := ⟨mm_in (List.mem_of_getElem? (i := 1213) (by decide +kernel)) rfl, mm_in (List.mem_of_getElem? (i := 1214) (by decide +kernel)) rfl⟩
theorem ml_L_38 : Cond.methodLink RL 38 yX9_word ∈ mm_ws := mm_in (List.mem_of_getElem? (i := 547) (by decide +kernel)) rfl
theorem md_X9_word : mm_MD yX9_word cX9_word 1 (some .int) 0 := ⟨mm_in (List.mem_of_getElem? (i := 550) (by decide +kernel)) rfl, mm_in (List.mem_of_getElem? (i := 108) (by decide +kernel)) rfl, by decide +kernel, by decide +kernel, by decide +kernel⟩
theorem mv_X9_word : mm_MV yX9_word := ⟨mm_in (List.mem_of_getElem? (i := 548) (by decide +kernel)) rfl, mm_in (List.mem_of_getElem? (i := 549) (by decide +kernel)) rfl⟩
theorem ml_L_42 : Cond.methodLink RL 42 yX10_word ∈ mm_ws := mm_in (List.mem_of_getElem? (i := 1227) (by decide +kernel)) rfl
theorem md_X10_word : mm_MD yX10_word cX10_word 2 (some .int) 0 := ⟨mm_in (List.mem_of_getElem? (i := 1230) (by decide +kernel)) rfl, mm_in (List.mem_of_getElem? (i := 118) (by decide +kernel)) rfl, by decide +kernel, by decide +kernel, by decide +kernel⟩
theorem mv_X10_word : mm_MV yX10_word := ⟨mm_in (List.mem_of_getElem? (i := 1228) (by decide +kernel)) rfl, mm_in (List.mem_of_getElem? (i := 1229) (by decide +kernel)) rfl⟩
theorem ml_L_43 : Cond.methodLink RL 43 yX9_rule ∈ mm_ws := mm_in (List.mem_of_getElem? (i := 585) (by decide +kernel)) rfl
theorem md_X9_rule : mm_MD yX9_rule cX9_rule 2 (some .int) 1 := ⟨mm_in (List.mem_of_getElem? (i := 588) (by decide +kernel)) rfl, mm_in (List.mem_of_getElem? (i := 108) (by decide +kernel)) rfl, by decide +kernel, by decide +kernel, by decide +kernel⟩
theorem mv_X9_rule : mm_MV yX9_rule := ⟨mm_in (List.mem_of_getElem? (i := 586) (by decide +kernel)) rfl, mm_in (List.mem_of_getElem? (i := 587) (by decide +kernel)) rfl⟩
theorem ml_L_46 : Cond.methodLink RL 46 yX10_rule ∈ mm_ws := mm_in (List.mem_of_getElem? (i := 1469) (by decide +kernel)) rfl
theorem md_X10_rule : mm_MD yX10_rule cX10_rule 2 (some .int) 1 := ⟨mm_in (List.mem_of_getElem? (i := 1472) (by decide +kernel)) rfl, mm_in (List.mem_of_getElem? (i := 118) (by decide +kernel)) rfl, by decide +kernel, by decide +kernel, by decide +kernel⟩
theorem mv_X10_rule : mm_MV yX10_rule := ⟨mm_in (List.mem_of_getElem? (i := 1470) (by decide +kernel)) rfl, mm_in (List.mem_of_getElem? (i := 1471) (by decide +kernel)) rfl⟩
theorem ml_L_56 : Cond.methodLink RL 56 yX9_sign ∈ mm_ws := mm_in (List.mem_of_getElem? (i := 593) (by decide +kernel)) rfl
theorem md_X9_sign : mm_MD yX9_sign cX9_sign 3 (some .int) 2 := ⟨mm_in (List.mem_of_getElem? (i := 596) (by decide +kernel)) rfl, mm_in (List.mem_of_getElem? (i := 108) (by decide +kernel)) rfl, by decide +kernel, by decide +kernel, by decide +kernel⟩
theorem mv_X9_sign : mm_MV yX9_sign := ⟨mm_in (List.mem_of_getElem? (i := 594) (by decide +kernel)) rfl, mm_in (List.mem_of_getElem? (i := 595) (by decide +kernel)) rfl⟩
theorem ml_L_59 : Cond.methodLink RL 59 yX10_sign ∈ mm_ws := mm_in (List.mem_of_getElem? (i := 1481) (by decide +kernel)) rfl
theorem md_X10_sign : mm_MD yX10_sign cX10_sign 3 (some .int) 2 := ⟨mm_in (List.mem_of_getElem? (i := 1484) (by decide +kernel)) rfl, mm_in (List.mem_of_getElem? (i := 118) (by decide +kernel)) rfl, by decide +kernel, by decide +kernel, by decide +kernel⟩
theorem mv_X10_sign : mm_MV yX10_sign := ⟨mm_in (List.mem_of_getElem? (i := 1482) (by decide +kernel)) rfl, mm_in (List.mem_of_getElem? (i := 1483) (by decide +kernel)) rfl⟩
theorem ml_L_60 : Cond.methodLink RL 60 yX9_hit ∈ mm_ws := mm_in (List.mem_of_getElem? (i := 605) (by decide +kernel)) rfl
theorem md_X9_hit : mm_MD yX9_hit cX9_hit 4 (some .int) 2 := ⟨mm_in (List.mem_of_getElem? (i := 608) (by decide +kernel)) rfl, mm_in (List.mem_of_getElem? (i := 108) (by decide +kernel)) rfl, by decide +kernel, by decide +kernel, by decide +kernel⟩
theorem mv_X9_hit : mm_MV yX9_hit := ⟨mm_in (List.mem_of_getElem? (i := 606) (by decide +kernel)) rfl, mm_in (List.mem_of_getElem? (i := 607) (by decide +kernel)) rfl⟩
theorem ml_L_63 : Cond.methodLink RL 63 yX10_hit ∈ mm_ws := mm_in (List.mem_of_getElem? (i := 1492) (by decide +kernel)) rfl
theorem md_X10_hit : mm_MD yX10_hit cX10_hit 3 (some .int) 2 := ⟨mm_in (List.mem_of_getElem? (i := 1495) (by decide +kernel)) rfl, mm_in (List.mem_of_getElem? (i := 118) (by decide +kernel)) rfl, by decide +kernel, by decide +kernel, by decide +kernel⟩
theorem mv_X10_hit : mm_MV yX10_hit := ⟨mm_in (List.mem_of_getElem? (i := 1493) (by decide +kernel)) rfl, mm_in (List.mem_of_getElem? (i := 1494) (by decide +kernel)) rfl⟩
theorem ml_L_64 : Cond.methodLink RL 64 yX9_rank ∈ mm_ws := mm_in (List.mem_of_getElem? (i := 619) (by decide +kernel)) rfl
theorem md_X9_rank : mm_MD yX9_rank cX9_rank 3 (some .int) 2 := ⟨mm_in (List.mem_of_getElem? (i := 622) (by decide +kernel)) rfl, mm_in (List.mem_of_getElem? (i := 108) (by decide +kernel)) rfl, by decide +kernel, by decide +kernel, by decide +kernel⟩
theorem mv_X9_rank : mm_MV yX9_rank := ⟨mm_in (List.mem_of_getElem? (i := 620) (by decide +kernel)) rfl, mm_in (List.mem_of_getElem? (i := 621) (by decide +kernel)) rfl⟩
theorem ml_L_67 : Cond.methodLink RL 67 yX10_rank ∈ mm_ws := mm_in (List.mem_of_getElem? (i := 1496) (by decide +kernel)) rfl
theorem md_X10_rank : mm_MD yX10_rank cX10_rank 5 (some .int) 2 := ⟨mm_in (List.mem_of_getElem? (i := 1499) (by decide +kernel)) rfl, mm_in (List.mem_of_getElem? (i := 118) (by decide +kernel)) rfl, by decide +kernel, by decide +kernel, by decide +kernel⟩
theorem mv_X10_rank : mm_MV yX10_rank := ⟨mm_in (List.mem_of_getElem? (i := 1497) (by decide +kernel)) rfl, mm_in (List.mem_of_getElem? (i := 1498) (by decide +kernel)) rfl⟩
theorem ml_L_68 : Cond.methodLink RL 68 yX9_all ∈ mm_ws := mm_in (List.mem_of_getElem? (i := 627) (by decide +kernel)) rfl
theorem md_X9_all : mm_MD yX9_all cX9_all 4 (some .int) 2 := ⟨mm_in (List.mem_of_getElem? (i := 630) (by decide +kernel)) rfl, mm_in (List.mem_of_getElem? (i := 108) (by decide +kernel)) rfl, by decide +kernel, by decide +kernel, by decide +kernel⟩
theorem mv_X9_all : mm_MV yX9_all := ⟨mm_in (List.mem_of_getElem? (i := 628) (by decide +kernel)) rfl, mm_in (List.mem_of_getElem? (i := 629) (by decide +kernel)) rfl⟩
theorem ml_L_71 : Cond.methodLink RL 71 yX10_all ∈ mm_ws := mm_in (List.mem_of_getElem? (i := 1500) (by decide +kernel)) rfl
theorem md_X10_all : mm_MD yX10_all cX10_all 3 (some .int) 2 := ⟨mm_in (List.mem_of_getElem? (i := 1503) (by decide +kernel)) rfl, mm_in (List.mem_of_getElem? (i := 118) (by decide +kernel)) rfl, by decide +kernel, by decide +kernel, by decide +kernel⟩
theorem mv_X10_all : mm_MV yX10_all := ⟨mm_in (List.mem_of_getElem? (i := 1501) (by decide +kernel)) rfl, mm_in (List.mem_of_getElem? (i := 1502) (by decide +kernel)) rfl⟩
theorem ml_L_72 : Cond.methodLink RL 72 yX9_twice ∈ mm_ws := mm_in (List.mem_of_getElem? (i := 645) (by decide +kernel)) rfl
theorem md_X9_twice : mm_MD yX9_twice cX9_twice 4 (some .int) 1 := ⟨mm_in (List.mem_of_getElem? (i := 648) (by decide +kernel)) rfl, mm_in (List.mem_of_getElem? (i := 108) (by decide +kernel)) rfl, by decide +kernel, by decide +kernel, by decide +kernel⟩
theorem mv_X9_twice : mm_MV yX9_twice := ⟨mm_in (List.mem_of_getElem? (i := 646) (by decide +kernel)) rfl, mm_in (List.mem_of_getElem? (i := 647) (by decide +kernel)) rfl⟩
theorem ml_L_75 : Cond.methodLink RL 75 yX10_twice ∈ mm_ws := mm_in (List.mem_of_getElem? (i := 1512) (by decide +kernel)) rfl
theorem ml_L_76 : Cond.methodLink RL 76 yX9_unlike ∈ mm_ws := mm_in (List.mem_of_getElem? (i := 654) (by decide +kernel)) rfl
theorem md_X9_unlike : mm_MD yX9_unlike cX9_unlike 5 (some .int) 1 := ⟨mm_in (List.mem_of_getElem? (i := 657) (by decide +kernel)) rfl, mm_in (List.mem_of_getElem? (i := 108) (by decide +kernel)) rfl, by decide +kernel, by decide +kernel, by decide +kernel⟩
theorem mv_X9_unlike : mm_MV yX9_unlike := ⟨mm_in (List.mem_of_getElem? (i := 655) (by decide +kernel)) rfl, mm_in (List.mem_of_getElem? (i := 656) (by decide +kernel)) rfl⟩
theorem ml_L_79 : Cond.methodLink RL 79 yX10_unlike ∈ mm_ws := mm_in (List.mem_of_getElem? (i := 1520) (by decide +kernel)) rfl
theorem md_X10_unlike : mm_MD yX10_unlike cX10_unlike 5 (some .int) 1 := ⟨mm_in (List.mem_of_getElem? (i := 1523) (by decide +kernel)) rfl, mm_in (List.mem_of_getElem? (i := 118) (by decide +kernel)) rfl, by decide +kernel, by decide +kernel, by decide +kernel⟩
theorem mv_X10_unlike : mm_MV yX10_unlike := ⟨mm_in (List.mem_of_getElem? (i := 1521) (by decide +kernel)) rfl, mm_in (List.mem_of_getElem? (i := 1522) (by decide +kernel)) rfl⟩
theorem ml_L_80 : Cond.methodLink RL 80 yX9_frequent ∈ mm_ws := mm_in (List.mem_of_getElem? (i := 663) (by decide +kernel)) rfl
theorem md_X9_frequent : mm_MD yX9_frequent cX9_frequent 5 (some .int) 2 := ⟨mm_in (List.mem_of_getElem? (i := 666) (by decide +kernel)) rfl, mm_in (List.mem_of_getElem? (i := 108) (by decide +kernel)) rfl, by decide +kernel, by decide +kernel, by decide +kernel⟩
theorem mv_X9_frequent : mm_MV yX9_frequent := ⟨mm_in (List.mem_of_getElem? (i := 664) (by decide +kernel)) rfl, mm_in (List.mem_of_getElem? (i := 665) (by decide +kernel)) rfl⟩
theorem ml_L_83 : Cond.methodLink RL 83 yX10_frequent ∈ mm_ws := mm_in (List.mem_of_getElem? (i := 1528) (by decide +kernel)) rfl
theorem md_X10_frequent : mm_MD yX10_frequent cX10_frequent 3 (some .int) 2 := ⟨mm_in (List.mem_of_getElem? (i := 1531) (by decide +kernel)) rfl, mm_in (List.mem_of_getElem? (i := 118) (by decide +kernel)) rfl, by decide +kernel, by decide +kernel, by decide +kernel⟩
theorem mv_X10_frequent : mm_MV yX10_frequent := ⟨mm_in (List.mem_of_getElem? (i := 1529) (by decide +kernel)) rfl, mm_in (List.mem_of_getElem? (i := 1530) (by decide +kernel)) rfl⟩
theorem ml_L_84 : Cond.methodLink RL 84 yX9_few ∈ mm_ws := mm_in (List.mem_of_getElem? (i := 677) (by decide +kernel)) rfl
theorem md_X9_few : mm_MD yX9_few cX9_few 6 (some .int) 2 := ⟨mm_in (List.mem_of_getElem? (i := 680) (by decide +kernel)) rfl, mm_in (List.mem_of_getElem? (i := 108) (by decide +kernel)) rfl, by decide +kernel, by decide +kernel, by decide +kernel⟩
theorem mv_X9_few : mm_MV yX9_few := ⟨mm_in (List.mem_of_getElem? (i := 678) (by decide +kernel)) rfl, mm_in (List.mem_of_getElem? (i := 679) (by decide +kernel)) rfl⟩
theorem ml_L_87 : Cond.methodLink RL 87 yX10_few ∈ mm_ws := mm_in (List.mem_of_getElem? (i := 1536) (by decide +kernel)) rfl
theorem md_X10_few : mm_MD yX10_few cX10_few 4 (some .int) 2 := ⟨mm_in (List.mem_of_getElem? (i := 1539) (by decide +kernel)) rfl, mm_in (List.mem_of_getElem? (i := 118) (by decide +kernel)) rfl, by decide +kernel, by decide +kernel, by decide +kernel⟩
theorem mv_X10_few : mm_MV yX10_few := ⟨mm_in (List.mem_of_getElem? (i := 1537) (by decide +kernel)) rfl, mm_in (List.mem_of_getElem? (i := 1538) (by decide +kernel)) rfl⟩
theorem ml_L_88 : Cond.methodLink RL 88 yX9_beside ∈ mm_ws := mm_in (List.mem_of_getElem? (i := 684) (by decide +kernel)) rfl
theorem md_X9_beside : mm_MD yX9_beside cX9_beside 8 (some .int) 2 := ⟨mm_in (List.mem_of_getElem? (i := 687) (by decide +kernel)) rfl, mm_in (List.mem_of_getElem? (i := 108) (by decide +kernel)) rfl, by decide +kernel, by decide +kernel, by decide +kernel⟩
theorem mv_X9_beside : mm_MV yX9_beside := ⟨mm_in (List.mem_of_getElem? (i := 685) (by decide +kernel)) rfl, mm_in (List.mem_of_getElem? (i := 686) (by decide +kernel)) rfl⟩
theorem ml_L_92 : Cond.methodLink RL 92 yX10_beside ∈ mm_ws := mm_in (List.mem_of_getElem? (i := 1544) (by decide +kernel)) rfl
theorem md_X10_beside : mm_MD yX10_beside cX10_beside 6 (some .int) 2 := ⟨mm_in (List.mem_of_getElem? (i := 1547) (by decide +kernel)) rfl, mm_in (List.mem_of_getElem? (i := 118) (by decide +kernel)) rfl, by decide +kernel, by decide +kernel, by decide +kernel⟩
theorem mv_X10_beside : mm_MV yX10_beside := ⟨mm_in (List.mem_of_getElem? (i := 1545) (by decide +kernel)) rfl, mm_in (List.mem_of_getElem? (i := 1546) (by decide +kernel)) rfl⟩
theorem ml_L_93 : Cond.methodLink RL 93 yX9_set ∈ mm_ws := mm_in (List.mem_of_getElem? (i := 691) (by decide +kernel)) rfl
theorem md_X9_set : mm_MD yX9_set cX9_set 2 (some .int) 1 := ⟨mm_in (List.mem_of_getElem? (i := 694) (by decide +kernel)) rfl, mm_in (List.mem_of_getElem? (i := 108) (by decide +kernel)) rfl, by decide +kernel, by decide +kernel, by decide +kernel⟩
theorem mv_X9_set : mm_MV yX9_set := ⟨mm_in (List.mem_of_getElem? (i := 692) (by decide +kernel)) rfl, mm_in (List.mem_of_getElem? (i := 693) (by decide +kernel)) rfl⟩
theorem ml_L_96 : Cond.methodLink RL 96 yX10_set ∈ mm_ws := mm_in (List.mem_of_getElem? (i := 1274) (by decide +kernel)) rfl
theorem md_X10_set : mm_MD yX10_set cX10_set 2 (some .int) 1 := ⟨mm_in (List.mem_of_getElem? (i := 1277) (by decide +kernel)) rfl, mm_in (List.mem_of_getElem? (i := 118) (by decide +kernel)) rfl, by decide +kernel, by decide +kernel, by decide +kernel⟩
theorem mv_X10_set : mm_MV yX10_set := ⟨mm_in (List.mem_of_getElem? (i := 1275) (by decide +kernel)) rfl, mm_in (List.mem_of_getElem? (i := 1276) (by decide +kernel)) rfl⟩
theorem ml_L_97 : Cond.methodLink RL 97 yX9_put ∈ mm_ws := mm_in (List.mem_of_getElem? (i := 806) (by decide +kernel)) rfl
theorem md_X9_put : mm_MD yX9_put cX9_put 2 (some .int) 1 := ⟨mm_in (List.mem_of_getElem? (i := 809) (by decide +kernel)) rfl, mm_in (List.mem_of_getElem? (i := 108) (by decide +kernel)) rfl, by decide +kernel, by decide +kernel, by decide +kernel⟩
theorem mv_X9_put : mm_MV yX9_put := ⟨mm_in (List.mem_of_getElem? (i := 807) (by decide +kernel)) rfl, mm_in (List.mem_of_getElem? (i := 808) (by decide +kernel)) rfl⟩
theorem ml_L_100 : Cond.methodLink RL 100 yX10_put ∈ mm_ws := mm_in (List.mem_of_getElem? (i := 1403) (by decide +kernel)) rfl
theorem md_X10_put : mm_MD yX10_put cX10_put 2 (some .int) 1 := ⟨mm_in (List.mem_of_getElem? (i := 1406) (by decide +kernel)) rfl, mm_in (List.mem_of_getElem? (i := 118) (by decide +kernel)) rfl, by decide +kernel, by decide +kernel, by decide +kernel⟩
theorem mv_X10_put : mm_MV yX10_put := ⟨mm_in (List.mem_of_getElem? (i := 1404) (by decide +kernel)) rfl, mm_in (List.mem_of_getElem? (i := 1405) (by decide +kernel)) rfl⟩
theorem ml_L_101 : Cond.methodLink RL 101 yX9_take ∈ mm_ws := mm_in (List.mem_of_getElem? (i := 810) (by decide +kernel)) rfl
theorem md_X9_take : mm_MD yX9_take cX9_take 2 (some .int) 1 := ⟨mm_in (List.mem_of_getElem? (i := 813) (by decide +kernel)) rfl, mm_in (List.mem_of_getElem? (i := 108) (by decide +kernel)) rfl, by decide +kernel, by decide +kernel, by decide +kernel⟩
theorem mv_X9_take : mm_MV yX9_take := ⟨mm_in (List.mem_of_getElem? (i := 811) (by decide +kernel)) rfl, mm_in (List.mem_of_getElem? (i := 812) (by decide +kernel)) rfl⟩
theorem ml_L_104 : Cond.methodLink RL 104 yX10_take ∈ mm_ws := mm_in (List.mem_of_getElem? (i := 1407) (by decide +kernel)) rfl
theorem md_X10_take : mm_MD yX10_take cX10_take 2 (some .int) 1 := ⟨mm_in (List.mem_of_getElem? (i := 1410) (by decide +kernel)) rfl, mm_in (List.mem_of_getElem? (i := 118) (by decide +kernel)) rfl, by decide +kernel, by decide +kernel, by decide +kernel⟩
theorem mv_X10_take : mm_MV yX10_take := ⟨mm_in (List.mem_of_getElem? (i := 1408) (by decide +kernel)) rfl, mm_in (List.mem_of_getElem? (i := 1409) (by decide +kernel)) rfl⟩
theorem ml_L_105 : Cond.methodLink RL 105 yX9_swap ∈ mm_ws := mm_in (List.mem_of_getElem? (i := 814) (by decide +kernel)) rfl
theorem md_X9_swap : mm_MD yX9_swap cX9_swap 3 (some .int) 2 := ⟨mm_in (List.mem_of_getElem? (i := 817) (by decide +kernel)) rfl, mm_in (List.mem_of_getElem? (i := 108) (by decide +kernel)) rfl, by decide +kernel, by decide +kernel, by decide +kernel⟩
theorem mv_X9_swap : mm_MV yX9_swap := ⟨mm_in (List.mem_of_getElem? (i := 815) (by decide +kernel)) rfl, mm_in (List.mem_of_getElem? (i := 816) (by decide +kernel)) rfl⟩
theorem ml_L_108 : Cond.methodLink RL 108 yX10_swap ∈ mm_ws := mm_in (List.mem_of_getElem? (i := 1411) (by decide +kernel)) rfl
theorem md_X10_swap : mm_MD yX10_swap cX10_swap 3 (some .int) 2 := ⟨mm_in (List.mem_of_getElem? (i := 1414) (by decide +kernel)) rfl, mm_in (List.mem_of_getElem? (i := 118) (by decide +kernel)) rfl, by decide +kernel, by decide +kernel, by decide +kernel⟩
theorem mv_X10_swap : mm_MV yX10_swap := ⟨mm_in (List.mem_of_getElem? (i := 1412) (by decide +kernel)) rfl, mm_in (List.mem_of_getElem? (i := 1413) (by decide +kernel)) rfl⟩
theorem ml_L_109 : Cond.methodLink RL 109 yX9_lay ∈ mm_ws := mm_in (List.mem_of_getElem? (i := 818) (by decide +kernel)) rfl
theorem md_X9_lay : mm_MD yX9_lay cX9_lay 3 (some .int) 2 := ⟨mm_in (List.mem_of_getElem? (i := 821) (by decide +kernel)) rfl, mm_in (List.mem_of_getElem? (i := 108) (by decide +kernel)) rfl, by decide +kernel, by decide +kernel, by decide +kernel⟩
theorem mv_X9_lay : mm_MV yX9_lay := ⟨mm_in (List.mem_of_getElem? (i := 819) (by decide +kernel)) rfl, mm_in (List.mem_of_getElem? (i := 820) (by decide +kernel)) rfl⟩
theorem ml_L_112 : Cond.methodLink RL 112 yX10_lay ∈ mm_ws := mm_in (List.mem_of_getElem? (i := 1415) (by decide +kernel)) rfl
theorem md_X10_lay : mm_MD yX10_lay cX10_lay 3 (some .int) 2 := ⟨mm_in (List.mem_of_getElem? (i := 1418) (by decide +kernel)) rfl, mm_in (List.mem_of_getElem? (i := 118) (by decide +kernel)) rfl, by decide +kernel, by decide +kernel, by decide +kernel⟩
theorem mv_X10_lay : mm_MV yX10_lay := ⟨mm_in (List.mem_of_getElem? (i := 1416) (by decide +kernel)) rfl, mm_in (List.mem_of_getElem? (i := 1417) (by decide +kernel)) rfl⟩
theorem ml_L_113 : Cond.methodLink RL 113 yX9_page ∈ mm_ws := mm_in (List.mem_of_getElem? (i := 822) (by decide +kernel)) rfl
theorem md_X9_page : mm_MD yX9_page cX9_page 2 (some .int) 1 := ⟨mm_in (List.mem_of_getElem? (i := 825) (by decide +kernel)) rfl, mm_in (List.mem_of_getElem? (i := 108) (by decide +kernel)) rfl, by decide +kernel, by decide +kernel, by decide +kernel⟩
theorem mv_X9_page : mm_MV yX9_page := ⟨mm_in (List.mem_of_getElem? (i := 823) (by decide +kernel)) rfl, mm_in (List.mem_of_getElem? (i := 824) (by decide +kernel)) rfl⟩
theorem ml_L_116 : Cond.methodLink RL 116 yX10_page ∈ mm_ws := mm_in (List.mem_of_getElem? (i := 1419) (by decide +kernel)) rfl
theorem md_X10_page : mm_MD yX10_page cX10_page 2 (some .int) 1 := ⟨mm_in (List.mem_of_getElem? (i := 1422) (by decide +kernel)) rfl, mm_in (List.mem_of_getElem? (i := 118) (by decide +kernel)) rfl, by decide +kernel, by decide +kernel, by decide +kernel⟩
theorem mv_X10_page : mm_MV yX10_page := ⟨mm_in (List.mem_of_getElem? (i := 1420) (by decide +kernel)) rfl, mm_in (List.mem_of_getElem? (i := 1421) (by decide +kernel)) rfl⟩
theorem ml_L_117 : Cond.methodLink RL 117 yX9_rewind ∈ mm_ws := mm_in (List.mem_of_getElem? (i := 826) (by decide +kernel)) rfl
theorem md_X9_rewind : mm_MD yX9_rewind cX9_rewind 2 (some .int) 1 := ⟨mm_in (List.mem_of_getElem? (i := 829) (by decide +kernel)) rfl, mm_in (List.mem_of_getElem? (i := 108) (by decide +kernel)) rfl, by decide +kernel, by decide +kernel, by decide +kernel⟩
theorem mv_X9_rewind : mm_MV yX9_rewind := ⟨mm_in (List.mem_of_getElem? (i := 827) (by decide +kernel)) rfl, mm_in (List.mem_of_getElem? (i := 828) (by decide +kernel)) rfl⟩
theorem ml_L_120 : Cond.methodLink RL 120 yX10_rewind ∈ mm_ws := mm_in (List.mem_of_getElem? (i := 1423) (by decide +kernel)) rfl
theorem md_X10_rewind : mm_MD yX10_rewind cX10_rewind 2 (some .int) 1 := ⟨mm_in (List.mem_of_getElem? (i := 1426) (by decide +kernel)) rfl, mm_in (List.mem_of_getElem? (i := 118) (by decide +kernel)) rfl, by decide +kernel, by decide +kernel, by decide +kernel⟩
theorem mv_X10_rewind : mm_MV yX10_rewind := ⟨mm_in (List.mem_of_getElem? (i := 1424) (by decide +kernel)) rfl, mm_in (List.mem_of_getElem? (i := 1425) (by decide +kernel)) rfl⟩
theorem ml_L_121 : Cond.methodLink RL 121 yX9_cursor ∈ mm_ws := mm_in (List.mem_of_getElem? (i := 830) (by decide +kernel)) rfl
theorem md_X9_cursor : mm_MD yX9_cursor cX9_cursor 4 (some .int) 2 := ⟨mm_in (List.mem_of_getElem? (i := 833) (by decide +kernel)) rfl, mm_in (List.mem_of_getElem? (i := 108) (by decide +kernel)) rfl, by decide +kernel, by decide +kernel, by decide +kernel⟩
theorem mv_X9_cursor : mm_MV yX9_cursor := ⟨mm_in (List.mem_of_getElem? (i := 831) (by decide +kernel)) rfl, mm_in (List.mem_of_getElem? (i := 832) (by decide +kernel)) rfl⟩
theorem ml_L_124 : Cond.methodLink RL 124 yX10_cursor ∈ mm_ws := mm_in (List.mem_of_getElem? (i := 1548) (by decide +kernel)) rfl
theorem md_X10_cursor : mm_MD yX10_cursor cX10_cursor 4 (some .int) 2 := ⟨mm_in (List.mem_of_getElem? (i := 1551) (by decide +kernel)) rfl, mm_in (List.mem_of_getElem? (i := 118) (by decide +kernel)) rfl, by decide +kernel, by decide +kernel, by decide +kernel⟩
theorem mv_X10_cursor : mm_MV yX10_cursor := ⟨mm_in (List.mem_of_getElem? (i := 1549) (by decide +kernel)) rfl, mm_in (List.mem_of_getElem? (i := 1550) (by decide +kernel)) rfl⟩
theorem ml_L_125 : Cond.methodLink RL 125 yX9_told ∈ mm_ws := mm_in (List.mem_of_getElem? (i := 836) (by decide +kernel)) rfl
theorem md_X9_told : mm_MD yX9_told cX9_told 4 (some .int) 3 := ⟨mm_in (List.mem_of_getElem? (i := 839) (by decide +kernel)) rfl, mm_in (List.mem_of_getElem? (i := 108) (by decide +kernel)) rfl, by decide +kernel, by decide +kernel, by decide +kernel⟩
theorem mv_X9_told : mm_MV yX9_told := ⟨mm_in (List.mem_of_getElem? (i := 837) (by decide +kernel)) rfl, mm_in (List.mem_of_getElem? (i := 838) (by decide +kernel)) rfl⟩
theorem ml_L_129 : Cond.methodLink RL 129 yX10_told ∈ mm_ws := mm_in (List.mem_of_getElem? (i := 1552) (by decide +kernel)) rfl
theorem md_X10_told : mm_MD yX10_told cX10_told 4 (some .int) 3 := ⟨mm_in (List.mem_of_getElem? (i := 1555) (by decide +kernel)) rfl, mm_in (List.mem_of_getElem? (i := 118) (by decide +kernel)) rfl, by decide +kernel, by decide +kernel, by decide +kernel⟩
theorem mv_X10_told : mm_MV yX10_told := ⟨mm_in (List.mem_of_getElem? (i := 1553) (by decide +kernel)) rfl, mm_in (List.mem_of_getElem? (i := 1554) (by decide +kernel)) rfl⟩
theorem ml_L_130 : Cond.methodLink RL 130 yX9_split ∈ mm_ws := mm_in (List.mem_of_getElem? (i := 840) (by decide +kernel)) rfl
theorem md_X9_split : mm_MD yX9_split cX9_split 3 (some .int) 2 := ⟨mm_in (List.mem_of_getElem? (i := 843) (by decide +kernel)) rfl, mm_in (List.mem_of_getElem? (i := 108) (by decide +kernel)) rfl, by decide +kernel, by decide +kernel, by decide +kernel⟩
theorem mv_X9_split : mm_MV yX9_split := ⟨mm_in (List.mem_of_getElem? (i := 841) (by decide +kernel)) rfl, mm_in (List.mem_of_getElem? (i := 842) (by decide +kernel)) rfl⟩
theorem ml_L_133 : Cond.methodLink RL 133 yX10_split ∈ mm_ws := mm_in (List.mem_of_getElem? (i := 1427) (by decide +kernel)) rfl
theorem md_X10_split : mm_MD yX10_split cX10_split 3 (some .int) 2 := ⟨mm_in (List.mem_of_getElem? (i := 1430) (by decide +kernel)) rfl, mm_in (List.mem_of_getElem? (i := 118) (by decide +kernel)) rfl, by decide +kernel, by decide +kernel, by decide +kernel⟩
theorem mv_X10_split : mm_MV yX10_split := ⟨mm_in (List.mem_of_getElem? (i := 1428) (by decide +kernel)) rfl, mm_in (List.mem_of_getElem? (i := 1429) (by decide +kernel)) rfl⟩
theorem ml_L_134 : Cond.methodLink RL 134 yX9_join ∈ mm_ws := mm_in (List.mem_of_getElem? (i := 844) (by decide +kernel)) rfl
theorem md_X9_join : mm_MD yX9_join cX9_join 2 (some .int) 1 := ⟨mm_in (List.mem_of_getElem? (i := 847) (by decide +kernel)) rfl, mm_in (List.mem_of_getElem? (i := 108) (by decide +kernel)) rfl, by decide +kernel, by decide +kernel, by decide +kernel⟩
theorem mv_X9_join : mm_MV yX9_join := ⟨mm_in (List.mem_of_getElem? (i := 845) (by decide +kernel)) rfl, mm_in (List.mem_of_getElem? (i := 846) (by decide +kernel)) rfl⟩
theorem ml_L_137 : Cond.methodLink RL 137 yX10_join ∈ mm_ws := mm_in (List.mem_of_getElem? (i := 1431) (by decide +kernel)) rfl
theorem md_X10_join : mm_MD yX10_join cX10_join 2 (some .int) 1 := ⟨mm_in (List.mem_of_getElem? (i := 1434) (by decide +kernel)) rfl, mm_in (List.mem_of_getElem? (i := 118) (by decide +kernel)) rfl, by decide +kernel, by decide +kernel, by decide +kernel⟩
theorem mv_X10_join : mm_MV yX10_join := ⟨mm_in (List.mem_of_getElem? (i := 1432) (by decide +kernel)) rfl, mm_in (List.mem_of_getElem? (i := 1433) (by decide +kernel)) rfl⟩
theorem ml_L_140 : Cond.methodLink RL 140 yX9_ways ∈ mm_ws := mm_in (List.mem_of_getElem? (i := 848) (by decide +kernel)) rfl
theorem md_X9_ways : mm_MD yX9_ways cX9_ways 5 (some .int) 2 := ⟨mm_in (List.mem_of_getElem? (i := 851) (by decide +kernel)) rfl, mm_in (List.mem_of_getElem? (i := 108) (by decide +kernel)) rfl, by decide +kernel, by decide +kernel, by decide +kernel⟩
theorem mv_X9_ways : mm_MV yX9_ways := ⟨mm_in (List.mem_of_getElem? (i := 849) (by decide +kernel)) rfl, mm_in (List.mem_of_getElem? (i := 850) (by decide +kernel)) rfl⟩
theorem ml_L_144 : Cond.methodLink RL 144 yX10_ways ∈ mm_ws := mm_in (List.mem_of_getElem? (i := 1435) (by decide +kernel)) rfl
theorem md_X10_ways : mm_MD yX10_ways cX10_ways 5 (some .int) 2 := ⟨mm_in (List.mem_of_getElem? (i := 1438) (by decide +kernel)) rfl, mm_in (List.mem_of_getElem? (i := 118) (by decide +kernel)) rfl, by decide +kernel, by decide +kernel, by decide +kernel⟩
theorem mv_X10_ways : mm_MV yX10_ways := ⟨mm_in (List.mem_of_getElem? (i := 1436) (by decide +kernel)) rfl, mm_in (List.mem_of_getElem? (i := 1437) (by decide +kernel)) rfl⟩
theorem ml_L_145 : Cond.methodLink RL 145 yX9_status ∈ mm_ws := mm_in (List.mem_of_getElem? (i := 869) (by decide +kernel)) rfl
theorem md_X9_status : mm_MD yX9_status cX9_status 2 (some .int) 1 := ⟨mm_in (List.mem_of_getElem? (i := 872) (by decide +kernel)) rfl, mm_in (List.mem_of_getElem? (i := 108) (by decide +kernel)) rfl, by decide +kernel, by decide +kernel, by decide +kernel⟩
theorem mv_X9_status : mm_MV yX9_status := ⟨mm_in (List.mem_of_getElem? (i := 870) (by decide +kernel)) rfl, mm_in (List.mem_of_getElem? (i := 871) (by decide +kernel)) rfl⟩
theorem ml_L_148 : Cond.methodLink RL 148 yX10_status ∈ mm_ws := mm_in (List.mem_of_getElem? (i := 1457) (by decide +kernel)) rfl
theorem md_X10_status : mm_MD yX10_status cX10_status 2 (some .int) 1 := ⟨mm_in (List.mem_of_getElem? (i := 1460) (by decide +kernel)) rfl, mm_in (List.mem_of_getElem? (i := 118) (by decide +kernel)) rfl, by decide +kernel, by decide +kernel, by decide +kernel⟩
theorem mv_X10_status : mm_MV yX10_status := ⟨mm_in (List.mem_of_getElem? (i := 1458) (by decide +kernel)) rfl, mm_in (List.mem_of_getElem? (i := 1459) (by decide +kernel)) rfl⟩
theorem ml_L_149 : Cond.methodLink RL 149 yX9_undo ∈ mm_ws := mm_in (List.mem_of_getElem? (i := 873) (by decide +kernel)) rfl
theorem md_X9_undo : mm_MD yX9_undo cX9_undo 1 (some .int) 0 := ⟨mm_in (List.mem_of_getElem? (i := 876) (by decide +kernel)) rfl, mm_in (List.mem_of_getElem? (i := 108) (by decide +kernel)) rfl, by decide +kernel, by decide +kernel, by decide +kernel⟩
theorem mv_X9_undo : mm_MV yX9_undo := ⟨mm_in (List.mem_of_getElem? (i := 874) (by decide +kernel)) rfl, mm_in (List.mem_of_getElem? (i := 875) (by decide +kernel)) rfl⟩
theorem ml_L_152 : Cond.methodLink RL 152 yX10_undo ∈ mm_ws := mm_in (List.mem_of_getElem? (i := 1461) (by decide +kernel)) rfl
theorem md_X10_undo : mm_MD yX10_undo cX10_undo 2 (some .int) 0 := ⟨mm_in (List.mem_of_getElem? (i := 1464) (by decide +kernel)) rfl, mm_in (List.mem_of_getElem? (i := 118) (by decide +kernel)) rfl, by decide +kernel, by decide +kernel, by decide +kernel⟩
theorem mv_X10_undo : mm_MV yX10_undo := ⟨mm_in (List.mem_of_getElem? (i := 1462) (by decide +kernel)) rfl, mm_in (List.mem_of_getElem? (i := 1463) (by decide +kernel)) rfl⟩
theorem ml_L_153 : Cond.methodLink RL 153 yX9_log ∈ mm_ws := mm_in (List.mem_of_getElem? (i := 877) (by decide +kernel)) rfl
theorem md_X9_log : mm_MD yX9_log cX9_log 3 (some .int) 2 := ⟨mm_in (List.mem_of_getElem? (i := 880) (by decide +kernel)) rfl, mm_in (List.mem_of_getElem? (i := 108) (by decide +kernel)) rfl, by decide +kernel, by decide +kernel, by decide +kernel⟩
theorem mv_X9_log : mm_MV yX9_log := ⟨mm_in (List.mem_of_getElem? (i := 878) (by decide +kernel)) rfl, mm_in (List.mem_of_getElem? (i := 879) (by decide +kernel)) rfl⟩
theorem ml_L_156 : Cond.methodLink RL 156 yX10_log ∈ mm_ws := mm_in (List.mem_of_getElem? (i := 1465) (by decide +kernel)) rfl
theorem md_X10_log : mm_MD yX10_log cX10_log 3 (some .int) 2 := ⟨mm_in (List.mem_of_getElem? (i := 1468) (by decide +kernel)) rfl, mm_in (List.mem_of_getElem? (i := 118) (by decide +kernel)) rfl, by decide +kernel, by decide +kernel, by decide +kernel⟩
theorem mv_X10_log : mm_MV yX10_log := ⟨mm_in (List.mem_of_getElem? (i := 1466) (by decide +kernel)) rfl, mm_in (List.mem_of_getElem? (i := 1467) (by decide +kernel)) rfl⟩
theorem ml_L_157 : Cond.methodLink RL 157 yX9_spell ∈ mm_ws := mm_in (List.mem_of_getElem? (i := 891) (by decide +kernel)) rfl
theorem md_X9_spell : mm_MD yX9_spell cX9_spell 11 (some .int) 2 := ⟨mm_in (List.mem_of_getElem? (i := 894) (by decide +kernel)) rfl, mm_in (List.mem_of_getElem? (i := 108) (by decide +kernel)) rfl, by decide +kernel, by decide +kernel, by decide +kernel⟩
theorem mv_X9_spell : mm_MV yX9_spell := ⟨mm_in (List.mem_of_getElem? (i := 892) (by decide +kernel)) rfl, mm_in (List.mem_of_getElem? (i := 893) (by decide +kernel)) rfl⟩
theorem ml_L_160 : Cond.methodLink RL 160 yX10_spell ∈ mm_ws := mm_in (List.mem_of_getElem? (i := 1556) (by decide +kernel)) rfl
theorem md_X10_spell : mm_MD yX10_spell cX10_spell 6 (some .int) 2 := ⟨mm_in (List.mem_of_getElem? (i := 1559) (by decide +kernel)) rfl, mm_in (List.mem_of_getElem? (i := 118) (by decide +kernel)) rfl, by decide +kernel, by decide +kernel, by decide +kernel⟩
theorem mv_X10_spell : mm_MV yX10_spell := ⟨mm_in (List.mem_of_getElem? (i := 1557) (by decide +kernel)) rfl, mm_in (List.mem_of_getElem? (i := 1558) (by decide +kernel)) rfl⟩
theorem ml_L_161 : Cond.methodLink RL 161 yX9_would ∈ mm_ws := mm_in (List.mem_of_getElem? (i := 895) (by decide +kernel)) rfl
theorem md_X9_would : mm_MD yX9_would cX9_would 2 (some .int) 1 := ⟨mm_in (List.mem_of_getElem? (i := 898) (by decide +kernel)) rfl, mm_in (List.mem_of_getElem? (i := 108) (by decide +kernel)) rfl, by decide +kernel, by decide +kernel, by decide +kernel⟩
theorem mv_X9_would : mm_MV yX9_would := ⟨mm_in (List.mem_of_getElem? (i := 896) (by decide +kernel)) rfl, mm_in (List.mem_of_getElem? (i := 897) (by decide +kernel)) rfl⟩
theorem ml_L_164 : Cond.methodLink RL 164 yX10_would ∈ mm_ws := mm_in (List.mem_of_getElem? (i := 1564) (by decide +kernel)) rfl
theorem md_X10_would : mm_MD yX10_would cX10_would 2 (some .int) 1 := ⟨mm_in (List.mem_of_getElem? (i := 1567) (by decide +kernel)) rfl, mm_in (List.mem_of_getElem? (i := 118) (by decide +kernel)) rfl, by decide +kernel, by decide +kernel, by decide +kernel⟩
theorem mv_X10_would : mm_MV yX10_would := ⟨mm_in (List.mem_of_getElem? (i := 1565) (by decide +kernel)) rfl, mm_in (List.mem_of_getElem? (i := 1566) (by decide +kernel)) rfl⟩
theorem ml_L_165 : Cond.methodLink RL 165 yX9_step ∈ mm_ws := mm_in (List.mem_of_getElem? (i := 901) (by decide +kernel)) rfl
theorem md_X9_step : mm_MD yX9_step cX9_step 5 (some .int) 3 := ⟨mm_in (List.mem_of_getElem? (i := 904) (by decide +kernel)) rfl, mm_in (List.mem_of_getElem? (i := 108) (by decide +kernel)) rfl, by decide +kernel, by decide +kernel, by decide +kernel⟩
theorem mv_X9_step : mm_MV yX9_step := ⟨mm_in (List.mem_of_getElem? (i := 902) (by decide +kernel)) rfl, mm_in (List.mem_of_getElem? (i := 903) (by decide +kernel)) rfl⟩
theorem ml_L_168 : Cond.methodLink RL 168 yX10_step ∈ mm_ws := mm_in (List.mem_of_getElem? (i := 1576) (by decide +kernel)) rfl
theorem md_X10_step : mm_MD yX10_step cX10_step 4 (some .int) 3 := ⟨mm_in (List.mem_of_getElem? (i := 1579) (by decide +kernel)) rfl, mm_in (List.mem_of_getElem? (i := 118) (by decide +kernel)) rfl, by decide +kernel, by decide +kernel, by decide +kernel⟩
theorem mv_X10_step : mm_MV yX10_step := ⟨mm_in (List.mem_of_getElem? (i := 1577) (by decide +kernel)) rfl, mm_in (List.mem_of_getElem? (i := 1578) (by decide +kernel)) rfl⟩
theorem ml_L_169 : Cond.methodLink RL 169 yX9_run ∈ mm_ws := mm_in (List.mem_of_getElem? (i := 909) (by decide +kernel)) rfl
theorem md_X9_run : mm_MD yX9_run cX9_run 5 (some .int) 2 := ⟨mm_in (List.mem_of_getElem? (i := 912) (by decide +kernel)) rfl, mm_in (List.mem_of_getElem? (i := 108) (by decide +kernel)) rfl, by decide +kernel, by decide +kernel, by decide +kernel⟩
theorem mv_X9_run : mm_MV yX9_run := ⟨mm_in (List.mem_of_getElem? (i := 910) (by decide +kernel)) rfl, mm_in (List.mem_of_getElem? (i := 911) (by decide +kernel)) rfl⟩
theorem ml_L_172 : Cond.methodLink RL 172 yX10_run ∈ mm_ws := mm_in (List.mem_of_getElem? (i := 1584) (by decide +kernel)) rfl
theorem md_X10_run : mm_MD yX10_run cX10_run 5 (some .int) 2 := ⟨mm_in (List.mem_of_getElem? (i := 1587) (by decide +kernel)) rfl, mm_in (List.mem_of_getElem? (i := 118) (by decide +kernel)) rfl, by decide +kernel, by decide +kernel, by decide +kernel⟩
theorem mv_X10_run : mm_MV yX10_run := ⟨mm_in (List.mem_of_getElem? (i := 1585) (by decide +kernel)) rfl, mm_in (List.mem_of_getElem? (i := 1586) (by decide +kernel)) rfl⟩
theorem ml_L_173 : Cond.methodLink RL 173 yX9_perform ∈ mm_ws := mm_in (List.mem_of_getElem? (i := 913) (by decide +kernel)) rfl
theorem md_X9_perform : mm_MD yX9_perform cX9_perform 4 (some .int) 1 := ⟨mm_in (List.mem_of_getElem? (i := 916) (by decide +kernel)) rfl, mm_in (List.mem_of_getElem? (i := 108) (by decide +kernel)) rfl, by decide +kernel, by decide +kernel, by decide +kernel⟩
theorem mv_X9_perform : mm_MV yX9_perform := ⟨mm_in (List.mem_of_getElem? (i := 914) (by decide +kernel)) rfl, mm_in (List.mem_of_getElem? (i := 915) (by decide +kernel)) rfl⟩
theorem ml_L_176 : Cond.methodLink RL 176 yX10_perform ∈ mm_ws := mm_in (List.mem_of_getElem? (i := 1592) (by decide +kernel)) rfl
theorem md_X10_perform : mm_MD yX10_perform cX10_perform 2 (some .int) 1 := ⟨mm_in (List.mem_of_getElem? (i := 1595) (by decide +kernel)) rfl, mm_in (List.mem_of_getElem? (i := 118) (by decide +kernel)) rfl, by decide +kernel, by decide +kernel, by decide +kernel⟩
theorem mv_X10_perform : mm_MV yX10_perform := ⟨mm_in (List.mem_of_getElem? (i := 1593) (by decide +kernel)) rfl, mm_in (List.mem_of_getElem? (i := 1594) (by decide +kernel)) rfl⟩
theorem ml_L_177 : Cond.methodLink RL 177 yX9_most ∈ mm_ws := mm_in (List.mem_of_getElem? (i := 917) (by decide +kernel)) rfl
theorem md_X9_most : mm_MD yX9_most cX9_most 2 (some .int) 1 := ⟨mm_in (List.mem_of_getElem? (i := 920) (by decide +kernel)) rfl, mm_in (List.mem_of_getElem? (i := 108) (by decide +kernel)) rfl, by decide +kernel, by decide +kernel, by decide +kernel⟩
theorem mv_X9_most : mm_MV yX9_most := ⟨mm_in (List.mem_of_getElem? (i := 918) (by decide +kernel)) rfl, mm_in (List.mem_of_getElem? (i := 919) (by decide +kernel)) rfl⟩
theorem ml_L_180 : Cond.methodLink RL 180 yX10_most ∈ mm_ws := mm_in (List.mem_of_getElem? (i := 1596) (by decide +kernel)) rfl
theorem md_X10_most : mm_MD yX10_most cX10_most 2 (some .int) 1 := ⟨mm_in (List.mem_of_getElem? (i := 1599) (by decide +kernel)) rfl, mm_in (List.mem_of_getElem? (i := 118) (by decide +kernel)) rfl, by decide +kernel, by decide +kernel, by decide +kernel⟩
theorem mv_X10_most : mm_MV yX10_most := ⟨mm_in (List.mem_of_getElem? (i := 1597) (by decide +kernel)) rfl, mm_in (List.mem_of_getElem? (i := 1598) (by decide +kernel)) rfl⟩
theorem ml_L_181 : Cond.methodLink RL 181 yX9_image ∈ mm_ws := mm_in (List.mem_of_getElem? (i := 951) (by decide +kernel)) rfl
theorem md_X9_image : mm_MD yX9_image cX9_image 1 (some .int) 0 := ⟨mm_in (List.mem_of_getElem? (i := 954) (by decide +kernel)) rfl, mm_in (List.mem_of_getElem? (i := 108) (by decide +kernel)) rfl, by decide +kernel, by decide +kernel, by decide +kernel⟩
theorem mv_X9_image : mm_MV yX9_image := ⟨mm_in (List.mem_of_getElem? (i := 952) (by decide +kernel)) rfl, mm_in (List.mem_of_getElem? (i := 953) (by decide +kernel)) rfl⟩
theorem ml_L_184 : Cond.methodLink RL 184 yX10_image ∈ mm_ws := mm_in (List.mem_of_getElem? (i := 1625) (by decide +kernel)) rfl
theorem md_X10_image : mm_MD yX10_image cX10_image 2 (some .int) 0 := ⟨mm_in (List.mem_of_getElem? (i := 1628) (by decide +kernel)) rfl, mm_in (List.mem_of_getElem? (i := 118) (by decide +kernel)) rfl, by decide +kernel, by decide +kernel, by decide +kernel⟩
theorem mv_X10_image : mm_MV yX10_image := ⟨mm_in (List.mem_of_getElem? (i := 1626) (by decide +kernel)) rfl, mm_in (List.mem_of_getElem? (i := 1627) (by decide +kernel)) rfl⟩
theorem ml_L_185 : Cond.methodLink RL 185 yX9_back ∈ mm_ws := mm_in (List.mem_of_getElem? (i := 955) (by decide +kernel)) rfl
theorem md_X9_back : mm_MD yX9_back cX9_back 1 (some .int) 0 := ⟨mm_in (List.mem_of_getElem? (i := 958) (by decide +kernel)) rfl, mm_in (List.mem_of_getElem? (i := 108) (by decide +kernel)) rfl, by decide +kernel, by decide +kernel, by decide +kernel⟩
theorem mv_X9_back : mm_MV yX9_back := ⟨mm_in (List.mem_of_getElem? (i := 956) (by decide +kernel)) rfl, mm_in (List.mem_of_getElem? (i := 957) (by decide +kernel)) rfl⟩
theorem ml_L_188 : Cond.methodLink RL 188 yX10_back ∈ mm_ws := mm_in (List.mem_of_getElem? (i := 1629) (by decide +kernel)) rfl
theorem md_X10_back : mm_MD yX10_back cX10_back 2 (some .int) 0 := ⟨mm_in (List.mem_of_getElem? (i := 1632) (by decide +kernel)) rfl, mm_in (List.mem_of_getElem? (i := 118) (by decide +kernel)) rfl, by decide +kernel, by decide +kernel, by decide +kernel⟩
theorem mv_X10_back : mm_MV yX10_back := ⟨mm_in (List.mem_of_getElem? (i := 1630) (by decide +kernel)) rfl, mm_in (List.mem_of_getElem? (i := 1631) (by decide +kernel)) rfl⟩
theorem ml_L_189 : Cond.methodLink RL 189 yX9_count ∈ mm_ws := mm_in (List.mem_of_getElem? (i := 959) (by decide +kernel)) rfl
theorem md_X9_count : mm_MD yX9_count cX9_count 2 (some .int) 1 := ⟨mm_in (List.mem_of_getElem? (i := 962) (by decide +kernel)) rfl, mm_in (List.mem_of_getElem? (i := 108) (by decide +kernel)) rfl, by decide +kernel, by decide +kernel, by decide +kernel⟩
theorem mv_X9_count : mm_MV yX9_count := ⟨mm_in (List.mem_of_getElem? (i := 960) (by decide +kernel)) rfl, mm_in (List.mem_of_getElem? (i := 961) (by decide +kernel)) rfl⟩
theorem ml_L_192 : Cond.methodLink RL 192 yX10_count ∈ mm_ws := mm_in (List.mem_of_getElem? (i := 1633) (by decide +kernel)) rfl
theorem md_X10_count : mm_MD yX10_count cX10_count 2 (some .int) 1 := ⟨mm_in (List.mem_of_getElem? (i := 1636) (by decide +kernel)) rfl, mm_in (List.mem_of_getElem? (i := 118) (by decide +kernel)) rfl, by decide +kernel, by decide +kernel, by decide +kernel⟩
theorem mv_X10_count : mm_MV yX10_count := ⟨mm_in (List.mem_of_getElem? (i := 1634) (by decide +kernel)) rfl, mm_in (List.mem_of_getElem? (i := 1635) (by decide +kernel)) rfl⟩
theorem ml_L_47 : Cond.methodLink RL 47 yL_line ∈ mm_ws := mm_in (List.mem_of_getElem? (i := 964) (by decide +kernel)) rfl
theorem ms_L_line : Cond.static yL_line ∈ mm_ws := mm_in (List.mem_of_getElem? (i := 965) (by decide +kernel)) rfl
theorem ini_L : Cond.initialized RL ∈ mm_ws := mm_in (List.mem_of_getElem? (i := 107) (by decide +kernel)) rfl
theorem cn_L_138 : Cond.constantLong RL 138 4294967295 ∈ mm_ws := mm_in (List.mem_of_getElem? (i := 1637) (by decide +kernel)) rfl
theorem ml_L_52 : Cond.methodLink RL 52 yX10_line ∈ mm_ws := mm_in (List.mem_of_getElem? (i := 1477) (by decide +kernel)) rfl
theorem md_X10_line : mm_MD yX10_line cX10_line 3 (some .int) 2 := ⟨mm_in (List.mem_of_getElem? (i := 1480) (by decide +kernel)) rfl, mm_in (List.mem_of_getElem? (i := 118) (by decide +kernel)) rfl, by decide +kernel, by decide +kernel, by decide +kernel⟩
theorem mv_X10_line : mm_MV yX10_line := ⟨mm_in (List.mem_of_getElem? (i := 1478) (by decide +kernel)) rfl, mm_in (List.mem_of_getElem? (i := 1479) (by decide +kernel)) rfl⟩
theorem ml_L_53 : Cond.methodLink RL 53 yX10_thrown ∈ mm_ws := mm_in (List.mem_of_getElem? (i := 1139) (by decide +kernel)) rfl
theorem md_X10_thrown : mm_MD yX10_thrown cX10_thrown 1 (some .int) 0 := ⟨mm_in (List.mem_of_getElem? (i := 1142) (by decide +kernel)) rfl, mm_in (List.mem_of_getElem? (i := 118) (by decide +kernel)) rfl, by decide +kernel, by decide +kernel, by decide +kernel⟩
theorem mv_X10_thrown : mm_MV yX10_thrown := ⟨mm_in (List.mem_of_getElem? (i := 1140) (by decide +kernel)) rfl, mm_in (List.mem_of_getElem? (i := 1141) (by decide +kernel)) rfl⟩
def lw_s_feed (n ax am : Nat) (Sim : Nat → mm_M → Prop) : Prop := ∀ (t : Nat) (M : mm_M), t < 512 → Sim t M → ∀ (x1 : Int32) (x2 : Int32) (x3 : Int32) (x4 : Int32) (x5 : Int32), ∃ (r : Int32) (M1 M2 : mm_M), pX9_feed n M ax x1 x2 x3 x4 x5 = some (r, M1) ∧ pX10_feed n M1 am x1 x2 x3 x4 x5 = some (r, M2) ∧ Sim (t + 1) M2
def lw_s_end (n ax am : Nat) (Sim : Nat → mm_M → Prop) : Prop := ∀ (t : Nat) (M : mm_M), t < 512 → Sim t M → ∀ (x1 : Int32), ∃ (r : Int32) (M1 M2 : mm_M), pX9_end n M ax x1 = some (r, M1) ∧ pX10_end n M1 am x1 = some (r, M2) ∧ Sim (t + 1) M2
def lw_s_fault (n ax am : Nat) (Sim : Nat → mm_M → Prop) : Prop := ∀ (t : Nat) (M : mm_M), t < 512 → Sim t M → ∀ (x1 : Int32), ∃ (r : Int32) (M1 M2 : mm_M), pX9_fault n M ax x1 = some (r, M1) ∧ pX10_fault n M1 am x1 = some (r, M2) ∧ Sim (t + 1) M2
def lw_s_text (n ax am : Nat) (Sim : Nat → mm_M → Prop) : Prop := ∀ (t : Nat) (M : mm_M), t < 512 → Sim t M → ∀ (x1 : Int32), ∃ (r : Int32) (M1 M2 : mm_M), pX9_text n M ax x1 = some (r, M1) ∧ pX10_text n M1 am x1 = some (r, M2) ∧ Sim (t + 1) M2
def lw_s_word (n ax am : Nat) (Sim : Nat → mm_M → Prop) : Prop := ∀ (t : Nat) (M : mm_M), t < 512 → Sim t M → ∀ (_ : Unit), ∃ (r : Int32) (M1 M2 : mm_M), pX9_word n M ax  = some (r, M1) ∧ pX10_word n M1 am  = some (r, M2) ∧ Sim (t + 1) M2
def lw_s_rule (n ax am : Nat) (Sim : Nat → mm_M → Prop) : Prop := ∀ (t : Nat) (M : mm_M), t < 512 → Sim t M → ∀ (x1 : Int32), ∃ (r : Int32) (M1 M2 : mm_M), pX9_rule n M ax x1 = some (r, M1) ∧ pX10_rule n M1 am x1 = some (r, M2) ∧ Sim (t + 1) M2
def lw_s_sign (n ax am : Nat) (Sim : Nat → mm_M → Prop) : Prop := ∀ (t : Nat) (M : mm_M), t < 512 → Sim t M → ∀ (x1 : Int32) (x2 : Int32), ∃ (r : Int32) (M1 M2 : mm_M), pX9_sign n M ax x1 x2 = some (r, M1) ∧ pX10_sign n M1 am x1 x2 = some (r, M2) ∧ Sim (t + 1) M2
def lw_s_hit (n ax am : Nat) (Sim : Nat → mm_M → Prop) : Prop := ∀ (t : Nat) (M : mm_M), t < 512 → Sim t M → ∀ (x1 : Int32) (x2 : Int32), ∃ (r : Int32) (M1 M2 : mm_M), pX9_hit n M ax x1 x2 = some (r, M1) ∧ pX10_hit n M1 am x1 x2 = some (r, M2) ∧ Sim (t + 1) M2
def lw_s_rank (n ax am : Nat) (Sim : Nat → mm_M → Prop) : Prop := ∀ (t : Nat) (M : mm_M), t < 512 → Sim t M → ∀ (x1 : Int32) (x2 : Int32), ∃ (r : Int32) (M1 M2 : mm_M), pX9_rank n M ax x1 x2 = some (r, M1) ∧ pX10_rank n M1 am x1 x2 = some (r, M2) ∧ Sim (t + 1) M2
def lw_s_all (n ax am : Nat) (Sim : Nat → mm_M → Prop) : Prop := ∀ (t : Nat) (M : mm_M), t < 512 → Sim t M → ∀ (x1 : Int32) (x2 : Int32), ∃ (r : Int32) (M1 M2 : mm_M), pX9_all n M ax x1 x2 = some (r, M1) ∧ pX10_all n M1 am x1 x2 = some (r, M2) ∧ Sim (t + 1) M2
def lw_s_twice (n ax am : Nat) (Sim : Nat → mm_M → Prop) : Prop := ∀ (t : Nat) (M : mm_M), t < 512 → Sim t M → ∀ (x1 : Int32), ∃ (r : Int32) (M1 M2 : mm_M), pX9_twice n M ax x1 = some (r, M1) ∧ pX10_twice n M1 am x1 = some (r, M2) ∧ Sim (t + 1) M2
def lw_s_unlike (n ax am : Nat) (Sim : Nat → mm_M → Prop) : Prop := ∀ (t : Nat) (M : mm_M), t < 512 → Sim t M → ∀ (x1 : Int32), ∃ (r : Int32) (M1 M2 : mm_M), pX9_unlike n M ax x1 = some (r, M1) ∧ pX10_unlike n M1 am x1 = some (r, M2) ∧ Sim (t + 1) M2
def lw_s_frequent (n ax am : Nat) (Sim : Nat → mm_M → Prop) : Prop := ∀ (t : Nat) (M : mm_M), t < 512 → Sim t M → ∀ (x1 : Int32) (x2 : Int32), ∃ (r : Int32) (M1 M2 : mm_M), pX9_frequent n M ax x1 x2 = some (r, M1) ∧ pX10_frequent n M1 am x1 x2 = some (r, M2) ∧ Sim (t + 1) M2
def lw_s_few (n ax am : Nat) (Sim : Nat → mm_M → Prop) : Prop := ∀ (t : Nat) (M : mm_M), t < 512 → Sim t M → ∀ (x1 : Int32) (x2 : Int32), ∃ (r : Int32) (M1 M2 : mm_M), pX9_few n M ax x1 x2 = some (r, M1) ∧ pX10_few n M1 am x1 x2 = some (r, M2) ∧ Sim (t + 1) M2
def lw_s_beside (n ax am : Nat) (Sim : Nat → mm_M → Prop) : Prop := ∀ (t : Nat) (M : mm_M), t < 512 → Sim t M → ∀ (x1 : Int32) (x2 : Int32), (x1 = 0 ∨ x1 = 1) → ∃ (r : Int32) (M1 M2 : mm_M), pX9_beside n M ax x1 x2 = some (r, M1) ∧ pX10_beside n M1 am x1 x2 = some (r, M2) ∧ Sim (t + 1) M2
def lw_s_set (n ax am : Nat) (Sim : Nat → mm_M → Prop) : Prop := ∀ (t : Nat) (M : mm_M), t < 512 → Sim t M → ∀ (x1 : Int32), ∃ (r : Int32) (M1 M2 : mm_M), pX9_set n M ax x1 = some (r, M1) ∧ pX10_set n M1 am x1 = some (r, M2) ∧ Sim (t + 1) M2
def lw_s_put (n ax am : Nat) (Sim : Nat → mm_M → Prop) : Prop := ∀ (t : Nat) (M : mm_M), t < 512 → Sim t M → ∀ (x1 : Int32), ∃ (r : Int32) (M1 M2 : mm_M), pX9_put n M ax x1 = some (r, M1) ∧ pX10_put n M1 am x1 = some (r, M2) ∧ Sim (t + 1) M2
def lw_s_take (n ax am : Nat) (Sim : Nat → mm_M → Prop) : Prop := ∀ (t : Nat) (M : mm_M), t < 512 → Sim t M → ∀ (x1 : Int32), ∃ (r : Int32) (M1 M2 : mm_M), pX9_take n M ax x1 = some (r, M1) ∧ pX10_take n M1 am x1 = some (r, M2) ∧ Sim (t + 1) M2
def lw_s_swap (n ax am : Nat) (Sim : Nat → mm_M → Prop) : Prop := ∀ (t : Nat) (M : mm_M), t < 512 → Sim t M → ∀ (x1 : Int32) (x2 : Int32), ∃ (r : Int32) (M1 M2 : mm_M), pX9_swap n M ax x1 x2 = some (r, M1) ∧ pX10_swap n M1 am x1 x2 = some (r, M2) ∧ Sim (t + 1) M2
def lw_s_lay (n ax am : Nat) (Sim : Nat → mm_M → Prop) : Prop := ∀ (t : Nat) (M : mm_M), t < 512 → Sim t M → ∀ (x1 : Int32) (x2 : Int32), ∃ (r : Int32) (M1 M2 : mm_M), pX9_lay n M ax x1 x2 = some (r, M1) ∧ pX10_lay n M1 am x1 x2 = some (r, M2) ∧ Sim (t + 1) M2
def lw_s_page (n ax am : Nat) (Sim : Nat → mm_M → Prop) : Prop := ∀ (t : Nat) (M : mm_M), t < 512 → Sim t M → ∀ (x1 : Int32), ∃ (r : Int32) (M1 M2 : mm_M), pX9_page n M ax x1 = some (r, M1) ∧ pX10_page n M1 am x1 = some (r, M2) ∧ Sim (t + 1) M2
def lw_s_rewind (n ax am : Nat) (Sim : Nat → mm_M → Prop) : Prop := ∀ (t : Nat) (M : mm_M), t < 512 → Sim t M → ∀ (x1 : Int32), ∃ (r : Int32) (M1 M2 : mm_M), pX9_rewind n M ax x1 = some (r, M1) ∧ pX10_rewind n M1 am x1 = some (r, M2) ∧ Sim (t + 1) M2
def lw_s_cursor (n ax am : Nat) (Sim : Nat → mm_M → Prop) : Prop := ∀ (t : Nat) (M : mm_M), t < 512 → Sim t M → ∀ (x1 : Int32) (x2 : Int32), ∃ (r : Int32) (M1 M2 : mm_M), pX9_cursor n M ax x1 x2 = some (r, M1) ∧ pX10_cursor n M1 am x1 x2 = some (r, M2) ∧ Sim (t + 1) M2
def lw_s_told (n ax am : Nat) (Sim : Nat → mm_M → Prop) : Prop := ∀ (t : Nat) (M : mm_M), t < 512 → Sim t M → ∀ (x1 : Int32) (x2 : Int32) (x3 : Int32), ∃ (r : Int32) (M1 M2 : mm_M), pX9_told n M ax x1 x2 x3 = some (r, M1) ∧ pX10_told n M1 am x1 x2 x3 = some (r, M2) ∧ Sim (t + 1) M2
def lw_s_split (n ax am : Nat) (Sim : Nat → mm_M → Prop) : Prop := ∀ (t : Nat) (M : mm_M), t < 512 → Sim t M → ∀ (x1 : Int32) (x2 : Int32), ∃ (r : Int32) (M1 M2 : mm_M), pX9_split n M ax x1 x2 = some (r, M1) ∧ pX10_split n M1 am x1 x2 = some (r, M2) ∧ Sim (t + 1) M2
def lw_s_join (n ax am : Nat) (Sim : Nat → mm_M → Prop) : Prop := ∀ (t : Nat) (M : mm_M), t < 512 → Sim t M → ∀ (x1 : Int32), ∃ (r : Int32) (M1 M2 : mm_M), pX9_join n M ax x1 = some (r, M1) ∧ pX10_join n M1 am x1 = some (r, M2) ∧ Sim (t + 1) M2
def lw_s_ways (n ax am : Nat) (Sim : Nat → mm_M → Prop) : Prop := ∀ (t : Nat) (M : mm_M), t < 512 → Sim t M → ∀ (x1 : Int32) (x2 : Int64), ∃ (r : Int32) (M1 M2 : mm_M), pX9_ways n M ax x1 x2 = some (r, M1) ∧ pX10_ways n M1 am x1 x2 = some (r, M2) ∧ Sim (t + 1) M2
def lw_s_status (n ax am : Nat) (Sim : Nat → mm_M → Prop) : Prop := ∀ (t : Nat) (M : mm_M), t < 512 → Sim t M → ∀ (x1 : Int32), ∃ (r : Int32) (M1 M2 : mm_M), pX9_status n M ax x1 = some (r, M1) ∧ pX10_status n M1 am x1 = some (r, M2) ∧ Sim (t + 1) M2
def lw_s_undo (n ax am : Nat) (Sim : Nat → mm_M → Prop) : Prop := ∀ (t : Nat) (M : mm_M), t < 512 → Sim t M → ∀ (_ : Unit), ∃ (r : Int32) (M1 M2 : mm_M), pX9_undo n M ax  = some (r, M1) ∧ pX10_undo n M1 am  = some (r, M2) ∧ Sim (t + 1) M2
def lw_s_log (n ax am : Nat) (Sim : Nat → mm_M → Prop) : Prop := ∀ (t : Nat) (M : mm_M), t < 512 → Sim t M → ∀ (x1 : Int32) (x2 : Int32), ∃ (r : Int32) (M1 M2 : mm_M), pX9_log n M ax x1 x2 = some (r, M1) ∧ pX10_log n M1 am x1 x2 = some (r, M2) ∧ Sim (t + 1) M2
def lw_s_spell (n ax am : Nat) (Sim : Nat → mm_M → Prop) : Prop := ∀ (t : Nat) (M : mm_M), t < 512 → Sim t M → ∀ (x1 : Int32) (x2 : Int32), ∃ (r : Int32) (M1 M2 : mm_M), pX9_spell n M ax x1 x2 = some (r, M1) ∧ pX10_spell n M1 am x1 x2 = some (r, M2) ∧ Sim (t + 1) M2
def lw_s_would (n ax am : Nat) (Sim : Nat → mm_M → Prop) : Prop := ∀ (t : Nat) (M : mm_M), t < 512 → Sim t M → ∀ (x1 : Int32), ∃ (r : Int32) (M1 M2 : mm_M), pX9_would n M ax x1 = some (r, M1) ∧ pX10_would n M1 am x1 = some (r, M2) ∧ Sim (t + 1) M2
def lw_s_step (n ax am : Nat) (Sim : Nat → mm_M → Prop) : Prop := ∀ (t : Nat) (M : mm_M), t < 512 → Sim t M → ∀ (x1 : Int32) (x2 : Int32) (x3 : Int32), ∃ (r : Int32) (M1 M2 : mm_M), pX9_step n M ax x1 x2 x3 = some (r, M1) ∧ pX10_step n M1 am x1 x2 x3 = some (r, M2) ∧ Sim (t + 1) M2
def lw_s_run (n ax am : Nat) (Sim : Nat → mm_M → Prop) : Prop := ∀ (t : Nat) (M : mm_M), t < 512 → Sim t M → ∀ (x1 : Int32) (x2 : Int32), ∃ (r : Int32) (M1 M2 : mm_M), pX9_run n M ax x1 x2 = some (r, M1) ∧ pX10_run n M1 am x1 x2 = some (r, M2) ∧ Sim (t + 1) M2
def lw_s_perform (n ax am : Nat) (Sim : Nat → mm_M → Prop) : Prop := ∀ (t : Nat) (M : mm_M), t < 512 → Sim t M → ∀ (x1 : Int32), ∃ (r : Int32) (M1 M2 : mm_M), pX9_perform n M ax x1 = some (r, M1) ∧ pX10_perform n M1 am x1 = some (r, M2) ∧ Sim (t + 1) M2
def lw_s_most (n ax am : Nat) (Sim : Nat → mm_M → Prop) : Prop := ∀ (t : Nat) (M : mm_M), t < 512 → Sim t M → ∀ (x1 : Int32), ∃ (r : Int32) (M1 M2 : mm_M), pX9_most n M ax x1 = some (r, M1) ∧ pX10_most n M1 am x1 = some (r, M2) ∧ Sim (t + 1) M2
def lw_s_image (n ax am : Nat) (Sim : Nat → mm_M → Prop) : Prop := ∀ (t : Nat) (M : mm_M), t < 512 → Sim t M → ∀ (_ : Unit), ∃ (r : Int32) (M1 M2 : mm_M), pX9_image n M ax  = some (r, M1) ∧ pX10_image n M1 am  = some (r, M2) ∧ Sim (t + 1) M2
def lw_s_back (n ax am : Nat) (Sim : Nat → mm_M → Prop) : Prop := ∀ (t : Nat) (M : mm_M), t < 512 → Sim t M → ∀ (_ : Unit), ∃ (r : Int32) (M1 M2 : mm_M), pX9_back n M ax  = some (r, M1) ∧ pX10_back n M1 am  = some (r, M2) ∧ Sim (t + 1) M2
def lw_s_count (n ax am : Nat) (Sim : Nat → mm_M → Prop) : Prop := ∀ (t : Nat) (M : mm_M), t < 512 → Sim t M → ∀ (x1 : Int32), ∃ (r : Int32) (M1 M2 : mm_M), pX9_count n M ax x1 = some (r, M1) ∧ pX10_count n M1 am x1 = some (r, M2) ∧ Sim (t + 1) M2
def lw_s_line (n ax am ao : Nat) (Sim : Nat → mm_M → Prop) : Prop := ∀ (t : Nat) (M : mm_M), t < 512 → Sim t M → ∀ (x1 x2 : Int32), ∃ o : Option Int32 × mm_M, pX9_line n M ax x1 x2 = some o ∧
  (∀ v : Int32, o.1 = some v → ∃ (M2 M3 M4 : mm_M) (f : Nat → Int64), mm_lst o.2 ao 0 v.toInt64 = some M2 ∧ pX10_line n M2 am x1 x2 = some (v, M3) ∧ pX10_thrown n M3 am = some (0, M4) ∧ M4.2 ao = some (mm_al 1 f) ∧ f 0 = v.toInt64 ∧ Sim (t + 1) M4) ∧
  (o.1 = none → ∀ k : Nat, ∃ (w : Int32) (M3 M4 : mm_M), pX10_line n (k, o.2.2) am x1 x2 = some (w, M3) ∧ pX10_thrown n M3 am = some (1, M4) ∧ Sim (t + 1) M4)
