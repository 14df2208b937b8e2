def mm_max (x y : Int32) : Int32 := if x < y then y else x
def mm_min (x y : Int32) : Int32 := if y < x then y else x
def mm_ushr (x y : Int32) : Int32 := (x.toUInt32 >>> (y.toUInt32 &&& Int32.toUInt32 31)).toInt32
def mm_lushr (x : Int64) (y : Int32) : Int64 := (x.toUInt64 >>> (y.toInt64.toUInt64 &&& Int64.toUInt64 63)).toInt64
theorem mm_t {P : Prop} [Decidable P] {α : Type} {A B o : α} (c : P) (h : (if P then A else B) = o) : A = o := by rw [if_pos c] at h; exact h
theorem mm_f {P : Prop} [Decidable P] {α : Type} {A B o : α} (c : ¬ P) (h : (if P then A else B) = o) : B = o := by rw [if_neg c] at h; exact h
section MMX
variable {p : Program} {l : Launch} {e : Env} {R : Room} {s : State} {m : MethodId} {args : Array Value} {below : List Frame} {meth : Method} {c : Code} {H : Heap} {locs : List Loc} {cells slots : Nat} {Q : State → Prop}
variable {cc : ByteArray} {own : String} {nL : Nat} {D : va_G} {dA : Nat → ClassId} {lo : Nat} {M : mm_M} {pc : Nat} {ls : Array Slot} {rest : List Value}
theorem mm_tdef (X : mm_C D dA lo cc own nL p s m args c) {dflt lo' hi : Int} {offs : Array Int} {len : Nat} {x : Int32} {tgt : Nat} (hdg : decode cc pc = .ok (.tableswitch dflt lo' hi offs, len)) (hsz : hi - lo' + 1 = (offs.size : Int)) (hg : ∀ i : Nat, i < offs.size → x.toInt = lo' + i → offs[i]? = some dflt) (ht : (pc : Int) + dflt = (tgt : Int)) (k : W p l e R s m args below meth c H locs cells slots Q (F0 m tgt ls rest)) : W p l e R s m args below meth c H locs cells slots Q (F0 m pc ls (.int x :: rest)) := by
  by_cases h1 : x.toInt < lo'
  · exact lv_tableOut X.1 X.2.1 hdg (Or.inl h1) ht k
  · by_cases h2 : hi < x.toInt
    · exact lv_tableOut X.1 X.2.1 hdg (Or.inr h2) ht k
    · exact lv_tableIn X.1 X.2.1 hdg h1 h2 (hg (x.toInt - lo').toNat (by omega) (by omega)) ht k
theorem mm_rmax (X : mm_C D dA lo cc own nL p s m args c) {lv : List (Nat × Value)} (hl : lv_has ls nL lv) {idx : Nat} (ml : Cond.methodLink own idx Lib.Math.max.name ∈ mm_ws) (hfr : 1 ≤ R.frames) (hlc : (rest.map fun v => v.category).sum + 13 ≤ R.locals) (hc : cells ≤ R.cells) (hs : slots ≤ R.slots) {x y : Int32} (hdg : decode cc pc = .ok (.invokestatic idx, 3)) (kk : W p l e R s m args below meth c H locs cells slots Q (F0 m (pc + 3) ls (.int (mm_max x y) :: rest))) : W p l e R s m args below meth c H locs cells slots Q (F0 m pc ls (.int y :: .int x :: rest)) :=
  va_mmax X.1 X.2.1 (X.2.2.1.trans hl.1.symm) X.2.2.2.1 (X.2.2.2.2.1 _ ml) (X.2.2.2.2.1 _ (mm_in (List.mem_of_getElem? (i := 682) (by decide +kernel)) rfl)) (X.2.2.2.2.1 _ (mm_in (List.mem_of_getElem? (i := 124) (by decide +kernel)) rfl)) (X.2.2.2.2.1 _ (mm_in (List.mem_of_getElem? (i := 683) (by decide +kernel)) rfl)) hfr hlc hc hs hdg kk
theorem mm_rmin (X : mm_C D dA lo cc own nL p s m args c) {lv : List (Nat × Value)} (hl : lv_has ls nL lv) {idx : Nat} (ml : Cond.methodLink own idx Lib.Math.min.name ∈ mm_ws) (hfr : 1 ≤ R.frames) (hlc : (rest.map fun v => v.category).sum + 13 ≤ R.locals) (hc : cells ≤ R.cells) (hs : slots ≤ R.slots) {x y : Int32} (hdg : decode cc pc = .ok (.invokestatic idx, 3)) (kk : W p l e R s m args below meth c H locs cells slots Q (F0 m (pc + 3) ls (.int (mm_min x y) :: rest))) : W p l e R s m args below meth c H locs cells slots Q (F0 m pc ls (.int y :: .int x :: rest)) :=
  va_mmin X.1 X.2.1 (X.2.2.1.trans hl.1.symm) X.2.2.2.1 (X.2.2.2.2.1 _ ml) (X.2.2.2.2.1 _ (mm_in (List.mem_of_getElem? (i := 732) (by decide +kernel)) rfl)) (X.2.2.2.2.1 _ (mm_in (List.mem_of_getElem? (i := 124) (by decide +kernel)) rfl)) (X.2.2.2.2.1 _ (mm_in (List.mem_of_getElem? (i := 733) (by decide +kernel)) rfl)) hfr hlc hc hs hdg kk
theorem mm_rcp (X : mm_C D dA lo cc own nL p s m args c) (I : mm_I D dA lo s M H locs) {lv : List (Nat × Value)} (hl : lv_has ls nL lv) {idx : Nat} (ml : Cond.methodLink own idx arraycopyName ∈ mm_ws) (hframes : 1 ≤ R.frames) (hlocals : (rest.map fun v => v.category).sum + (nativeFrameWords "java/lang/System" "arraycopy" 5 + 11) ≤ R.locals) {a0 a : Nat} {sp dp n : Int32} (hdg : decode cc pc = .ok (.invokestatic idx, 3)) {β : Type} {F : mm_M → Option β} {o : β} (h : mm_b1 (mm_cp M a0 sp a dp n) F = some o)
    (kk : ∀ (M' : mm_M) (H1 : Heap) (locs1 : List Loc), mm_I D dA lo s M' H1 locs1 → F M' = some o → W p l e R s m args below meth c H1 locs1 cells slots Q (F0 m (pc + 3) ls rest)) : W p l e R s m args below meth c H locs cells slots Q (F0 m pc ls (.int n :: .int dp :: .ref a :: .int sp :: .ref a0 :: rest)) := by
  obtain ⟨M1, hv, h⟩ := mm_b1_some h
  obtain ⟨n0, f, n1, g, he0, he1, h1, h2, h3, h4, h5, rfl⟩ := mm_cp_some hv
  obtain ⟨hx, hb, hml, hown, hts, hK, hSt⟩ := X
  have nn : ∀ z : Int32, ¬ z < 0 → z.toInt = (z.toNatClampNeg : Int) := by
    intro z hz
    have hz0 : (0 : Int) ≤ z.toInt := by
      have := Int32.not_lt.mp hz
      simpa using Int32.le_iff_toInt_le.mp this
    show z.toInt = ((z.toInt.toNat : Nat) : Int)
    omega
  intro T hT X
  have hc0 : H[a0]? = some (vp_cell (dA 0) (n0, .inl f)) := (I.1.2.2 a0 _ he0).2
  have hc1 : H[a]? = some (vp_cell (dA 0) (n1, .inl g)) := (I.1.2.2 a _ he1).2
  obtain ⟨-, k0, hk0, cm0, hkk0⟩ := (hK.2 0 _ (mm_tys_at dA (by decide))).1 n0 (fun j => .int (f j))
  obtain ⟨-, k1, hk1, cm1, hkk1⟩ := (hK.2 0 _ (mm_tys_at dA (by decide))).1 n1 (fun j => .int (g j))
  obtain ⟨vm', X', step⟩ := X.arraycopy hx hown (hts _ ml) (hts _ (mm_in (List.mem_of_getElem? (i := 526) (by decide +kernel)) rfl)) (hts _ (mm_in (List.mem_of_getElem? (i := 525) (by decide +kernel)) rfl)) (hts _ (mm_in (List.mem_of_getElem? (i := 119) (by decide +kernel)) rfl)) (src := a0) (dst := a) (cs := vp_cell (dA 0) (n0, .inl f)) (cd := vp_cell (dA 0) (n1, .inl g)) (srcPos := sp) (destPos := dp) (n := n) (by rw [hT]; exact hc0) (by rw [hT]; exact hc1)
    (fun _ h => by cases h) (fun _ h => by cases h) (fun h => by cases h) (fun h => by cases h) hk0 hk1 hkk0 hkk1 (by simp [mm_tyn, refKind]) h1 h2 h3
    (by rw [nn sp h1, nn n h3]; show ¬ _ > ((arrV (dA 0) n0 (fun j => .int (f j))).slots.size : Int); rw [arrV_size]; omega)
    (by rw [nn dp h2, nn n h3]; show ¬ _ > ((arrV (dA 0) n1 (fun j => .int (g j))).slots.size : Int); rw [arrV_size]; omega)
    (fun vm₁ _ i hi => by
      have e : (vp_cell (dA 0) (n0, .inl f)).slots.getD (sp.toNatClampNeg + i) .null = .int (f (sp.toNatClampNeg + i)) := by
        show (arrV (dA 0) n0 (fun j => .int (f j))).slots.getD _ _ = _
        rw [Array.getD_eq_getD_getElem?, arrV_read _ _ (by omega)]
        rfl
      refine ⟨?_, ?_⟩
      · rw [e]; rfl
      · rw [e]; exact trivial)
    (g := F0 m pc ls (.int n :: .int dp :: .ref a :: .int sp :: .ref a0 :: rest)) rfl (by rw [hml]; exact hl.1) (rest := rest) rfl (by rw [hb]; exact hdg) hframes (by show 2 * 0 + _ + _ ≤ _; omega)
  have e1 : copied (vp_cell (dA 0) (n0, .inl f)) (vp_cell (dA 0) (n1, .inl g)) sp dp n = vp_cell (dA 0) (n1, .inl (va_cpy f g sp.toNatClampNeg dp.toNatClampNeg n.toNatClampNeg)) := va_copied (fun z => .int z) (dA 0) (dA 0) f g h4
  rw [e1] at X' step
  have hlt : a < H.size := (Array.getElem?_eq_some_iff.mp hc1).1
  have hheap : ((T.setVm vm').setCell a (vp_cell (dA 0) (n1, .inl (va_cpy f g sp.toNatClampNeg dp.toNatClampNeg n.toNatClampNeg)))).heap = H.setIfInBounds a (vp_cell (dA 0) (n1, .inl (va_cpy f g sp.toNatClampNeg dp.toNatClampNeg n.toNatClampNeg))) := by rw [← hT]; rfl
  have oq : ∀ q : Nat, q ≠ a → (H.setIfInBounds a (vp_cell (dA 0) (n1, .inl (va_cpy f g sp.toNatClampNeg dp.toNatClampNeg n.toNatClampNeg))))[q]? = H[q]? := fun q hq => by simp [Array.getElem?_setIfInBounds, Ne.symm hq]
  have hla : lo ≤ a := (I.1.2.2 a _ he1).1
  obtain ⟨t, a1, b1⟩ := kk _ _ _ ⟨I.1.set (e := mm_ai n1 (va_cpy f g sp.toNatClampNeg dp.toNatClampNeg n.toNatClampNeg)) he1 (by simp) oq (show (H.setIfInBounds a (vp_cell (dA 0) (n1, .inl (va_cpy f g sp.toNatClampNeg dp.toNatClampNeg n.toNatClampNeg))))[a]? = some (vp_cell (dA 0) (n1, .inl (va_cpy f g sp.toNatClampNeg dp.toNatClampNeg n.toNatClampNeg))) by simp [Array.getElem?_setIfInBounds, hlt]), by simp; exact I.2.1, fun q g1 g2 => by
      rw [oq q (fun e => g2 (by rw [e]; exact hla))]
      exact I.2.2.1 q g1 g2, fun q hq => by
      rcases List.mem_append.mp hq with h | h
      · exact I.2.2.2 q h
      · obtain ⟨z, -, hz⟩ := List.mem_map.mp h
        rw [← hz]
        exact hla⟩ h _ hheap X'
  exact ⟨t, step t a1, b1⟩
end MMX
