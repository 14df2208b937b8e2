/-! My own layer: an abstract memory over the kit's worlds, and a row for each instruction that reads or writes it. -/
abbrev mm_E : Type := (Nat × List Value) ⊕ ((Nat × (Nat → Int32)) ⊕ ((Nat × (Nat → Int64)) ⊕ (Nat × Nat × (Nat → Option Nat))))
abbrev mm_M : Type := Nat × (Nat → Option mm_E)
abbrev mm_ob (ci : Nat) (fs : List Value) : mm_E := .inl (ci, fs)
abbrev mm_ai (n : Nat) (f : Nat → Int32) : mm_E := .inr (.inl (n, f))
abbrev mm_al (n : Nat) (f : Nat → Int64) : mm_E := .inr (.inr (.inl (n, f)))
abbrev mm_ar (t n : Nat) (f : Nat → Option Nat) : mm_E := .inr (.inr (.inr (t, n, f)))
def mm_va (dA : Nat → ClassId) : mm_E → va_E
  | .inl o => .inr o
  | .inr (.inl x) => .inl (dA 0, x.1, .inl x.2)
  | .inr (.inr (.inl x)) => .inl (dA 1, x.1, .inr (.inl x.2))
  | .inr (.inr (.inr x)) => .inl (dA (x.1 + 2), x.2.1, .inr (.inr (.inr (.inr x.2.2))))
def mm_tyn : Nat → FieldType
  | 0 => .int
  | 1 => .long
  | 2 => .object RX2
  | 3 => .object RX0
  | 4 => .object RX6
  | 5 => .object RX7
  | _ => .object RX4
/-- the class of the elements of the t-th kind of array of references -/
def mm_elc : Nat → Nat
  | 0 => 2
  | 1 => 0
  | 2 => 6
  | 3 => 7
  | _ => 4
def mm_tys (dA : Nat → ClassId) : List (ClassId × FieldType) := (List.range 7).map (fun k => (dA k, mm_tyn k))
theorem mm_tys_at (dA : Nat → ClassId) {k : Nat} (h : k < 7) : (mm_tys dA)[k]? = some (dA k, mm_tyn k) := by
  simp [mm_tys, h]
def mm_fr (lo : Nat) : Nat → Prop := fun q => lo ≤ q
def mm_H (D : va_G) (dA : Nat → ClassId) (lo : Nat) (M : mm_M) (H : Heap) : Prop := H.size = M.1 ∧ lo ≤ H.size ∧ ∀ (a : Nat) (e : mm_E), M.2 a = some e → lo ≤ a ∧ va_at D vwCl (a, mm_va dA e) H
def mm_ws : List Cond := lw_tbl.filter goodWord
theorem mm_in {w : Cond} (h : w ∈ lw_tbl) (g : goodWord w = true) : w ∈ mm_ws := List.mem_filter.mpr ⟨h, g⟩
theorem mm_good {ws : List Cond} (h : ∀ w ∈ ws, w ∈ mm_ws) : GoodIn mm_ws ws := fun w hw => ⟨h w hw, good_of_word (List.mem_filter.mp (h w hw)).2⟩
def mm_set (M : mm_M) (a : Nat) (e : mm_E) : mm_M := (M.1, fun q => if q = a then some e else M.2 q)
def mm_new (M : mm_M) (e : mm_E) : mm_M := (M.1 + 1, fun q => if q = M.1 then some e else M.2 q)
def mm_v {β : Type} (ci : Nat) (M : mm_M) (a : Nat) (x : Option β) : Option β := match M.2 a with
  | some (.inl o) => if o.1 = ci then x else none
  | _ => none
def mm_get (ci k : Nat) (M : mm_M) (a : Nat) : Option Value := match M.2 a with
  | some (.inl o) => if o.1 = ci then o.2[k]? else none
  | _ => none
def mm_gi (ci k : Nat) (M : mm_M) (a : Nat) : Option Int32 := match mm_get ci k M a with
  | some (.int v) => some v
  | _ => none
def mm_gl (ci k : Nat) (M : mm_M) (a : Nat) : Option Int64 := match mm_get ci k M a with
  | some (.long v) => some v
  | _ => none
def mm_gr (ci k : Nat) (M : mm_M) (a : Nat) : Option Nat := match mm_get ci k M a with
  | some (.ref v) => some v
  | _ => none
def mm_put (ci k : Nat) (M : mm_M) (a : Nat) (v : Value) : Option mm_M := match M.2 a with
  | some (.inl o) => if o.1 = ci ∧ k < o.2.length then some (mm_set M a (mm_ob ci (o.2.set k v))) else none
  | _ => none
def mm_pi (ci k : Nat) (M : mm_M) (a : Nat) (v : Int32) : Option mm_M := mm_put ci k M a (.int v)
def mm_pl (ci k : Nat) (M : mm_M) (a : Nat) (v : Int64) : Option mm_M := mm_put ci k M a (.long v)
def mm_pr (ci k : Nat) (M : mm_M) (a : Nat) (v : Nat) : Option mm_M := mm_put ci k M a (.ref v)
def mm_pz (ci k : Nat) (M : mm_M) (a : Nat) (v : Int32) : Option mm_M := if v = 0 ∨ v = 1 then mm_put ci k M a (.int v) else none
def mm_rz (v : Int32) (M : mm_M) : Option (Int32 × mm_M) := if v = 0 ∨ v = 1 then some (v, M) else none
def mm_ia (M : mm_M) (a : Nat) (i : Int32) : Option Int32 := match M.2 a with
  | some (.inr (.inl x)) => if i < 0 ∨ x.1 ≤ i.toNatClampNeg then none else some (x.2 i.toNatClampNeg)
  | _ => none
def mm_is (M : mm_M) (a : Nat) (i v : Int32) : Option mm_M := match M.2 a with
  | some (.inr (.inl x)) => if i < 0 ∨ x.1 ≤ i.toNatClampNeg then none else some (mm_set M a (mm_ai x.1 (upd x.2 i.toNatClampNeg v)))
  | _ => none
def mm_la (M : mm_M) (a : Nat) (i : Int32) : Option Int64 := match M.2 a with
  | some (.inr (.inr (.inl x))) => if i < 0 ∨ x.1 ≤ i.toNatClampNeg then none else some (x.2 i.toNatClampNeg)
  | _ => none
def mm_lst (M : mm_M) (a : Nat) (i : Int32) (v : Int64) : Option mm_M := match M.2 a with
  | some (.inr (.inr (.inl x))) => if i < 0 ∨ x.1 ≤ i.toNatClampNeg then none else some (mm_set M a (mm_al x.1 (vp_updL x.2 i.toNatClampNeg v)))
  | _ => none
def mm_ra (M : mm_M) (a : Nat) (i : Int32) : Option Nat := match M.2 a with
  | some (.inr (.inr (.inr x))) => if i < 0 ∨ x.2.1 ≤ i.toNatClampNeg ∨ 5 ≤ x.1 then none else x.2.2 i.toNatClampNeg
  | _ => none
def mm_rs (M : mm_M) (a : Nat) (i : Int32) (v : Nat) : Option mm_M := match M.2 a with
  | some (.inr (.inr (.inr x))) => if i < 0 ∨ x.2.1 ≤ i.toNatClampNeg ∨ 5 ≤ x.1 then none else mm_v (mm_elc x.1) M v (some (mm_set M a (mm_ar x.1 x.2.1 (va_up x.2.2 i.toNatClampNeg (some v)))))
  | _ => none
def mm_len (M : mm_M) (a : Nat) : Option Int32 := match M.2 a with
  | some (.inr (.inl x)) => some (Int32.ofNat x.1)
  | some (.inr (.inr (.inl x))) => some (Int32.ofNat x.1)
  | some (.inr (.inr (.inr x))) => if 5 ≤ x.1 then none else some (Int32.ofNat x.2.1)
  | _ => none
def mm_cp (M : mm_M) (a0 : Nat) (sp : Int32) (a : Nat) (dp n : Int32) : Option mm_M := match M.2 a0, M.2 a with
  | some (.inr (.inl x)), some (.inr (.inl y)) => if sp < 0 ∨ dp < 0 ∨ n < 0 ∨ x.1 < sp.toNatClampNeg + n.toNatClampNeg ∨ y.1 < dp.toNatClampNeg + n.toNatClampNeg then none else some (mm_set M a (mm_ai y.1 (va_cpy x.2 y.2 sp.toNatClampNeg dp.toNatClampNeg n.toNatClampNeg)))
  | _, _ => none
def mm_b2 {α β : Type} (x : Option (α × mm_M)) (F : α → mm_M → Option β) : Option β := match x with
  | some q => F q.1 q.2
  | none => none
def mm_b1 {α β : Type} (x : Option α) (F : α → Option β) : Option β := match x with
  | some q => F q
  | none => none
theorem mm_b1_some {α β : Type} {x : Option α} {F : α → Option β} {o : β} (h : mm_b1 x F = some o) : ∃ v, x = some v ∧ F v = some o := by
  cases x with
  | none => cases h
  | some v => exact ⟨v, rfl, h⟩
theorem mm_b2_some {α β : Type} {x : Option (α × mm_M)} {F : α → mm_M → Option β} {o : β} (h : mm_b2 x F = some o) : ∃ v M, x = some (v, M) ∧ F v M = some o := by
  cases x with
  | none => cases h
  | some v => exact ⟨v.1, v.2, rfl, h⟩
theorem mm_v_some {β : Type} {ci : Nat} {M : mm_M} {a : Nat} {x : Option β} {o : β} (h : mm_v ci M a x = some o) : (∃ fs, M.2 a = some (mm_ob ci fs)) ∧ x = some o := by
  unfold mm_v at h
  split at h
  · rename_i o' he
    obtain ⟨c0, fs⟩ := o'
    split at h
    · rename_i hc; subst hc; exact ⟨⟨fs, he⟩, h⟩
    · cases h
  · cases h
theorem mm_get_some {ci k : Nat} {M : mm_M} {a : Nat} {v : Value} (h : mm_get ci k M a = some v) : ∃ fs, M.2 a = some (mm_ob ci fs) ∧ fs[k]? = some v := by
  unfold mm_get at h
  split at h
  · rename_i o' he
    obtain ⟨c0, fs⟩ := o'
    split at h
    · rename_i hc; subst hc; exact ⟨fs, he, h⟩
    · cases h
  · cases h
theorem mm_gi_some {ci k : Nat} {M : mm_M} {a : Nat} {v : Int32} (h : mm_gi ci k M a = some v) : mm_get ci k M a = some (.int v) := by
  unfold mm_gi at h
  split at h
  · rename_i w he; cases h; exact he
  · cases h
theorem mm_gl_some {ci k : Nat} {M : mm_M} {a : Nat} {v : Int64} (h : mm_gl ci k M a = some v) : mm_get ci k M a = some (.long v) := by
  unfold mm_gl at h
  split at h
  · rename_i w he; cases h; exact he
  · cases h
theorem mm_gr_some {ci k : Nat} {M : mm_M} {a : Nat} {v : Nat} (h : mm_gr ci k M a = some v) : mm_get ci k M a = some (.ref v) := by
  unfold mm_gr at h
  split at h
  · rename_i w he; cases h; exact he
  · cases h
theorem mm_put_some {ci k : Nat} {M M' : mm_M} {a : Nat} {v : Value} (h : mm_put ci k M a v = some M') : ∃ fs, M.2 a = some (mm_ob ci fs) ∧ k < fs.length ∧ M' = mm_set M a (mm_ob ci (fs.set k v)) := by
  unfold mm_put at h
  split at h
  · rename_i o' he
    obtain ⟨c0, fs⟩ := o'
    split at h
    · rename_i hc
      obtain ⟨hc, hk⟩ := hc
      subst hc
      exact ⟨fs, he, hk, (Option.some.inj h).symm⟩
    · cases h
  · cases h
theorem mm_ia_some {M : mm_M} {a : Nat} {i v : Int32} (h : mm_ia M a i = some v) : ∃ n f, M.2 a = some (mm_ai n f) ∧ vp_in i n ∧ v = f i.toNatClampNeg := by
  unfold mm_ia at h
  split at h
  · rename_i x he
    obtain ⟨n, f⟩ := x
    split at h
    · cases h
    · rename_i hc; exact ⟨n, f, he, hc, (Option.some.inj h).symm⟩
  · cases h
theorem mm_is_some {M M' : mm_M} {a : Nat} {i v : Int32} (h : mm_is M a i v = some M') : ∃ n f, M.2 a = some (mm_ai n f) ∧ vp_in i n ∧ M' = mm_set M a (mm_ai n (upd f i.toNatClampNeg v)) := by
  unfold mm_is at h
  split at h
  · rename_i x he
    obtain ⟨n, f⟩ := x
    split at h
    · cases h
    · rename_i hc; exact ⟨n, f, he, hc, (Option.some.inj h).symm⟩
  · cases h
theorem mm_la_some {M : mm_M} {a : Nat} {i : Int32} {v : Int64} (h : mm_la M a i = some v) : ∃ n f, M.2 a = some (mm_al n f) ∧ vp_in i n ∧ v = f i.toNatClampNeg := by
  unfold mm_la at h
  split at h
  · rename_i x he
    obtain ⟨n, f⟩ := x
    split at h
    · cases h
    · rename_i hc; exact ⟨n, f, he, hc, (Option.some.inj h).symm⟩
  · cases h
theorem mm_lst_some {M M' : mm_M} {a : Nat} {i : Int32} {v : Int64} (h : mm_lst M a i v = some M') : ∃ n f, M.2 a = some (mm_al n f) ∧ vp_in i n ∧ M' = mm_set M a (mm_al n (vp_updL f i.toNatClampNeg v)) := by
  unfold mm_lst at h
  split at h
  · rename_i x he
    obtain ⟨n, f⟩ := x
    split at h
    · cases h
    · rename_i hc; exact ⟨n, f, he, hc, (Option.some.inj h).symm⟩
  · cases h
theorem mm_ra_some {M : mm_M} {a : Nat} {i : Int32} {v : Nat} (h : mm_ra M a i = some v) : ∃ t n f, M.2 a = some (mm_ar t n f) ∧ vp_in i n ∧ t < 5 ∧ f i.toNatClampNeg = some v := by
  unfold mm_ra at h
  split at h
  · rename_i x he
    obtain ⟨t, n, f⟩ := x
    split at h
    · cases h
    · rename_i hc
      have hc : ¬ (i < 0 ∨ n ≤ i.toNatClampNeg ∨ 5 ≤ t) := hc
      refine ⟨t, n, f, he, fun q => hc ?_, ?_, h⟩
      · rcases q with q | q
        · exact Or.inl q
        · exact Or.inr (Or.inl q)
      · exact Nat.not_le.mp (fun q => hc (Or.inr (Or.inr q)))
  · cases h
theorem mm_rs_some {M M' : mm_M} {a : Nat} {i : Int32} {v : Nat} (h : mm_rs M a i v = some M') : ∃ t n f fs, M.2 a = some (mm_ar t n f) ∧ vp_in i n ∧ t < 5 ∧ M.2 v = some (mm_ob (mm_elc t) fs) ∧ M' = mm_set M a (mm_ar t n (va_up f i.toNatClampNeg (some v))) := by
  unfold mm_rs at h
  split at h
  · rename_i x he
    obtain ⟨t, n, f⟩ := x
    split at h
    · cases h
    · rename_i hc
      have hc : ¬ (i < 0 ∨ n ≤ i.toNatClampNeg ∨ 5 ≤ t) := hc
      obtain ⟨⟨fs, hf⟩, h⟩ := mm_v_some h
      refine ⟨t, n, f, fs, he, fun q => hc ?_, ?_, hf, (Option.some.inj h).symm⟩
      · rcases q with q | q
        · exact Or.inl q
        · exact Or.inr (Or.inl q)
      · exact Nat.not_le.mp (fun q => hc (Or.inr (Or.inr q)))
  · cases h
theorem mm_cp_some {M M' : mm_M} {a0 a : Nat} {sp dp n : Int32} (h : mm_cp M a0 sp a dp n = some M') : ∃ n0 f n1 g, M.2 a0 = some (mm_ai n0 f) ∧ M.2 a = some (mm_ai n1 g) ∧ ¬ sp < 0 ∧ ¬ dp < 0 ∧ ¬ n < 0 ∧ sp.toNatClampNeg + n.toNatClampNeg ≤ n0 ∧ dp.toNatClampNeg + n.toNatClampNeg ≤ n1 ∧ M' = mm_set M a (mm_ai n1 (va_cpy f g sp.toNatClampNeg dp.toNatClampNeg n.toNatClampNeg)) := by
  unfold mm_cp at h
  split at h
  · rename_i x y he hf
    obtain ⟨n0, f⟩ := x
    obtain ⟨n1, g⟩ := y
    split at h
    · cases h
    · rename_i hc
      simp only [not_or, Nat.not_lt] at hc
      exact ⟨n0, f, n1, g, he, hf, hc.1, hc.2.1, hc.2.2.1, hc.2.2.2.1, hc.2.2.2.2, (Option.some.inj h).symm⟩
  · cases h
theorem mm_H.at {D : va_G} {dA : Nat → ClassId} {lo : Nat} {M : mm_M} {H : Heap} (h : mm_H D dA lo M H) {a : Nat} {e : mm_E} (he : M.2 a = some e) : va_P D vwCl [(a, mm_va dA e)] H := by
  intro k q hk
  cases k with
  | zero => cases hk; exact (h.2.2 a e he).2
  | succ k => simp at hk
theorem mm_H.set {D : va_G} {dA : Nat → ClassId} {lo : Nat} {M : mm_M} {H H1 : Heap} (h : mm_H D dA lo M H) {a : Nat} {e0 e : mm_E} (he : M.2 a = some e0) (z : H1.size = H.size) (oq : ∀ q : Nat, q ≠ a → H1[q]? = H[q]?) (hat : va_at D vwCl (a, mm_va dA e) H1) : mm_H D dA lo (mm_set M a e) H1 := by
  refine ⟨z.trans h.1, by rw [z]; exact h.2.1, fun b e' hb => ?_⟩
  by_cases hq : b = a
  · subst hq
    have : some e = some e' := by simpa [mm_set] using hb
    cases this
    exact ⟨(h.2.2 b e0 he).1, hat⟩
  · have hb' : M.2 b = some e' := by simpa [mm_set, hq] using hb
    obtain ⟨h1, h2⟩ := h.2.2 b e' hb'
    exact ⟨h1, h2.kept (oq b hq)⟩
theorem mm_H.new {D : va_G} {dA : Nat → ClassId} {lo : Nat} {M : mm_M} {H H1 : Heap} (h : mm_H D dA lo M H) {e : mm_E} (z : H1.size = H.size + 1) (oq : ∀ q : Nat, q < H.size → H1[q]? = H[q]?) (hat : va_at D vwCl (M.1, mm_va dA e) H1) : mm_H D dA lo (mm_new M e) H1 := by
  refine ⟨by rw [z, h.1]; rfl, by rw [z]; exact Nat.le_succ_of_le h.2.1, fun b e' hb => ?_⟩
  by_cases hq : b = M.1
  · subst hq
    have : some e = some e' := by simpa [mm_new] using hb
    cases this
    exact ⟨by rw [← h.1]; exact h.2.1, hat⟩
  · have hb' : M.2 b = some e' := by simpa [mm_new, hq] using hb
    obtain ⟨h1, h2⟩ := h.2.2 b e' hb'
    exact ⟨h1, h2.kept (oq b h2.lt)⟩
