/-! the class: a new object -/
/-- memory grown: all that changed lies between a and the new end e -/
def ga (M M' : mm_M) (a e : Nat) : Prop := M'.1 = e ∧ ∀ q, (q < a ∨ e ≤ q) → M'.2 q = M.2 q
theorem ga.fr {M M' : mm_M} {a e : Nat} (h : ga M M' a e) : _root_.fr M (M.1, M'.2) a (e - a) := ⟨rfl, fun q hq => h.2 q (by omega)⟩
theorem ga.trans {M M1 M2 : mm_M} {a e b e2 : Nat} (h : ga M M1 a e) (g : ga M1 M2 b e2) (h1 : a ≤ b) (h2 : e ≤ e2) : ga M M2 a e2 := ⟨g.1, fun q hq => (g.2 q (by omega)).trans (h.2 q (by omega))⟩
theorem ga.at {M M' : mm_M} {a e q : Nat} {x : Option mm_E} (h : ga M M' a e) (hq : M.2 q = x) (hd : q < a ∨ e ≤ q) : M'.2 q = x := (h.2 q hd).trans hq
theorem fr.ga {M M' : mm_M} {b k a e : Nat} (h : fr M M' b k) (h1 : M.1 = e) (h2 : a ≤ b) (h3 : b + k ≤ e) : ga M M' a e := ⟨h.1.trans h1, fun q hq => h.2 q (by omega)⟩
theorem nw_ex (M : mm_M) (e : mm_E) : ∃ M1, (∀ f : Nat → mm_M → Option mm_M, mm_nw M e f = f M.1 M1) ∧ M1.2 M.1 = some e ∧ ga M M1 M.1 (M.1 + 1) := ⟨mm_new M e, fun f => rfl, by simp [mm_new], rfl, fun q hq => by
  show (if q = M.1 then some e else M.2 q) = M.2 q
  rw [if_neg (by omega)]⟩
theorem nw_at {M : mm_M} {a : Nat} (h : M.1 = a) (e : mm_E) : ∃ M1, (∀ f : Nat → mm_M → Option mm_M, mm_nw M e f = f a M1) ∧ M1.2 a = some e ∧ ga M M1 a (a + 1) := by subst h; exact nw_ex M e
theorem pr_ex {M : mm_M} {a ci : Nat} {fs : List Value} (h : M.2 a = some (mm_ob ci fs)) (k : Nat) (v : Nat) (hk : k < fs.length := by simp) : ∃ M1, mm_pr ci k M a v = some M1 ∧ M1.2 a = some (mm_ob ci (fs.set k (.ref v))) ∧ fr M M1 a 1 := ⟨_, pr_at h k hk v, set_eq _ _ _, fr.set (by omega)⟩
theorem bd_nil : bd [] := fun x hx => by simp at hx
theorem i5 {n : Nat} {M : mm_M} {a : Nat} (h1 : M.1 = a + 1) (h2 : M.2 a = some (mm_ob 5 [.null, .int (iI 0)])) : ∃ M', pX5_init n M a = some M' ∧ Sg M' a [] ∧ ga M M' a (a + 2) := by
  obtain ⟨M1, e1, s1, g1⟩ := nw_at h1 (mm_ai 20 (fun _ => iI 0))
  obtain ⟨M2, e2, s2, f2⟩ := pr_ex (g1.at h2 (by omega)) 0 (a + 1)
  refine ⟨M2, ?_, ⟨by simp, bd_nil, s2, _, f2.at s1 (by omega), fun i hi => by simp at hi⟩, (g1.trans (f2.ga g1.1 (Nat.le_refl _) (by omega)) (by omega) (by omega) : ga M M2 a (a + 2))⟩
  simp only [pX5_init, L0, e1, e2, b1_s]
