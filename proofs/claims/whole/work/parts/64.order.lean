/-! the order of hits; putting in by halving and from the back give the same -/
theorem cmpL_rfl (A : List Int) : cmpL A A = 0 := by
  induction A with
  | nil => rfl
  | cons x A ih => simp [cmpL, ih]
theorem cmpL_eq {A B : List Int} (h : cmpL A B = 0) : A = B := by
  induction A generalizing B with
  | nil => cases B with
    | nil => rfl
    | cons y B => simp [cmpL] at h
  | cons x A ih =>
    cases B with
    | nil => simp [cmpL] at h
    | cons y B =>
      simp only [cmpL] at h
      by_cases c : x = y
      · rw [if_pos c] at h; rw [c, ih h]
      · rw [if_neg c] at h
        split at h <;> omega
theorem cmpL_neg (A B : List Int) : cmpL B A = - cmpL A B := by
  induction A generalizing B with
  | nil => cases B <;> simp [cmpL]
  | cons x A ih =>
    cases B with
    | nil => simp [cmpL]
    | cons y B =>
      simp only [cmpL]
      by_cases c : x = y
      · rw [if_pos c, if_pos c.symm]; exact ih B
      · rw [if_neg c, if_neg (fun q => c q.symm)]
        by_cases d : x < y
        · rw [if_pos d, if_neg (by omega)]; rfl
        · rw [if_neg d, if_pos (by omega)]
theorem cmpL_tr {A B C : List Int} (h : cmpL A B < 0) (g : cmpL B C < 0) : cmpL A C < 0 := by
  induction A generalizing B C with
  | nil =>
    cases B with
    | nil => simp [cmpL] at h
    | cons y B =>
      cases C with
      | nil => simp [cmpL] at g
      | cons z C => simp [cmpL]
  | cons x A ih =>
    cases B with
    | nil => simp [cmpL] at h
    | cons y B =>
      cases C with
      | nil => simp [cmpL] at g
      | cons z C =>
        simp only [cmpL] at h g ⊢
        by_cases c : x = y
        · rw [if_pos c] at h
          by_cases d : y = z
          · rw [if_pos d] at g; rw [if_pos (c.trans d)]; exact ih h g
          · rw [if_neg d] at g; rw [c, if_neg d]; exact g
        · rw [if_neg c] at h
          by_cases d : y = z
          · rw [← d, if_neg c]; exact h
          · rw [if_neg d] at g
            have h1 : x < y := by split at h <;> omega
            have h2 : y < z := by split at g <;> omega
            rw [if_neg (by omega), if_pos (by omega)]; omega
theorem lex_lt {a1 a2 a3 b1 b2 b3 : Int} (t : a1 < 0 → a2 < 0 → a3 < 0) (e1 : a1 = 0 → a3 = a2) (e2 : a2 = 0 → a3 = a1) (hb : b1 < 0 → b2 < 0 → b3 < 0) : (if a1 ≠ 0 then a1 else b1) < 0 → (if a2 ≠ 0 then a2 else b2) < 0 → (if a3 ≠ 0 then a3 else b3) < 0 := by
  intro h1 h2
  by_cases c1 : a1 = 0
  · rw [if_neg (by simp [c1])] at h1
    have := e1 c1
    by_cases c2 : a2 = 0
    · rw [if_neg (by simp [c2])] at h2
      rw [if_neg (by simp; omega)]; exact hb h1 h2
    · rw [if_pos c2] at h2
      rw [if_pos (by omega)]; omega
  · rw [if_pos c1] at h1
    by_cases c2 : a2 = 0
    · have := e2 c2
      rw [if_pos (by omega)]; omega
    · rw [if_pos c2] at h2
      have := t h1 h2
      rw [if_pos (by omega)]; exact this
theorem cmpH_tr {wl p q r : Nat} {u v w : Int} {xs ys zs : List Int} (h : cmpH wl p u xs q v ys < 0) (g : cmpH wl q v ys r w zs < 0) : cmpH wl p u xs r w zs < 0 := by
  have E : ∀ {A B C : List Int}, (cmpL A B = 0 → cmpL A C = cmpL B C) ∧ (cmpL B C = 0 → cmpL A C = cmpL A B) := fun {A B C} => ⟨fun h => by rw [cmpL_eq h], fun h => by rw [cmpL_eq h]⟩
  unfold cmpH at *
  refine lex_lt cmpL_tr E.1 E.2 (lex_lt cmpL_tr E.1 E.2 (lex_lt ?_ ?_ ?_ ?_)) h g
  · intro h1 h2; omega
  · intro h1; omega
  · intro h1; omega
  · intro h1 h2; omega
theorem cmpH_neg (wl p q : Nat) (u v : Int) (xs ys : List Int) : cmpH wl q v ys p u xs = - cmpH wl p u xs q v ys := by
  unfold cmpH
  rw [cmpL_neg (xs.drop (p + wl)) (ys.drop (q + wl)), cmpL_neg (xs.take p).reverse (ys.take q).reverse]
  by_cases c1 : cmpL (xs.drop (p + wl)) (ys.drop (q + wl)) = 0
  · by_cases c2 : cmpL (xs.take p).reverse (ys.take q).reverse = 0
    · by_cases c3 : u - v = 0
      · rw [c1, c2, if_neg (by simp), if_neg (by simp), if_neg (by omega), if_neg (by simp), if_neg (by simp), if_neg (by omega)]; omega
      · rw [c1, c2, if_neg (by simp), if_neg (by simp), if_pos (by omega), if_neg (by simp), if_neg (by simp), if_pos (by omega)]; omega
    · rw [c1, if_neg (by simp), if_pos (by omega), if_neg (by simp), if_pos c2]
  · rw [if_pos (by omega), if_pos c1]
def numD (ls : List kL) : Prop := ∀ i j, i < ls.length → j < ls.length → (lnN ls i).1 = (lnN ls j).1 → i = j
theorem ltH_tr {ls : List kL} {wl : Nat} {a b c : kH} (h : ltH ls wl a b = true) (g : ltH ls wl b c = true) : ltH ls wl a c = true := by
  unfold ltH at *
  exact decide_eq_true (cmpH_tr (of_decide_eq_true h) (of_decide_eq_true g))
theorem ltH_as {ls : List kL} {wl : Nat} {a b : kH} (h : ltH ls wl a b = true) : ltH ls wl b a = false := by
  unfold ltH cmpK at *
  have h := of_decide_eq_true h
  have := cmpH_neg wl a.2 b.2 (lnN ls a.1).1 (lnN ls b.1).1 (lnN ls a.1).2 (lnN ls b.1).2
  exact decide_eq_false (by omega)
theorem ltH_or {ls : List kL} (hd : numD ls) {wl : Nat} {a b : kH} (ha : a.1 < ls.length) (hb : b.1 < ls.length) (hn : a ≠ b) : ltH ls wl a b = true ∨ ltH ls wl b a = true := by
  unfold ltH cmpK
  have e := cmpH_neg wl a.2 b.2 (lnN ls a.1).1 (lnN ls b.1).1 (lnN ls a.1).2 (lnN ls b.1).2
  by_cases c : cmpH wl a.2 (lnN ls a.1).1 (lnN ls a.1).2 b.2 (lnN ls b.1).1 (lnN ls b.1).2 = 0
  · exfalso
    unfold cmpH at c
    split at c
    · omega
    · split at c
      · omega
      · split at c
        · omega
        · have e1 := hd a.1 b.1 ha hb (by omega)
          apply hn
          obtain ⟨a1, a2⟩ := a
          obtain ⟨b1, b2⟩ := b
          simp at e1 c ⊢
          omega
  · by_cases d : cmpH wl a.2 (lnN ls a.1).1 (lnN ls a.1).2 b.2 (lnN ls b.1).1 (lnN ls b.1).2 < 0
    · left; exact decide_eq_true d
    · right; exact decide_eq_true (by omega)
/-- sorted -/
def sor (lt : kH → kH → Bool) (L : List kH) : Prop := L.Pairwise (fun a b => lt a b = true)
theorem sor.get {lt : kH → kH → Bool} {L : List kH} (h : sor lt L) {i j : Nat} (hij : i < j) (hj : j < L.length) : lt (L.getD i (0, 0)) (L.getD j (0, 0)) = true := by
  rw [List.getD_eq_getElem?_getD, List.getD_eq_getElem?_getD, List.getElem?_eq_getElem (by omega), List.getElem?_eq_getElem hj]
  exact List.pairwise_iff_getElem.mp h i j (by omega) hj hij
/-- the place of x in L -/
def posO (lt : kH → kH → Bool) (x : kH) (L : List kH) (p : Nat) : Prop := p ≤ L.length ∧ (∀ j, j < p → lt (L.getD j (0, 0)) x = true) ∧ ∀ j, p ≤ j → j < L.length → lt x (L.getD j (0, 0)) = true
def OrdL (lt : kH → kH → Bool) : Prop := (∀ a b c, lt a b = true → lt b c = true → lt a c = true) ∧ ∀ a b, lt a b = true → lt b a = false
theorem OrdL.tr {lt : kH → kH → Bool} (o : OrdL lt) (a b c : kH) (h : lt a b = true) (g : lt b c = true) : lt a c = true := o.1 a b c h g
theorem OrdL.as {lt : kH → kH → Bool} (o : OrdL lt) (a b : kH) (h : lt a b = true) : lt b a = false := o.2 a b h
theorem ordL_H (ls : List kL) (wl : Nat) : OrdL (ltH ls wl) := ⟨fun _ _ _ => ltH_tr, fun _ _ => ltH_as⟩
theorem posO_un {lt : kH → kH → Bool} (o : OrdL lt) {x : kH} {L : List kH} {p q : Nat} (h : posO lt x L p) (g : posO lt x L q) : p = q := by
  by_cases c : p < q
  · have a := h.2.2 p (Nat.le_refl _) (by have := g.1; omega)
    have b := g.2.1 p c
    rw [o.as _ _ a] at b; cases b
  · by_cases d : q < p
    · have a := g.2.2 q (Nat.le_refl _) (by have := h.1; omega)
      have b := h.2.1 q d
      rw [o.as _ _ a] at b; cases b
    · omega
def cmpb (lt : kH → kH → Bool) (x : kH) (L : List kH) : Prop := ∀ j, j < L.length → lt (L.getD j (0, 0)) x = true ∨ lt x (L.getD j (0, 0)) = true
theorem posB_ok {lt : kH → kH → Bool} (o : OrdL lt) {x : kH} {L : List kH} (hs : sor lt L) (hc : cmpb lt x L) : posO lt x L (posB lt x L L.length) := by
  have key : ∀ k, k ≤ L.length → (∀ j, posB lt x L k ≤ j → j < k → lt x (L.getD j (0, 0)) = true) ∧ (posB lt x L k = 0 ∨ lt x (L.getD (posB lt x L k - 1) (0, 0)) = false) := by
    intro k
    induction k with
    | zero => intro _; exact ⟨fun j _ h => by omega, Or.inl rfl⟩
    | succ k ih =>
      intro hk
      have := ih (by omega)
      by_cases c : lt x (L.getD k (0, 0)) = true
      · have e : posB lt x L (k + 1) = posB lt x L k := by simp only [posB]; rw [if_pos c]
        rw [e]
        refine ⟨fun j h1 h2 => ?_, this.2⟩
        by_cases d : j = k
        · rw [d]; exact c
        · exact this.1 j h1 (by omega)
      · have e : posB lt x L (k + 1) = k + 1 := by simp only [posB]; rw [if_neg c]
        rw [e]
        exact ⟨fun j h1 h2 => by omega, Or.inr (by simpa using c)⟩
  have pb := posB_le lt x L L.length
  obtain ⟨k1, k2⟩ := key L.length (Nat.le_refl _)
  refine ⟨pb, fun j hj => ?_, k1⟩
  rcases k2 with k2 | k2
  · omega
  · have c := hc (posB lt x L L.length - 1) (by omega)
    rw [k2] at c
    have c : lt (L.getD (posB lt x L L.length - 1) (0, 0)) x = true := by simpa using c
    by_cases d : j = posB lt x L L.length - 1
    · rw [d]; exact c
    · exact o.tr _ _ _ (hs.get (i := j) (j := posB lt x L L.length - 1) (by omega) (by omega)) c
theorem bsF_ok {lt : kH → kH → Bool} (o : OrdL lt) {x : kH} {L : List kH} (hs : sor lt L) (hc : cmpb lt x L) (hl : L.length ≤ 200) : posO lt x L (bsF lt x L 200 0 L.length) := by
  have key : ∀ k low high, low ≤ high → high ≤ L.length → high - low ≤ k → (∀ j, j < low → lt (L.getD j (0, 0)) x = true) → (∀ j, high ≤ j → j < L.length → lt x (L.getD j (0, 0)) = true) → posO lt x L (bsF lt x L k low high) := by
    intro k
    induction k with
    | zero =>
      intro low high h1 h2 h3 h4 h5
      simp only [bsF]
      exact ⟨by omega, h4, fun j a b => h5 j (by omega) b⟩
    | succ k ih =>
      intro low high h1 h2 h3 h4 h5
      simp only [bsF]
      by_cases c : low < high
      · rw [if_pos c]
        by_cases d : lt (L.getD ((low + high) / 2) (0, 0)) x = true
        · rw [if_pos d]
          refine ih _ _ (by omega) h2 (by omega) (fun j hj => ?_) h5
          by_cases e : j = (low + high) / 2
          · rw [e]; exact d
          · exact o.tr _ _ _ (hs.get (i := j) (j := (low + high) / 2) (by omega) (by omega)) d
        · rw [if_neg d]
          have d' : lt x (L.getD ((low + high) / 2) (0, 0)) = true := (hc _ (by omega)).resolve_left d
          refine ih _ _ (by omega) (by omega) (by omega) h4 (fun j a b => ?_)
          by_cases e : j = (low + high) / 2
          · rw [e]; exact d'
          · exact o.tr _ _ _ d' (hs.get (i := (low + high) / 2) (j := j) (by omega) b)
      · rw [if_neg c]
        exact ⟨by omega, h4, fun j a b => h5 j (by omega) b⟩
  exact key 200 0 L.length (by omega) (Nat.le_refl _) (by omega) (fun j hj => by omega) (fun j a b => by omega)
theorem insS_B {lt : kH → kH → Bool} (o : OrdL lt) {x : kH} {L : List kH} (hs : sor lt L) (hc : cmpb lt x L) (hl : L.length ≤ 200) : insS lt x L = insB lt x L := by
  unfold insS insB
  rw [posO_un o (bsF_ok o hs hc hl) (posB_ok o hs hc)]
theorem posO.take {lt : kH → kH → Bool} {x : kH} {L : List kH} {p : Nat} (h : posO lt x L p) : ∀ y ∈ L.take p, lt y x = true := by
  intro y hy
  obtain ⟨i, hi, rfl⟩ := List.mem_iff_getElem.mp hy
  have hi' : i < p ∧ i < L.length := by simp at hi; omega
  have := h.2.1 i hi'.1
  rw [List.getD_eq_getElem?_getD, List.getElem?_eq_getElem hi'.2] at this
  simpa using this
theorem posO.drop {lt : kH → kH → Bool} {x : kH} {L : List kH} {p : Nat} (h : posO lt x L p) : ∀ y ∈ L.drop p, lt x y = true := by
  intro y hy
  obtain ⟨i, hi, rfl⟩ := List.mem_iff_getElem.mp hy
  have hi' : p + i < L.length := by simp at hi; omega
  have := h.2.2 (p + i) (by omega) hi'
  rw [List.getD_eq_getElem?_getD, List.getElem?_eq_getElem hi'] at this
  simpa using this
theorem insB_pm (lt : kH → kH → Bool) (x : kH) (L : List kH) : (insB lt x L).Perm (x :: L) := by
  unfold insB
  refine List.perm_middle.trans ?_
  rw [List.take_append_drop]
theorem insB_so {lt : kH → kH → Bool} (o : OrdL lt) {x : kH} {L : List kH} (hs : sor lt L) (hc : cmpb lt x L) : sor lt (insB lt x L) := by
  have hp := posB_ok o hs hc
  unfold insB sor
  generalize posB lt x L L.length = p at *
  have hs' : List.Pairwise (fun a b => lt a b = true) (L.take p ++ L.drop p) := by rw [List.take_append_drop]; exact hs
  rw [List.pairwise_append] at hs' ⊢
  refine ⟨hs'.1, ?_, fun a ha b hb => ?_⟩
  · rw [List.pairwise_cons]; exact ⟨hp.drop, hs'.2.1⟩
  · rcases List.mem_cons.mp hb with rfl | hb
    · exact hp.take a ha
    · exact hs'.2.2 a ha b hb
theorem cmpb_of {lt : kH → kH → Bool} {x : kH} {L : List kH} (h : ∀ y ∈ L, lt y x = true ∨ lt x y = true) : cmpb lt x L := by
  intro j hj
  rw [List.getD_eq_getElem?_getD, List.getElem?_eq_getElem hj]
  exact h _ (List.getElem_mem hj)
/-- sorting by putting in from the back -/
def isB (lt : kH → kH → Bool) (cs : List kH) : List kH := cs.foldl (fun L x => insB lt x L) []
theorem isB_app (lt : kH → kH → Bool) (cs : List kH) (x : kH) : isB lt (cs ++ [x]) = insB lt x (isB lt cs) := by simp [isB]
/-- any two of them are in the order -/
def tot (lt : kH → kH → Bool) (cs : List kH) : Prop := cs.Pairwise (fun a b => lt a b = true ∨ lt b a = true)
theorem isB_ok {lt : kH → kH → Bool} (o : OrdL lt) : ∀ (cs : List kH), tot lt cs → (isB lt cs).Perm cs ∧ sor lt (isB lt cs) := by
  intro cs
  suffices H : ∀ (k : Nat) (cs : List kH), cs.length = k → tot lt cs → (isB lt cs).Perm cs ∧ sor lt (isB lt cs) from H _ cs rfl
  intro k
  induction k with
  | zero =>
    intro cs hl _
    rw [List.eq_nil_of_length_eq_zero hl]
    exact ⟨List.Perm.refl _, List.Pairwise.nil⟩
  | succ k ih =>
    intro cs hl ht
    rcases List.eq_nil_or_concat cs with rfl | ⟨ds, x, rfl⟩
    · simp at hl
    · have hl' : ds.length = k := by simp at hl; exact hl
      unfold tot at ht
      simp only [List.concat_eq_append] at ht ⊢
      rw [List.pairwise_append] at ht
      obtain ⟨i1, i2⟩ := ih ds hl' ht.1
      rw [isB_app]
      have hc : cmpb lt x (isB lt ds) := cmpb_of (fun y hy => ht.2.2 y (i1.mem_iff.mp hy) x (by simp))
      refine ⟨(insB_pm lt x _).trans ?_, insB_so o i2 hc⟩
      exact (List.Perm.cons x i1).trans (List.perm_append_singleton x ds).symm
theorem so_eq {lt : kH → kH → Bool} (o : OrdL lt) {L K : List kH} (h : sor lt L) (g : sor lt K) (p : L.Perm K) : L = K := by
  refine List.Perm.eq_of_pairwise (le := fun a b => lt a b = true) (fun a b _ _ h1 h2 => ?_) h g p
  rw [o.as _ _ h1] at h2; cases h2
theorem tot.filter {lt : kH → kH → Bool} {cs : List kH} (h : tot lt cs) (P : kH → Bool) : tot lt (cs.filter P) := List.Pairwise.filter P h
theorem isB_filter {lt : kH → kH → Bool} (o : OrdL lt) {cs : List kH} (h : tot lt cs) (P : kH → Bool) : isB lt (cs.filter P) = (isB lt cs).filter P := by
  obtain ⟨p1, s1⟩ := isB_ok o _ (h.filter P)
  obtain ⟨p2, s2⟩ := isB_ok o _ h
  exact so_eq o s1 (List.Pairwise.filter P s2) (p1.trans (p2.filter P).symm)
