/-! the hits one after another, as they are met -/
def cndR (ls : List kL) (P : Nat → Nat → Bool) (i p : Nat) : List kH := ((List.range p).filter (P i)).map (fun q => (i, q))
def cnd (ls : List kL) (P : Nat → Nat → Bool) (k : Nat) : List kH := (List.range k).flatMap (fun i => cndR ls P i (lnN ls i).2.length)
theorem cnd_succ (ls : List kL) (P : Nat → Nat → Bool) (k : Nat) : cnd ls P (k + 1) = cnd ls P k ++ cndR ls P k (lnN ls k).2.length := by
  unfold cnd; rw [List.range_succ, List.flatMap_append]; simp
theorem cndR_succ (ls : List kL) (P : Nat → Nat → Bool) (i p : Nat) : cndR ls P i (p + 1) = cndR ls P i p ++ if P i p = true then [(i, p)] else [] := by
  unfold cndR; rw [List.range_succ, List.filter_append, List.map_append]
  by_cases c : P i p = true <;> simp [c]
theorem mem_cndR {ls : List kL} {P : Nat → Nat → Bool} {i p : Nat} {h : kH} : h ∈ cndR ls P i p ↔ h.1 = i ∧ h.2 < p ∧ P i h.2 = true := by
  unfold cndR
  simp only [List.mem_map, List.mem_filter, List.mem_range]
  constructor
  · rintro ⟨q, ⟨h1, h2⟩, rfl⟩; exact ⟨rfl, h1, h2⟩
  · rintro ⟨h1, h2, h3⟩; exact ⟨h.2, ⟨h2, h3⟩, by rw [← h1]⟩
theorem mem_cnd {ls : List kL} {P : Nat → Nat → Bool} {k : Nat} {h : kH} : h ∈ cnd ls P k ↔ h.1 < k ∧ h.2 < (lnN ls h.1).2.length ∧ P h.1 h.2 = true := by
  unfold cnd
  simp only [List.mem_flatMap, List.mem_range, mem_cndR]
  constructor
  · rintro ⟨i, h1, h2, h3, h4⟩; subst h2; exact ⟨h1, h3, h4⟩
  · rintro ⟨h1, h2, h3⟩; exact ⟨h.1, h1, rfl, h2, h3⟩
theorem cnd_dis (ls : List kL) (P : Nat → Nat → Bool) (k : Nat) : (cnd ls P k).Pairwise (fun a b => a ≠ b) := by
  induction k with
  | zero => simp [cnd]
  | succ k ih =>
    rw [cnd_succ, List.pairwise_append]
    refine ⟨ih, ?_, fun a ha b hb e => ?_⟩
    · unfold cndR
      rw [List.pairwise_map]
      refine List.Pairwise.imp ?_ (List.Pairwise.filter _ List.pairwise_lt_range)
      intro a b hab e
      simp at e; omega
    · have h1 := (mem_cnd.mp ha).1
      have h2 := (mem_cndR.mp hb).1
      rw [e] at h1; omega
theorem cnd_tot {ls : List kL} (hd : numD ls) (wl : Nat) (P : Nat → Nat → Bool) {k : Nat} (hk : k ≤ ls.length) : tot (ltH ls wl) (cnd ls P k) := by
  unfold tot
  refine List.Pairwise.imp_of_mem ?_ (cnd_dis ls P k)
  intro a b ha hb hne
  have h1 := (mem_cnd.mp ha).1
  have h2 := (mem_cnd.mp hb).1
  exact ltH_or hd (by omega) (by omega) hne
theorem fold_cndR {ls : List kL} {P : Nat → Nat → Bool} (f : List kH → kH → List kH) (i p : Nat) (L : List kH) : (cndR ls P i p).foldl f L = (List.range p).foldl (fun L q => if P i q = true then f L (i, q) else L) L := by
  induction p with
  | zero => simp [cndR]
  | succ p ih =>
    rw [cndR_succ, List.foldl_append, ih, List.range_succ, List.foldl_append]
    by_cases c : P i p = true <;> simp [c]
theorem fold_cnd {ls : List kL} {P : Nat → Nat → Bool} (f : List kH → kH → List kH) (k : Nat) (L : List kH) : (cnd ls P k).foldl f L = (List.range k).foldl (fun L i => (List.range (lnN ls i).2.length).foldl (fun L q => if P i q = true then f L (i, q) else L) L) L := by
  induction k with
  | zero => simp [cnd]
  | succ k ih =>
    rw [cnd_succ, List.foldl_append, ih, List.range_succ, List.foldl_append, fold_cndR]
    simp
def hasP (ls : List kL) (w : List Int) : Nat → Nat → Bool := fun i q => hasAt (lnN ls i).2 w q
theorem fb_eq (ls : List kL) (w : List Int) (k : Nat) : fbL ls w k = isB (ltH ls w.length) (cnd ls (hasP ls w) k) := by
  unfold isB; rw [fold_cnd]; rfl
theorem fl_eq (ls : List kL) (w : List Int) (k : Nat) : flL ls w k = (cnd ls (hasP ls w) k).foldl (fun L x => insS (ltH ls w.length) x L) [] := by
  rw [fold_cnd]; rfl
theorem cnd_len (ls : List kL) (P : Nat → Nat → Bool) (k : Nat) (h : ∀ i, i < k → (lnN ls i).2.length ≤ 20) : (cnd ls P k).length ≤ 20 * k := by
  induction k with
  | zero => simp [cnd]
  | succ k ih =>
    rw [cnd_succ, List.length_append]
    have h1 := ih (fun i hi => h i (by omega))
    have h2 := h k (by omega)
    have h3 : (cndR ls P k (lnN ls k).2.length).length ≤ (lnN ls k).2.length := by
      unfold cndR; rw [List.length_map]
      exact Nat.le_trans (List.length_filter_le _ _) (by simp)
    omega
theorem isS_B {lt : kH → kH → Bool} (o : OrdL lt) : ∀ (cs : List kH), tot lt cs → cs.length ≤ 200 → cs.foldl (fun L x => insS lt x L) [] = isB lt cs := by
  suffices H : ∀ (k : Nat) (cs : List kH), cs.length = k → tot lt cs → cs.length ≤ 200 → cs.foldl (fun L x => insS lt x L) [] = isB lt cs from fun cs => H _ cs rfl
  intro k
  induction k with
  | zero =>
    intro cs hl _ _
    rw [List.eq_nil_of_length_eq_zero hl]; rfl
  | succ k ih =>
    intro cs hl ht h2
    rcases List.eq_nil_or_concat cs with rfl | ⟨ds, x, rfl⟩
    · simp at hl
    · simp only [List.concat_eq_append] at hl ht h2 ⊢
      have hl' : ds.length = k := by simp at hl; exact hl
      unfold tot at ht
      rw [List.pairwise_append] at ht
      have h3 : ds.length ≤ 200 := by simp at h2; omega
      rw [List.foldl_append, ih ds hl' ht.1 h3, isB_app]
      obtain ⟨i1, i2⟩ := isB_ok o ds ht.1
      have hc : cmpb lt x (isB lt ds) := cmpb_of (fun y hy => ht.2.2 y (i1.mem_iff.mp hy) x (by simp))
      exact insS_B o i2 hc (by rw [i1.length_eq]; exact h3)
/-- class and reference rank alike -/
theorem fl_fb {ls : List kL} (ho : okL ls) (hd : numD ls) (w : List Int) : flL ls w ls.length = fbL ls w ls.length := by
  have := ho.1
  have hl := cnd_len ls (hasP ls w) ls.length (fun i hi => (ho.2 i hi).2.1)
  rw [fl_eq, fb_eq, isS_B (ordL_H ls w.length) _ (cnd_tot hd _ _ (Nat.le_refl _)) (by omega)]
theorem posO_take {lt : kH → kH → Bool} {x : kH} {L : List kH} {p : Nat} (h : posO lt x L p) (sz : Nat) : posO lt x (L.take sz) (min p sz) := by
  have g : ∀ j, j < sz → (L.take sz).getD j (0, 0) = L.getD j (0, 0) := by
    intro j hj
    rw [List.getD_eq_getElem?_getD, List.getElem?_take, if_pos hj, List.getD_eq_getElem?_getD]
  refine ⟨by have := h.1; simp; omega, fun j hj => ?_, fun j h1 h2 => ?_⟩
  · rw [g j (by omega)]; exact h.2.1 j (by omega)
  · simp at h2
    rw [g j (by omega)]; exact h.2.2 j (by omega) (by omega)
theorem off_step {lt : kH → kH → Bool} (o : OrdL lt) {x : kH} {L : List kH} (hs : sor lt L) (hc : cmpb lt x L) (sz : Nat) : offK lt sz x (L.take sz) = (insB lt x L).take sz := by
  have hp := posB_ok o hs hc
  have hs' : sor lt (L.take sz) := List.Pairwise.sublist (List.take_sublist _ _) hs
  have hc' : cmpb lt x (L.take sz) := by
    intro j hj
    rw [List.length_take] at hj
    rw [List.getD_eq_getElem?_getD, List.getElem?_take, if_pos (by omega), ← List.getD_eq_getElem?_getD]
    exact hc j (by omega)
  have e := posO_un o (posB_ok o hs' hc') (posO_take hp sz)
  unfold offK insB
  rw [e]
  generalize posB lt x L L.length = p at *
  have hpl := hp.1
  by_cases c : sz ≤ p
  · rw [Nat.min_eq_right c, List.take_take, Nat.min_self, List.take_append_of_le_length (by simp; omega), List.take_append_of_le_length (by simp; omega), List.take_take, List.take_take, Nat.min_self, Nat.min_eq_left c]
  · have c' : p < sz := by omega
    rw [Nat.min_eq_left (by omega), List.take_take, Nat.min_eq_left (by omega)]
    rw [List.take_append, List.take_append]
    have e1 : (L.take p).length = p := by simp; omega
    have e0 : List.take sz (List.take p L) = List.take p L := List.take_of_length_le (by omega)
    rw [e1, e0]
    obtain ⟨d, hd⟩ : ∃ d, sz - p = d + 1 := ⟨sz - p - 1, by omega⟩
    rw [hd, List.take_succ_cons, List.take_succ_cons, List.drop_take, List.take_take, hd, Nat.min_eq_left (by omega)]
theorem isO_B {lt : kH → kH → Bool} (o : OrdL lt) (sz : Nat) : ∀ (cs : List kH), tot lt cs → cs.foldl (fun L x => offK lt sz x L) [] = (isB lt cs).take sz := by
  suffices H : ∀ (k : Nat) (cs : List kH), cs.length = k → tot lt cs → cs.foldl (fun L x => offK lt sz x L) [] = (isB lt cs).take sz from fun cs => H _ cs rfl
  intro k
  induction k with
  | zero =>
    intro cs hl _
    rw [List.eq_nil_of_length_eq_zero hl]; simp [isB]
  | succ k ih =>
    intro cs hl ht
    rcases List.eq_nil_or_concat cs with rfl | ⟨ds, x, rfl⟩
    · simp at hl
    · simp only [List.concat_eq_append] at hl ht ⊢
      have hl' : ds.length = k := by simp at hl; exact hl
      unfold tot at ht
      rw [List.pairwise_append] at ht
      rw [List.foldl_append, ih ds hl' ht.1, isB_app]
      obtain ⟨i1, i2⟩ := isB_ok o ds ht.1
      have hc : cmpb lt x (isB lt ds) := cmpb_of (fun y hy => ht.2.2 y (i1.mem_iff.mp hy) x (by simp))
      exact off_step o i2 hc sz
def ahP (ls : List kL) (c : kU) : Nat → Nat → Bool := fun i q => ahU c (lnN ls i) q
theorem scK_eq {ls : List kL} (hd : numD ls) (c : kU) : scL ls c ls.length = (isB (ltH ls c.1.length) (cnd ls (ahP ls c) ls.length)).take c.2.1.toNat := by
  rw [← isO_B (ordL_H ls c.1.length) _ _ (cnd_tot hd _ _ (Nat.le_refl _)), fold_cnd]; rfl
theorem cnd_filter (ls : List kL) (P : Nat → Nat → Bool) (R : kH → Bool) (k : Nat) : (cnd ls P k).filter R = cnd ls (fun i q => P i q && R (i, q)) k := by
  induction k with
  | zero => simp [cnd]
  | succ k ih =>
    rw [cnd_succ, cnd_succ, List.filter_append, ih]
    congr 1
    unfold cndR
    rw [List.filter_map, List.filter_filter]
    congr 2
    funext q
    simp [Bool.and_comm]
/-- the part of a cursor's hits that is ahead of it, in order -/
def ahL (ls : List kL) (c : kU) : List kH := (fbL ls c.1 ls.length).filter (fun h => !c.2.2.1 || decide (0 < cmpH c.1.length h.2 (lnN ls h.1).1 (lnN ls h.1).2 c.2.2.2.2.2.1 c.2.2.2.1 c.2.2.2.2.1))
theorem ah_eq {ls : List kL} (hd : numD ls) (c : kU) : isB (ltH ls c.1.length) (cnd ls (ahP ls c) ls.length) = ahL ls c := by
  unfold ahL
  rw [fb_eq, ← isB_filter (ordL_H ls c.1.length) (cnd_tot hd _ _ (Nat.le_refl _)), cnd_filter]
  rfl
theorem sc_ah {ls : List kL} (hd : numD ls) (c : kU) : scL ls c ls.length = (ahL ls c).take c.2.1.toNat := by rw [scK_eq hd, ah_eq hd]
theorem cnd_sum (ls : List kL) (P : Nat → Nat → Bool) (f : kL → Nat) (hf : ∀ i, i < ls.length → f (lnN ls i) = ((List.range (lnN ls i).2.length).filter (P i)).length) : (cnd ls P ls.length).length = (ls.map f).sum := by
  have key : ∀ k, k ≤ ls.length → (cnd ls P k).length = ((ls.take k).map f).sum := by
    intro k
    induction k with
    | zero => intro _; simp [cnd]
    | succ k ih =>
      intro hk
      have e : lnN ls k = ls[k]'(by omega) := by unfold lnN; rw [List.getD_eq_getElem?_getD, List.getElem?_eq_getElem (by omega)]; rfl
      rw [cnd_succ, List.length_append, ih (by omega), List.take_succ_eq_append_getElem (show k < ls.length by omega), List.map_append, List.sum_append]
      have := hf k (by omega)
      unfold cndR
      rw [List.length_map, ← this, e]; simp
  have := key ls.length (Nat.le_refl _)
  rw [List.take_of_length_le (Nat.le_refl _)] at this
  exact this
theorem fb_len {ls : List kL} (hd : numD ls) (w : List Int) : (fbL ls w ls.length).length = hitsL ls w := by
  rw [fb_eq, (isB_ok (ordL_H ls w.length) _ (cnd_tot hd _ _ (Nat.le_refl _))).1.length_eq]
  exact cnd_sum ls (hasP ls w) (fun l => cnt l.2 w l.2.length) (fun i hi => rfl)
theorem ah_len {ls : List kL} (hd : numD ls) (c : kU) : (ahL ls c).length = leftL ls c := by
  rw [← ah_eq hd, (isB_ok (ordL_H ls c.1.length) _ (cnd_tot hd _ _ (Nat.le_refl _))).1.length_eq]
  exact cnd_sum ls (ahP ls c) (fun l => cntA c l l.2.length) (fun i hi => rfl)
theorem fb_so {ls : List kL} (hd : numD ls) (w : List Int) : sor (ltH ls w.length) (fbL ls w ls.length) := by
  rw [fb_eq]; exact (isB_ok (ordL_H ls w.length) _ (cnd_tot hd _ _ (Nat.le_refl _))).2
theorem fb_mem {ls : List kL} (hd : numD ls) {w : List Int} {h : kH} : h ∈ fbL ls w ls.length ↔ h.1 < ls.length ∧ h.2 < (lnN ls h.1).2.length ∧ hasAt (lnN ls h.1).2 w h.2 = true := by
  rw [fb_eq, (isB_ok (ordL_H ls w.length) _ (cnd_tot hd _ _ (Nat.le_refl _))).1.mem_iff, mem_cnd]; rfl
theorem drop_filter {lt : kH → kH → Bool} {P : kH → Bool} (hP : ∀ a b, P a = true → lt a b = true → P b = true) : ∀ {L : List kH}, sor lt L → L.filter P = L.dropWhile (fun x => !P x) := by
  intro L
  induction L with
  | nil => intro _; rfl
  | cons x L ih =>
    intro h
    unfold sor at h
    rw [List.pairwise_cons] at h
    rw [List.filter_cons, List.dropWhile_cons]
    by_cases c : P x = true
    · simp only [c, if_true, Bool.not_true]
      rw [List.filter_eq_self.mpr (fun y hy => hP x y c (h.1 y hy))]; simp
    · simp only [c]
      simp
      exact ih h.2
/-- what is ahead of a cursor is a tail of its hits -/
theorem ah_drop {ls : List kL} (hd : numD ls) (c : kU) : ahL ls c = (fbL ls c.1 ls.length).dropWhile (fun h => !(!c.2.2.1 || decide (0 < cmpH c.1.length h.2 (lnN ls h.1).1 (lnN ls h.1).2 c.2.2.2.2.2.1 c.2.2.2.1 c.2.2.2.2.1))) := by
  unfold ahL
  refine drop_filter ?_ (fb_so hd c.1)
  intro a b h1 h2
  cases e : c.2.2.1
  · rfl
  · rw [e] at h1
    simp at h1 ⊢
    unfold ltH cmpK at h2
    have h2 := of_decide_eq_true h2
    have n1 := cmpH_neg c.1.length a.2 c.2.2.2.2.2.1 (lnN ls a.1).1 c.2.2.2.1 (lnN ls a.1).2 c.2.2.2.2.1
    have n2 := cmpH_neg c.1.length b.2 c.2.2.2.2.2.1 (lnN ls b.1).1 c.2.2.2.1 (lnN ls b.1).2 c.2.2.2.2.1
    have := cmpH_tr (show cmpH c.1.length c.2.2.2.2.2.1 c.2.2.2.1 c.2.2.2.2.1 a.2 (lnN ls a.1).1 (lnN ls a.1).2 < 0 by omega) h2
    omega
