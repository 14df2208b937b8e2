/-! places in order: those that share stand side by side -/
theorem lcp_iff (X Y : List Int) (n : Nat) : n ≤ lcp X Y ↔ n ≤ X.length ∧ n ≤ Y.length ∧ X.take n = Y.take n := by
  induction n generalizing X Y with
  | zero => simp
  | succ n ih =>
    cases X with
    | nil => simp [lcp]
    | cons x X =>
      cases Y with
      | nil => simp [lcp]
      | cons y Y =>
        simp only [lcp]
        by_cases c : x = y
        · subst c
          rw [if_pos rfl]
          have := ih X Y
          simp
          constructor
          · intro h; exact this.mp (by omega)
          · intro h; have := this.mpr h; omega
        · rw [if_neg c]; simp [c]
theorem cvx {X Y Z : List Int} {n : Nat} (h1 : cmpL X Y ≤ 0) (h2 : cmpL Y Z ≤ 0) (hx : n ≤ X.length) (hz : n ≤ Z.length) (he : X.take n = Z.take n) : n ≤ Y.length ∧ Y.take n = X.take n := by
  induction n generalizing X Y Z with
  | zero => simp
  | succ n ih =>
    cases X with
    | nil => simp at hx
    | cons x X =>
      cases Z with
      | nil => simp at hz
      | cons z Z =>
        simp at he
        obtain ⟨rfl, he⟩ := he
        cases Y with
        | nil => simp [cmpL] at h1
        | cons y Y =>
          simp only [cmpL] at h1 h2
          have hxy : x = y := by
            by_cases c : x = y
            · exact c
            · rw [if_neg c] at h1
              rw [if_neg (fun q => c q.symm)] at h2
              split at h1 <;> split at h2 <;> omega
          subst hxy
          rw [if_pos rfl] at h1 h2
          obtain ⟨r1, r2⟩ := ih h1 h2 (by simpa using hx) (by simpa using hz) he
          exact ⟨by simp; exact r1, by simp; exact r2⟩
theorem cmpL_app (w X Y : List Int) : cmpL (w ++ X) (w ++ Y) = cmpL X Y := by
  induction w with
  | nil => rfl
  | cons a w ih => simp [cmpL, ih]
theorem has_iff {xs w : List Int} {p : Nat} : hasAt xs w p = true ↔ w.length ≤ (xs.drop p).length ∧ (xs.drop p).take w.length = w := by
  unfold hasAt
  rw [List.isPrefixOf_iff_prefix]
  constructor
  · intro h; exact ⟨h.length_le, (List.prefix_iff_eq_take.mp h).symm⟩
  · intro h; rw [← h.2]; exact List.take_prefix _ _
theorem cmpK_w {ls : List kL} {w : List Int} {a b : kH} (ha : hasAt (lnN ls a.1).2 w a.2 = true) (hb : hasAt (lnN ls b.1).2 w b.2 = true) : cmpK ls w.length a b = cmpK ls 0 a b := by
  obtain ⟨a1, a2⟩ := has_iff.mp ha
  obtain ⟨b1, b2⟩ := has_iff.mp hb
  unfold cmpK cmpH
  have e : cmpL ((lnN ls a.1).2.drop (a.2 + 0)) ((lnN ls b.1).2.drop (b.2 + 0)) = cmpL ((lnN ls a.1).2.drop (a.2 + w.length)) ((lnN ls b.1).2.drop (b.2 + w.length)) := by
    rw [Nat.add_zero, Nat.add_zero, ← List.take_append_drop w.length ((lnN ls a.1).2.drop a.2), ← List.take_append_drop w.length ((lnN ls b.1).2.drop b.2), a2, b2, cmpL_app, List.drop_drop, List.drop_drop]
  rw [e]
/-- the hits of a word are those of all places that have it, in the same order -/
theorem fb_filter {ls : List kL} (hd : numD ls) (w : List Int) : fbL ls w ls.length = (aL ls).filter (fun h => hasAt (lnN ls h.1).2 w h.2) := by
  have t0 := cnd_tot hd 0 (hasP ls []) (Nat.le_refl ls.length)
  have t1 := cnd_tot hd w.length (hasP ls w) (Nat.le_refl ls.length)
  have e0 : aL ls = isB (ltH ls 0) (cnd ls (hasP ls []) ls.length) := fb_eq ls [] ls.length
  have e1 := fb_eq ls w ls.length
  obtain ⟨p0, s0⟩ := isB_ok (ordL_H ls 0) _ t0
  obtain ⟨p1, s1⟩ := isB_ok (ordL_H ls w.length) _ t1
  rw [e1, e0]
  refine so_eq (ordL_H ls w.length) s1 ?_ ?_
  · unfold sor
    have := List.Pairwise.filter (fun h : kH => hasAt (lnN ls h.1).2 w h.2) s0
    refine List.Pairwise.imp_of_mem (fun {a b} ma mb h => ?_) this
    have ha := (List.mem_filter.mp ma).2
    have hb := (List.mem_filter.mp mb).2
    unfold ltH at h ⊢
    rw [cmpK_w ha hb]; exact h
  · refine p1.trans ?_
    refine List.Perm.trans ?_ (p0.filter _).symm
    rw [cnd_filter]
    have : (fun i q => hasP ls [] i q && hasAt (lnN ls i).2 w q) = hasP ls w := by
      funext i q
      unfold hasP
      have : hasAt (lnN ls i).2 [] q = true := by simp [hasAt]
      rw [this]; rfl
    show List.Perm _ (cnd ls (fun i q => hasP ls [] i q && hasAt (lnN ls i).2 w q) ls.length)
    rw [this]
theorem aL_le {ls : List kL} (hd : numD ls) {i j : Nat} (hij : i ≤ j) (hj : j < (aL ls).length) : cmpL (sfx ls ((aL ls).getD i (0, 0))) (sfx ls ((aL ls).getD j (0, 0))) ≤ 0 := by
  by_cases c : i = j
  · subst c; rw [cmpL_rfl]; omega
  · have s := fb_so hd []
    have := (show sor (ltH ls 0) (aL ls) from s).get (i := i) (j := j) (by omega) hj
    unfold ltH cmpK at this
    have := of_decide_eq_true this
    unfold cmpH at this
    rw [Nat.add_zero, Nat.add_zero] at this
    show cmpL ((lnN ls ((aL ls).getD i (0, 0)).1).2.drop ((aL ls).getD i (0, 0)).2) _ ≤ 0
    unfold sfx
    split at this <;> omega
/-- n first signs of the i-th place -/
def hasN (ls : List kL) (n : Nat) (i j : Nat) : Prop := n ≤ (sfx ls ((aL ls).getD i (0, 0))).length ∧ n ≤ (sfx ls ((aL ls).getD j (0, 0))).length ∧ (sfx ls ((aL ls).getD i (0, 0))).take n = (sfx ls ((aL ls).getD j (0, 0))).take n
theorem hasN.sym {ls : List kL} {n i j : Nat} (h : hasN ls n i j) : hasN ls n j i := ⟨h.2.1, h.1, h.2.2.symm⟩
theorem hasN.trans {ls : List kL} {n i j k : Nat} (h : hasN ls n i j) (g : hasN ls n j k) : hasN ls n i k := ⟨h.1, g.2.1, h.2.2.trans g.2.2⟩
theorem hasN_cvx {ls : List kL} (hd : numD ls) {n i j k : Nat} (h : hasN ls n i k) (h1 : i ≤ j) (h2 : j ≤ k) (hk : k < (aL ls).length) : hasN ls n i j := by
  obtain ⟨r1, r2⟩ := cvx (aL_le hd h1 (by omega)) (aL_le hd h2 hk) h.1 h.2.1 h.2.2
  exact ⟨h.1, r1, r2.symm⟩
theorem shK_iff {ls : List kL} {i n : Nat} (hn : 1 ≤ n) (hi : i + 1 < (aL ls).length) : (n : Int) ≤ shK ls (aL ls) i ↔ hasN ls n i (i + 1) := by
  unfold shK
  rw [if_pos (by omega), gH_k]
  have e : gH (aL ls) ((i : Int) + 1) = (aL ls).getD (i + 1) (0, 0) := rfl
  rw [e]
  have := lcp_iff (sfx ls ((aL ls).getD i (0, 0))) (sfx ls ((aL ls).getD (i + 1) (0, 0))) n
  unfold hasN
  rw [← this]; omega
/-- the first of the greatest -/
def amx (v : Nat → Nat) : Nat → Nat × Nat
  | 0 => (0, 0)
  | k + 1 => if (amx v k).1 < v k then (v k, k) else amx v k
theorem amx_ge (v : Nat → Nat) (k : Nat) : ∀ i, i < k → v i ≤ (amx v k).1 := by
  induction k with
  | zero => intro i h; omega
  | succ k ih =>
    intro i h
    simp only [amx]
    by_cases c : (amx v k).1 < v k
    · rw [if_pos c]
      by_cases d : i = k
      · rw [d]; exact Nat.le_refl _
      · have := ih i (by omega); show v i ≤ v k; omega
    · rw [if_neg c]
      by_cases d : i = k
      · rw [d]; omega
      · exact ih i (by omega)
theorem amx_at (v : Nat → Nat) (k : Nat) : (amx v k).1 = 0 ∨ ((amx v k).2 < k ∧ v (amx v k).2 = (amx v k).1 ∧ ∀ i, i < (amx v k).2 → v i < (amx v k).1) := by
  induction k with
  | zero => left; rfl
  | succ k ih =>
    simp only [amx]
    by_cases c : (amx v k).1 < v k
    · rw [if_pos c]
      right
      exact ⟨by show k < k + 1; omega, rfl, fun i hi => by have := amx_ge v k i hi; show v i < v k; omega⟩
    · rw [if_neg c]
      rcases ih with h | ⟨h1, h2, h3⟩
      · left; exact h
      · right; exact ⟨by omega, h2, h3⟩
/-- how long the run of places with the same n first signs is that the i-th ends -/
def rnv (ls : List kL) (L : List kH) (n : Int) : Nat → Nat
  | 0 => if sgK ls L 0 < n then 0 else 1
  | i + 1 => if sgK ls L ((i + 1 : Nat) : Int) < n then 0 else if shK ls L i < n then 1 else rnv ls L n i + 1
def hts (ls : List kL) (L : List kH) (n : Int) (i : Nat) : Nat := if opK ls L i n = true then whN ls L i n 200 1 else 0
theorem mf_amx (ls : List kL) (L : List kH) (n : Int) (k : Nat) : mfN ls L n k = if (amx (hts ls L n) k).1 = 0 then (-1, 0) else (((amx (hts ls L n) k).2 : Int), ((amx (hts ls L n) k).1 : Int)) := by
  induction k with
  | zero => rfl
  | succ k ih =>
    have e : (if opK ls L k n = true then (whN ls L k n 200 1 : Int) else 0) = (hts ls L n k : Int) := by unfold hts; split <;> rfl
    have em : mfN ls L n (k + 1) = if (mfN ls L n k).2 < (hts ls L n k : Int) then ((k : Int), (hts ls L n k : Int)) else mfN ls L n k := by rw [← e]; rfl
    rw [em, ih]
    by_cases d : (amx (hts ls L n) k).1 < hts ls L n k
    · have ea : amx (hts ls L n) (k + 1) = (hts ls L n k, k) := by simp only [amx]; rw [if_pos d]
      rw [ea, if_neg (show ¬ hts ls L n k = 0 by omega)]
      by_cases c : (amx (hts ls L n) k).1 = 0
      · rw [if_pos c, if_pos (by show (0 : Int) < hts ls L n k; omega)]
      · rw [if_neg c, if_pos (by show ((amx (hts ls L n) k).1 : Int) < hts ls L n k; omega)]
    · have ea : amx (hts ls L n) (k + 1) = amx (hts ls L n) k := by simp only [amx]; rw [if_neg d]
      rw [ea]
      by_cases c : (amx (hts ls L n) k).1 = 0
      · rw [if_pos c, if_neg (by show ¬ (0 : Int) < hts ls L n k; omega)]
      · rw [if_neg c, if_neg (by show ¬ ((amx (hts ls L n) k).1 : Int) < hts ls L n k; omega)]
theorem wh_spec (ls : List kL) (L : List kH) (i : Nat) (m : Int) : ∀ (q h : Nat), L.length ≤ i + h + q → (∀ j, h ≤ j → j < whN ls L i m q h → i + j < L.length ∧ m ≤ shK ls L ((i : Int) + j - 1)) ∧ ¬ (i + whN ls L i m q h < L.length ∧ m ≤ shK ls L ((i : Int) + whN ls L i m q h - 1)) ∧ h ≤ whN ls L i m q h := by
  intro q
  induction q with
  | zero =>
    intro h hq
    simp only [whN]
    exact ⟨fun j a b => by omega, fun z => by omega, Nat.le_refl _⟩
  | succ q ih =>
    intro h hq
    simp only [whN]
    by_cases c : (i : Int) + h < L.length ∧ m ≤ shK ls L ((i : Int) + h - 1)
    · rw [if_pos c]
      obtain ⟨r1, r2, r3⟩ := ih (h + 1) (by omega)
      refine ⟨fun j a b => ?_, r2, by omega⟩
      by_cases e : j = h
      · subst e; exact ⟨by omega, c.2⟩
      · exact r1 j (by omega) b
    · rw [if_neg c]
      exact ⟨fun j a b => by omega, fun z => c ⟨by omega, z.2⟩, Nat.le_refl _⟩
theorem rn_spec (ls : List kL) (L : List kH) (n : Int) (hn : 1 ≤ n) : ∀ i, i < L.length → rnv ls L n i ≤ i + 1 ∧ (rnv ls L n i ≠ 0 → opK ls L ((i + 1 - rnv ls L n i : Nat) : Int) n = true ∧ ∀ j, i + 1 - rnv ls L n i < j → j ≤ i → n ≤ shK ls L ((j : Int) - 1)) := by
  intro i
  induction i with
  | zero =>
    intro hi
    simp only [rnv]
    by_cases c : sgK ls L 0 < n
    · rw [if_pos c]; exact ⟨by omega, fun z => absurd rfl z⟩
    · rw [if_neg c]
      refine ⟨by omega, fun _ => ⟨?_, fun j a b => by omega⟩⟩
      unfold opK
      have : shK ls L (((0 + 1 - 1 : Nat) : Int) - 1) = -1 := by unfold shK; rw [if_neg (by omega)]
      rw [this, decide_eq_true (show (-1 : Int) < n by omega)]
      show decide (n ≤ sgK ls L 0) && true = true
      rw [decide_eq_true (by omega)]; rfl
  | succ i ih =>
    intro hi
    obtain ⟨r1, r2⟩ := ih (by omega)
    simp only [rnv]
    by_cases c : sgK ls L ((i + 1 : Nat) : Int) < n
    · rw [if_pos c]; exact ⟨by omega, fun z => absurd rfl z⟩
    · rw [if_neg c]
      by_cases d : shK ls L i < n
      · rw [if_pos d]
        refine ⟨by omega, fun _ => ⟨?_, fun j a b => by omega⟩⟩
        unfold opK
        rw [show (((i + 1 + 1 - 1 : Nat) : Int) - 1) = (i : Int) by omega, decide_eq_true d, show i + 1 + 1 - 1 = i + 1 by omega, decide_eq_true (by omega)]; rfl
      · rw [if_neg d]
        have rne : rnv ls L n i ≠ 0 := by
          intro z
          have sgi : sgK ls L (i : Int) < n := by
            cases i with
            | zero =>
              simp only [rnv] at z
              by_cases e : sgK ls L 0 < n
              · exact e
              · rw [if_neg e] at z; omega
            | succ i =>
              simp only [rnv] at z
              by_cases e : sgK ls L ((i + 1 : Nat) : Int) < n
              · exact e
              · rw [if_neg e] at z; split at z <;> omega
          have : shK ls L (i : Int) ≤ sgK ls L i := by
            unfold shK sgK
            rw [if_pos (by omega)]
            have := (lcp_le (sfx ls (gH L (i : Int))) (sfx ls (gH L ((i : Int) + 1)))).1
            omega
          omega
        obtain ⟨s1, s2⟩ := r2 rne
        refine ⟨by omega, fun _ => ⟨by rw [show i + 1 + 1 - (rnv ls L n i + 1) = i + 1 - rnv ls L n i by omega]; exact s1, fun j a b => ?_⟩⟩
        by_cases e : j = i + 1
        · rw [e, show (((i + 1 : Nat) : Int) - 1) = (i : Int) by omega]; omega
        · exact s2 j (by omega) (by omega)
theorem rn_run (ls : List kL) (L : List kH) (n : Int) {s : Nat} (ho : opK ls L s n = true) : ∀ k, k < whN ls L s n 200 1 → L.length ≤ 200 → rnv ls L n (s + k) = k + 1 := by
  unfold opK at ho
  rw [Bool.and_eq_true] at ho
  have o1 := of_decide_eq_true ho.1
  have o2 := of_decide_eq_true ho.2
  intro k
  induction k with
  | zero =>
    intro _ _
    cases s with
    | zero => simp only [rnv]; rw [if_neg (by have : sgK ls L ((0 : Nat) : Int) = sgK ls L 0 := rfl; omega)]
    | succ s =>
      simp only [Nat.add_zero, rnv]
      rw [show (((s + 1 : Nat) : Int) - 1) = (s : Int) by omega] at o2
      rw [if_neg (by omega), if_pos o2]
  | succ k ih =>
    intro hk h200
    have r := ih (by omega) h200
    obtain ⟨w1, w2, w3⟩ := wh_spec ls L s n 200 1 (by omega)
    obtain ⟨a1, a2⟩ := w1 (k + 1) (by omega) hk
    rw [show ((s : Int) + ((k + 1 : Nat) : Int) - 1) = ((s + k : Nat) : Int) by omega] at a2
    have : shK ls L ((s + k : Nat) : Int) ≤ sgK ls L ((s + k + 1 : Nat) : Int) := by
      unfold shK sgK
      rw [if_pos (by omega)]
      have := (lcp_le (sfx ls (gH L ((s + k : Nat) : Int))) (sfx ls (gH L (((s + k : Nat) : Int) + 1)))).2
      have e : gH L (((s + k : Nat) : Int) + 1) = gH L ((s + k + 1 : Nat) : Int) := rfl
      rw [← e]
      omega
    show rnv ls L n (s + k + 1) = _
    simp only [rnv]
    rw [if_neg (by omega), if_neg (by omega), r]
/-- the greatest run ends where the first of the greatest groups does -/
theorem amx_run (ls : List kL) (L : List kH) (n : Int) (hn : 1 ≤ n) (h200 : L.length ≤ 200) : (amx (rnv ls L n) L.length).1 = (amx (hts ls L n) L.length).1 ∧ ((amx (rnv ls L n) L.length).1 ≠ 0 → (amx (rnv ls L n) L.length).2 + 1 = (amx (hts ls L n) L.length).2 + (amx (hts ls L n) L.length).1) := by
  have R1 := amx_ge (rnv ls L n) L.length
  have R2 := amx_at (rnv ls L n) L.length
  have H1 := amx_ge (hts ls L n) L.length
  have H2 := amx_at (hts ls L n) L.length
  generalize amx (rnv ls L n) L.length = R at *
  generalize amx (hts ls L n) L.length = H at *
  -- a run is no longer than its group
  have key1 : ∀ i, i < L.length → rnv ls L n i ≠ 0 → rnv ls L n i ≤ hts ls L n (i + 1 - rnv ls L n i) := by
    intro i hi hz
    obtain ⟨r1, r2⟩ := rn_spec ls L n hn i hi
    obtain ⟨s1, s2⟩ := r2 hz
    unfold hts
    rw [if_pos s1]
    obtain ⟨w1, w2, w3⟩ := wh_spec ls L (i + 1 - rnv ls L n i) n 200 1 (by omega)
    generalize whN ls L ((i + 1 - rnv ls L n i : Nat) : Int) n 200 1 = w at *
    refine Classical.byContradiction (fun q => w2 ⟨by omega, ?_⟩)
    have := s2 (i + 1 - rnv ls L n i + w) (by omega) (by omega)
    rw [show (((i + 1 - rnv ls L n i + w : Nat) : Int) - 1) = ((i + 1 - rnv ls L n i : Nat) : Int) + w - 1 by omega] at this
    exact this
  -- a group's run ends it
  have key2 : ∀ s, s < L.length → hts ls L n s ≠ 0 → s + hts ls L n s ≤ L.length ∧ rnv ls L n (s + hts ls L n s - 1) = hts ls L n s := by
    intro s hs hz
    unfold hts at hz ⊢
    by_cases c : opK ls L s n = true
    · rw [if_pos c] at hz ⊢
      have b := (whN_bd ls L s n (by omega) 200 1 (by omega))
      have := rn_run ls L n c (whN ls L s n 200 1 - 1) (by omega) h200
      rw [show s + (whN ls L s n 200 1 - 1) = s + whN ls L s n 200 1 - 1 by omega] at this
      exact ⟨by omega, by omega⟩
    · rw [if_neg c] at hz; exact absurd rfl hz
  have le1 : R.1 ≤ H.1 := by
    rcases R2 with z | ⟨z1, z2, z3⟩
    · omega
    · by_cases q : R.1 = 0
      · omega
      · have := key1 R.2 z1 (by omega)
        have := H1 (R.2 + 1 - rnv ls L n R.2) (by omega)
        omega
  have le2 : H.1 ≤ R.1 := by
    rcases H2 with z | ⟨z1, z2, z3⟩
    · omega
    · by_cases q : H.1 = 0
      · omega
      · obtain ⟨k1, k2⟩ := key2 H.2 z1 (by omega)
        have := R1 (H.2 + hts ls L n H.2 - 1) (by omega)
        omega
  refine ⟨by omega, fun hz => ?_⟩
  rcases R2 with z | ⟨z1, z2, z3⟩
  · exact absurd z hz
  rcases H2 with y | ⟨y1, y2, y3⟩
  · omega
  obtain ⟨k1, k2⟩ := key2 H.2 y1 (by omega)
  have a1 : R.2 ≤ H.2 + hts ls L n H.2 - 1 := by
    refine Classical.byContradiction (fun q => ?_)
    have := z3 (H.2 + hts ls L n H.2 - 1) (by omega)
    omega
  have rl := (rn_spec ls L n hn R.2 z1).1
  have k3 := key1 R.2 z1 (by omega)
  have a2 : H.2 ≤ R.2 + 1 - rnv ls L n R.2 := by
    refine Classical.byContradiction (fun q => ?_)
    have := y3 (R.2 + 1 - rnv ls L n R.2) (by omega)
    omega
  omega
