/-! what stays as it must be under acts -/
def gdL (ls : List kL) (g : Int) : Prop := okL ls ∧ numD ls ∧ ∀ i, i < ls.length → (lnN ls i).1 < g
theorem gdL_set {ls : List kL} {g : Int} (h : gdL ls g) {k : Nat} (hk : k < ls.length) {xs : List Int} (h1 : 1 ≤ xs.length) (h2 : xs.length ≤ 20) (h3 : okS xs) : gdL (ls.set k ((lnN ls k).1, xs)) g := by
  obtain ⟨⟨a1, a2⟩, a3, a4⟩ := h
  have key : ∀ i, (lnN (ls.set k ((lnN ls k).1, xs)) i).1 = (lnN ls i).1 := by
    intro i
    rw [lnN_set hk]
    by_cases c : i = k
    · rw [if_pos c, c]
    · rw [if_neg c]
  refine ⟨⟨by simp; exact a1, fun i hi => ?_⟩, fun i j hi hj e => ?_, fun i hi => ?_⟩
  · rw [List.length_set] at hi
    rw [lnN_set hk]
    by_cases c : i = k
    · rw [if_pos c]; exact ⟨h1, h2, h3, (a2 k hk).2.2.2⟩
    · rw [if_neg c]; exact a2 i hi
  · rw [List.length_set] at hi hj
    rw [key, key] at e
    exact a3 i j hi hj e
  · rw [List.length_set] at hi
    rw [key]; exact a4 i hi
theorem gdL_ins {ls : List kL} {g : Int} (h : gdL ls g) (hg : nb g) {k : Nat} (hk : k ≤ ls.length) (hl : ls.length < 10) {xs : List Int} (h1 : 1 ≤ xs.length) (h2 : xs.length ≤ 20) (h3 : okS xs) : gdL (insL ls k (g, xs)) (g + 1) := by
  obtain ⟨⟨a1, a2⟩, a3, a4⟩ := h
  refine ⟨⟨by rw [ins_len hk]; omega, fun i hi => ?_⟩, fun i j hi hj e => ?_, fun i hi => ?_⟩
  · rw [ins_len hk] at hi
    rw [lnN_ins hk]
    by_cases c : i < k
    · rw [if_pos c]; exact a2 i (by omega)
    · rw [if_neg c]
      by_cases d : i = k
      · rw [if_pos d]; exact ⟨h1, h2, h3, hg⟩
      · rw [if_neg d]; exact a2 (i - 1) (by omega)
  · rw [ins_len hk] at hi hj
    rw [lnN_ins hk, lnN_ins hk] at e
    by_cases c : i < k
    · have := a4 i (by omega)
      rw [if_pos c] at e
      by_cases c' : j < k
      · rw [if_pos c'] at e; exact a3 i j (by omega) (by omega) e
      · rw [if_neg c'] at e
        by_cases d' : j = k
        · rw [if_pos d'] at e; simp at e; omega
        · rw [if_neg d'] at e
          have := a3 i (j - 1) (by omega) (by omega) e
          omega
    · rw [if_neg c] at e
      by_cases d : i = k
      · rw [if_pos d] at e
        by_cases c' : j < k
        · have := a4 j (by omega)
          rw [if_pos c'] at e; simp at e; omega
        · rw [if_neg c'] at e
          by_cases d' : j = k
          · omega
          · have := a4 (j - 1) (by omega)
            rw [if_neg d'] at e; simp at e; omega
      · rw [if_neg d] at e
        have := a4 (i - 1) (by omega)
        by_cases c' : j < k
        · rw [if_pos c'] at e
          have := a3 (i - 1) j (by omega) (by omega) e
          omega
        · rw [if_neg c'] at e
          by_cases d' : j = k
          · rw [if_pos d'] at e; simp at e; omega
          · rw [if_neg d'] at e
            have := a3 (i - 1) (j - 1) (by omega) (by omega) e
            omega
  · rw [ins_len hk] at hi
    rw [lnN_ins hk]
    by_cases c : i < k
    · have := a4 i (by omega)
      rw [if_pos c]; omega
    · rw [if_neg c]
      by_cases d : i = k
      · rw [if_pos d]; show g < g + 1; omega
      · have := a4 (i - 1) (by omega)
        rw [if_neg d]; omega
theorem gdL_del {ls : List kL} {g : Int} (h : gdL ls g) {k : Nat} (hk : k < ls.length) : gdL (delL ls k) g := by
  obtain ⟨⟨a1, a2⟩, a3, a4⟩ := h
  have key : ∀ i, i < ls.length - 1 → ∃ q, q < ls.length ∧ lnN (delL ls k) i = lnN ls q ∧ ((i < k ∧ q = i) ∨ (k ≤ i ∧ q = i + 1)) := by
    intro i hi
    rw [lnN_del hk]
    by_cases c : i < k
    · exact ⟨i, by omega, if_pos c, Or.inl ⟨c, rfl⟩⟩
    · exact ⟨i + 1, by omega, if_neg c, Or.inr ⟨by omega, rfl⟩⟩
  refine ⟨⟨by rw [del_len hk]; omega, fun i hi => ?_⟩, fun i j hi hj e => ?_, fun i hi => ?_⟩
  · rw [del_len hk] at hi
    obtain ⟨q, q1, q2, -⟩ := key i hi
    rw [q2]; exact a2 q q1
  · rw [del_len hk] at hi hj
    obtain ⟨q, q1, q2, q3⟩ := key i hi
    obtain ⟨p, p1, p2, p3⟩ := key j hj
    rw [q2, p2] at e
    have := a3 q p q1 p1 e
    omega
  · rw [del_len hk] at hi
    obtain ⟨q, q1, q2, -⟩ := key i hi
    rw [q2]; exact a4 q q1
theorem gdL_sw {ls : List kL} {g : Int} (h : gdL ls g) {k o : Nat} (hk : k < ls.length) (ho : o < ls.length) : gdL ((ls.set k (lnN ls o)).set o (lnN ls k)) g := by
  obtain ⟨⟨a1, a2⟩, a3, a4⟩ := h
  have key : ∀ i, i < ls.length → ∃ q, q < ls.length ∧ lnN ((ls.set k (lnN ls o)).set o (lnN ls k)) i = lnN ls q ∧ ((i = o ∧ q = k) ∨ (i ≠ o ∧ i = k ∧ q = o) ∨ (i ≠ o ∧ i ≠ k ∧ q = i)) := by
    intro i hi
    rw [lnN_set (by simp; exact ho), lnN_set hk]
    by_cases c : i = o
    · exact ⟨k, hk, if_pos c, Or.inl ⟨c, rfl⟩⟩
    · rw [if_neg c]
      by_cases d : i = k
      · exact ⟨o, ho, if_pos d, Or.inr (Or.inl ⟨c, d, rfl⟩)⟩
      · exact ⟨i, hi, if_neg d, Or.inr (Or.inr ⟨c, d, rfl⟩)⟩
  have ll : ((ls.set k (lnN ls o)).set o (lnN ls k)).length = ls.length := by simp
  refine ⟨⟨by rw [ll]; exact a1, fun i hi => ?_⟩, fun i j hi hj e => ?_, fun i hi => ?_⟩
  · rw [ll] at hi
    obtain ⟨q, q1, q2, -⟩ := key i hi
    rw [q2]; exact a2 q q1
  · rw [ll] at hi hj
    obtain ⟨q, q1, q2, q3⟩ := key i hi
    obtain ⟨p, p1, p2, p3⟩ := key j hj
    rw [q2, p2] at e
    have := a3 q p q1 p1 e
    omega
  · rw [ll] at hi
    obtain ⟨q, q1, q2, -⟩ := key i hi
    rw [q2]; exact a4 q q1
theorem okU_page {ls : List kL} (ho : okL ls) (hd : numD ls) {u : kU} (hk : okU u) (hb : u.2.2.2.2.2.2.2 ≤ 90000000) : okU (pageK ls u) := by
  unfold pageK
  have sc := sc_ah hd u
  have hln : (scL ls u ls.length).length ≤ 9 := by rw [sc, List.length_take]; have := hk.2.1; omega
  have hmem : ∀ h ∈ scL ls u ls.length, h.1 < ls.length ∧ h.2 < (lnN ls h.1).2.length := by
    intro h hh
    rw [sc] at hh
    have := List.mem_of_mem_take hh
    unfold ahL at this
    have := (fb_mem hd).mp (List.mem_filter.mp this).1
    exact ⟨this.1, this.2.1⟩
  generalize scL ls u ls.length = hs at *
  have b := hk.2.2.2.2.2
  unfold nb at b
  by_cases c : hs = []
  · subst c
    exact ⟨hk.1, hk.2.1, hk.2.2.1, hk.2.2.2.1, by simp [page0], b⟩
  · rw [tell_all ls hs _ c]
    have hl : 0 < hs.length := List.length_pos_iff.mpr c
    have hm := hmem (hs.getD (hs.length - 1) (0, 0)) (by rw [List.getD_eq_getElem?_getD, List.getElem?_eq_getElem (by omega)]; exact List.getElem_mem _)
    refine ⟨hk.1, hk.2.1, hk.2.2.1, fun _ => ?_, ?_, ?_⟩
    · obtain ⟨a1, a2, a3, a4⟩ := ho.2 _ hm.1
      exact ⟨a3, Nat.le_of_lt hm.2, a2, a4⟩
    · simp [page0]; omega
    · show nb (u.2.2.2.2.2.2.2 + (hs.length : Int))
      exact ⟨by omega, by omega⟩
theorem okT_ls {T : kT} (ho : okT T) {ls : List kL} {g : Int} (h : gdL ls g) (hg : nb g) (hl : ls.length ≠ 0) : okT (ls, g, T.2.2.1, T.2.2.2) ∧ ls.length ≠ 0 := ⟨⟨h.1, h.2.1, h.2.2, hg, ho.2.2.2.2.1, ho.2.2.2.2.2.1, fun z => absurd z hl⟩, hl⟩
theorem okT_cu {T : kT} (ho : okT T) (hl : T.1.length ≠ 0) {C : Nat → kU} (hC : ∀ c, c < 3 → okU (C c)) : okT (T.1, T.2.1, C, T.2.2.2) ∧ T.1.length ≠ 0 := ⟨⟨ho.1, ho.2.1, ho.2.2.1, ho.2.2.2.1, hC, ho.2.2.2.2.2.1, fun z => absurd z hl⟩, hl⟩
theorem cu_ne {T : kT} (ho : okT T) {x : Int} (h : isCu T.2.2.1 x = true) : T.1.length ≠ 0 := by
  obtain ⟨x0, x1, x2⟩ := isCu_spec h
  intro z
  have := ho.2.2.2.2.2.2 z x.toNat (by omega)
  omega
theorem okT_aft {T : kT} (ho : okT T) {w : List Int} (hw : okS w) (hwl : w.length ≤ 20) {sort x y : Int} (hs : 0 ≤ sort ∧ sort ≤ 8) (h4 : sort = 4 → w.length ≤ 6) (hy : whyK T.1 T.2.2.1 sort x y w = -1) (hb : T.2.1 ≤ 10000000) (hc : ∀ c, c < 3 → (T.2.2.1 c).2.2.2.2.2.2.2 ≤ 90000000) : okT (aft T sort x y w) ∧ (aft T sort x y w).1.length ≠ 0 := by
  have h0 := ho.1
  have hd := ho.2.1
  have hl := h0.1
  have gd : gdL T.1 T.2.1 := ⟨h0, hd, ho.2.2.1⟩
  have hg := ho.2.2.2.1
  have hg1 : nb (T.2.1 + 1) := by unfold nb at hg ⊢; omega
  rcases (show sort = 0 ∨ sort = 1 ∨ sort = 2 ∨ sort = 3 ∨ sort = 4 ∨ sort = 5 ∨ sort = 6 ∨ sort = 7 ∨ sort = 8 by omega) with rfl | rfl | rfl | rfl | rfl | rfl | rfl | rfl | rfl
  · obtain ⟨x0, x1, x2⟩ := why0 hy
    obtain ⟨k, rfl⟩ := Int.eq_ofNat_of_zero_le x0
    rw [aft_0, Int.toNat_natCast, ln_k]
    exact okT_ls ho (gdL_set gd (by omega) (List.length_pos_iff.mpr x2) hwl hw) hg (by rw [List.length_set]; omega)
  · obtain ⟨x0, x1, x2⟩ := why1 hy
    obtain ⟨k, rfl⟩ := Int.eq_ofNat_of_zero_le x0
    rw [aft_1, Int.toNat_natCast]
    exact okT_ls ho (gdL_ins gd hg (by omega) (by omega) (List.length_pos_iff.mpr (why1w hy).1) hwl hw) hg1 (by rw [ins_len (by omega)]; omega)
  · obtain ⟨x0, x1, x2⟩ := why2 hy
    obtain ⟨k, rfl⟩ := Int.eq_ofNat_of_zero_le x0
    rw [aft_2, Int.toNat_natCast]
    exact okT_ls ho (gdL_del gd (by omega)) hg (by rw [del_len (by omega)]; omega)
  · obtain ⟨x0, x1, y0, y1, ne⟩ := why3 hy
    obtain ⟨k, rfl⟩ := Int.eq_ofNat_of_zero_le x0
    obtain ⟨l, rfl⟩ := Int.eq_ofNat_of_zero_le y0
    rw [aft_3, Int.toNat_natCast, Int.toNat_natCast, ln_k, ln_k]
    exact okT_ls ho (gdL_sw gd (by omega) (by omega)) hg (by rw [List.length_set, List.length_set]; omega)
  · obtain ⟨x0, x1, y0, y1, w0, s0⟩ := why4 hy
    obtain ⟨k, rfl⟩ := Int.eq_ofNat_of_zero_le x0
    rw [aft_4, Int.toNat_natCast]
    refine okT_cu ho s0 (fun c h => ?_)
    by_cases e : c = k
    · rw [if_pos e]
      exact ⟨by show 0 ≤ y; omega, by show y ≤ 9; omega, fun _ => ⟨List.length_pos_iff.mpr w0, h4 rfl, hw⟩, fun z => (by cases z), by simp, nb0⟩
    · rw [if_neg e]; exact ho.2.2.2.2.1 c h
  · have s0 := cu_ne ho (why5 hy)
    obtain ⟨x0, x1, x2⟩ := isCu_spec (why5 hy)
    obtain ⟨k, rfl⟩ := Int.eq_ofNat_of_zero_le x0
    rw [aft_5, Int.toNat_natCast]
    refine okT_cu ho s0 (fun c h => ?_)
    by_cases e : c = k
    · rw [if_pos e]; exact okU_page h0 hd (ho.2.2.2.2.1 c h) (hc c h)
    · rw [if_neg e]; exact ho.2.2.2.2.1 c h
  · have s0 := cu_ne ho (why6 hy)
    obtain ⟨x0, x1, x2⟩ := isCu_spec (why6 hy)
    obtain ⟨k, rfl⟩ := Int.eq_ofNat_of_zero_le x0
    rw [aft_6, Int.toNat_natCast]
    refine okT_cu ho s0 (fun c h => ?_)
    by_cases e : c = k
    · rw [if_pos e]
      have hk := ho.2.2.2.2.1 c h
      exact ⟨hk.1, hk.2.1, hk.2.2.1, fun z => (by cases z), by simp, nb0⟩
    · rw [if_neg e]; exact ho.2.2.2.2.1 c h
  · obtain ⟨x0, x1, y0, y1, s0⟩ := why7 hy
    obtain ⟨k, rfl⟩ := Int.eq_ofNat_of_zero_le x0
    obtain ⟨p, rfl⟩ := Int.eq_ofNat_of_zero_le (show 0 ≤ y by omega)
    rw [ln_k] at y1
    rw [aft_7, Int.toNat_natCast, Int.toNat_natCast, ln_k]
    obtain ⟨q1, q2, q3, q4⟩ := h0.2 k (by omega)
    have g1 := gdL_set gd (k := k) (by omega) (xs := (lnN T.1 k).2.take p) (by simp; omega) (by simp; omega) (q3.take p)
    have g2 := gdL_ins g1 hg (k := k + 1) (by rw [List.length_set]; omega) (by rw [List.length_set]; omega) (xs := (lnN T.1 k).2.drop p) (by simp; omega) (by simp; omega) (q3.drop p)
    exact okT_ls ho g2 hg1 (by rw [ins_len (by rw [List.length_set]; omega)]; omega)
  · obtain ⟨x0, x1, x2⟩ := why8 hy
    obtain ⟨k, rfl⟩ := Int.eq_ofNat_of_zero_le x0
    have e3 : ln T.1 ((k : Int) + 1) = lnN T.1 (k + 1) := rfl
    rw [ln_k, e3] at x2
    rw [aft_8, Int.toNat_natCast, ln_k, e3]
    obtain ⟨q1, q2, q3, q4⟩ := h0.2 k (by omega)
    obtain ⟨p1, p2, p3, p4⟩ := h0.2 (k + 1) (by omega)
    have g1 := gdL_set gd (k := k) (by omega) (xs := (lnN T.1 k).2 ++ (lnN T.1 (k + 1)).2) (by simp; omega) (by simp; omega) (fun z hz => by rcases List.mem_append.mp hz with hz | hz; exact q3 z hz; exact p3 z hz)
    have g2 := gdL_del g1 (k := k + 1) (by rw [List.length_set]; omega)
    exact okT_ls ho g2 hg (by rw [del_len (by rw [List.length_set]; omega), List.length_set]; omega)
