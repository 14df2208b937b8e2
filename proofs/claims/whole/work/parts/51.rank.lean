def Rk (M : mm_M) (r a : Nat) (L : List kH) (fresh : Bool) : Prop := L.length ≤ 200 ∧ M.2 r = some (mm_ob 3 [.ref a, .ref (r + 1), .int (iI L.length), .int (bI fresh)]) ∧ ∃ f, M.2 (r + 1) = some (mm_ai 200 f) ∧ ∀ j, j < L.length → f j = iI ((20 * (L.getD j (0, 0)).1 + (L.getD j (0, 0)).2 : Nat) : Int)
theorem Rk.fr {M M' : mm_M} {r a b k : Nat} {L : List kH} {fr0 : Bool} (h : Rk M r a L fr0) (f : fr M M' b k) (hd : r + 2 ≤ b ∨ b + k ≤ r) : Rk M' r a L fr0 := by
  obtain ⟨h0, h1, u, h2, h3⟩ := h
  exact ⟨h0, f.at h1 (by omega), u, f.at h2 (by omega), h3⟩
/-- hits whose codes can be read again -/
def smH (L : List kH) : Prop := ∀ h ∈ L, h.1 ≤ 10 ∧ h.2 < 20
theorem smH.get {L : List kH} (h : smH L) {j : Nat} (hj : j < L.length) : (L.getD j (0, 0)).1 ≤ 10 ∧ (L.getD j (0, 0)).2 < 20 := by
  rw [List.getD_eq_getElem?_getD, List.getElem?_eq_getElem hj]
  exact h _ (List.getElem_mem hj)
theorem rk_line {n : Nat} {M : mm_M} {r a : Nat} {L : List kH} {b : Bool} (h : Rk M r a L b) (hs : smH L) {j : Nat} (hj : j < L.length) : pX3_lineOf n M r (iI j) = some (iI (L.getD j (0, 0)).1, M) := by
  obtain ⟨h0, h1, f, h2, h3⟩ := h
  have q := hs.get hj
  have ia := ia_at h2 (i := j) (by omega) (by omega) (sm_of (by omega) (by omega))
  rw [show ((j : Int)).toNat = j by omega, h3 j hj] at ia
  simp only [pX3_lineOf, v_at h1, gr_at h1 1 rfl, b1_s, ia]
  rw [if_neg (by decide), L20, enc_div q.1 q.2]
theorem rk_place {n : Nat} {M : mm_M} {r a : Nat} {L : List kH} {b : Bool} (h : Rk M r a L b) (hs : smH L) {j : Nat} (hj : j < L.length) : pX3_placeOf n M r (iI j) = some (iI (L.getD j (0, 0)).2, M) := by
  obtain ⟨h0, h1, f, h2, h3⟩ := h
  have q := hs.get hj
  have ia := ia_at h2 (i := j) (by omega) (by omega) (sm_of (by omega) (by omega))
  rw [show ((j : Int)).toNat = j by omega, h3 j hj] at ia
  simp only [pX3_placeOf, v_at h1, gr_at h1 1 rfl, b1_s, ia]
  rw [if_neg (by decide), L20, enc_div q.1 q.2, enc_rem q.1 q.2]
theorem rk_has {n : Nat} {M : mm_M} {r a : Nat} {L : List kH} {b : Bool} (h : Rk M r a L b) {i : Int} (hi : sm i) : pX3_has n M r (iI i) = some (bI (decide (0 ≤ i ∧ i < L.length)), M) := by
  obtain ⟨h0, h1, -⟩ := h
  by_cases c1 : i < 0
  · simp (disch := (first | assumption | (refine sm_of ?_ ?_ <;> omega) | fail)) only [iI_add, iI_sub, iI_mul, iI_neg, iI_lt, iI_le, iI_eq, b1_s, b2_s, ↓reduceIte, L0, L1, L2, L3, L4, L5, L6, L7, L8, L9, L10, L12, L20, L22, L24, L26, L27, L28, L32, L40, L60, L73, L95, L97, L222, L240, L441, L442, L622, Lm1, Lmh, pX3_has, v_at h1, c1]
    simp [bI, show ¬ 0 ≤ i by omega]
  · by_cases c2 : (L.length : Int) ≤ i
    · simp (disch := (first | assumption | (refine sm_of ?_ ?_ <;> omega) | fail)) only [iI_add, iI_sub, iI_mul, iI_neg, iI_lt, iI_le, iI_eq, b1_s, b2_s, ↓reduceIte, L0, L1, L2, L3, L4, L5, L6, L7, L8, L9, L10, L12, L20, L22, L24, L26, L27, L28, L32, L40, L60, L73, L95, L97, L222, L240, L441, L442, L622, Lm1, Lmh, pX3_has, v_at h1, c1, gi_at h1 2 rfl, c2]
      simp [bI, show ¬ i < L.length by omega]
    · simp (disch := (first | assumption | (refine sm_of ?_ ?_ <;> omega) | fail)) only [iI_add, iI_sub, iI_mul, iI_neg, iI_lt, iI_le, iI_eq, b1_s, b2_s, ↓reduceIte, L0, L1, L2, L3, L4, L5, L6, L7, L8, L9, L10, L12, L20, L22, L24, L26, L27, L28, L32, L40, L60, L73, L95, L97, L222, L240, L441, L442, L622, Lm1, Lmh, pX3_has, v_at h1, c1, gi_at h1 2 rfl, c2]
      simp [bI, show i < L.length by omega, show 0 ≤ i by omega]
/-- a hit's place by halving -/
def bsF (lt : kH → kH → Bool) (x : kH) (L : List kH) : Nat → Nat → Nat → Nat
  | 0, low, _ => low
  | k + 1, low, high => if low < high then (if lt (L.getD ((low + high) / 2) (0, 0)) x = true then bsF lt x L k ((low + high) / 2 + 1) high else bsF lt x L k low ((low + high) / 2)) else low
theorem bsF_bd (lt : kH → kH → Bool) (x : kH) (L : List kH) : ∀ k low high, low ≤ high → low ≤ bsF lt x L k low high ∧ bsF lt x L k low high ≤ high := by
  intro k
  induction k with
  | zero => intro low high h; simp [bsF]; exact h
  | succ k ih =>
    intro low high h
    simp only [bsF]
    by_cases c : low < high
    · rw [if_pos c]
      split
      · have := ih ((low + high) / 2 + 1) high (by omega); omega
      · have := ih low ((low + high) / 2) (by omega); omega
    · rw [if_neg c]; omega
def insS (lt : kH → kH → Bool) (x : kH) (L : List kH) : List kH := L.take (bsF lt x L 200 0 L.length) ++ x :: L.drop (bsF lt x L 200 0 L.length)
theorem insS_len (lt : kH → kH → Bool) (x : kH) (L : List kH) : (insS lt x L).length = L.length + 1 := by
  have := bsF_bd lt x L 200 0 L.length (by omega)
  simp [insS]; omega
theorem ins_get {x : kH} {L : List kH} {q : Nat} (hq : q ≤ L.length) (j : Nat) : (L.take q ++ x :: L.drop q).getD j (0, 0) = if j < q then L.getD j (0, 0) else if j = q then x else L.getD (j - 1) (0, 0) := by
  rw [List.getD_eq_getElem?_getD]
  by_cases c : j < q
  · rw [if_pos c, List.getElem?_append_left (by simp; omega), List.getElem?_take, if_pos c, List.getD_eq_getElem?_getD]
  · rw [if_neg c, List.getElem?_append_right (by simp; omega)]
    by_cases d : j = q
    · rw [if_pos d]; simp [d, Nat.min_eq_left hq]
    · rw [if_neg d]
      rw [show j - (L.take q).length = (j - 1 - q) + 1 by simp; omega, List.getElem?_cons_succ, List.getElem?_drop, List.getD_eq_getElem?_getD]
      congr 2; omega
theorem rk_insert {n : Nat} (hn : 300 ≤ n) {M : mm_M} {r a : Nat} {F : Nat → Nat} {D : Nat → kL} {cc : Nat} {giv : Int} {L : List kH} {b : Bool} (hO : Ov M a cc giv) (hL : Lv M a F D) (h : Rk M r a L b) (hok : okH (lns F D cc) L) (hl : L.length < 200) {i p wl : Nat} (hi : i < cc) (hp : p < (lnN (lns F D cc) i).2.length) (hw : wl ≤ 20) (hd : a + 62 ≤ r ∨ r + 2 ≤ a) : ∃ M1, pX3_insert n M r (iI i) (iI p) (iI wl) = some M1 ∧ Rk M1 r a (insS (ltH (lns F D cc) wl) (i, p) L) b ∧ fr M M1 r 2 := by
  have hc := hO.1
  have ge : ∀ z, z < cc → lnN (lns F D cc) z = D (F z) := fun z hz => lns_get hz
  have hs : smH L := by
    intro x hx
    have q := hok x hx
    rw [lns_len] at q
    rw [ge x.1 q.1] at q
    have := hL.len (i := x.1) (by omega)
    omega
  have li := hL.ln (i := i) (by omega)
  have leni := hL.len (i := i) (by omega)
  rw [ge i hi] at hp
  have ri := hL.ra (i := i) (by omega) (by omega)
  rw [show ((i : Int)).toNat = i by omega] at ri
  have hR := h
  obtain ⟨h0, h1, f, h2, h3⟩ := h
  generalize hlt : ltH (lns F D cc) wl = lt
  have loop : ∀ (q k low high c : Nat), low ≤ high → high ≤ L.length → high - low + c ≤ 200 → high - low ≤ k → high - low < q → pX3_insert_l25 n q M r (iI i) (iI p) (iI wl) (iI low) (iI high) (iI c) = pX3_insert_b111 n M r (iI i) (iI p) (iI (bsF lt (i, p) L k low high)) := by
    intro q
    induction q with
    | zero => intro k low high c z1 z2 z3 z4 z5; omega
    | succ q ih =>
      intro k low high c z1 z2 z3 z4 z5
      show pX3_insert_l25b n (pX3_insert_l25 n q) M r _ _ _ (iI low) (iI high) (iI c) = _
      by_cases c0 : low < high
      · cases k with
        | zero => omega
        | succ k =>
          have e2 : iI ((low : Int) + high) / iI 2 = iI (((low + high) / 2 : Nat) : Int) := by
            rw [iI_div (by omega) (sm_of (by omega) (by omega)) (by omega) (sm_of (by omega) (by omega))]; congr 1
          have ok := hok.get (j := (low + high) / 2) (by omega)
          rw [lns_len] at ok
          have rl := rk_line (n := n) hR hs (j := (low + high) / 2) (by omega)
          have rp := rk_place (n := n) hR hs (j := (low + high) / 2) (by omega)
          simp only [bsF]
          rw [if_pos c0]
          generalize hx : L.getD ((low + high) / 2) (0, 0) = x at *
          have okx := ok.2
          rw [ge x.1 ok.1] at okx
          have lx := hL.ln (i := x.1) (by omega)
          have lenx := hL.len (i := x.1) (by omega)
          have rx := hL.ra (i := x.1) (by omega) (by omega)
          rw [show ((x.1 : Int)).toNat = x.1 by omega] at rx
          have cm := ln_cmp (show 60 ≤ n by omega) lx li (p := x.2) (q := p) (wl := wl) (by omega) (by omega) hw
          have cb := cmpH_bd (wl := wl) (xs := (D (F x.1)).2) (ys := (D (F i)).2) lx.1 li.1 (show x.2 ≤ 100 by omega) (show p ≤ 100 by omega)
          have eq : lt x (i, p) = decide (cmpH wl x.2 (D (F x.1)).1 (D (F x.1)).2 p (D (F i)).1 (D (F i)).2 < 0) := by
            rw [← hlt]; unfold ltH cmpK; rw [ge i hi, ge x.1 ok.1]
          simp only [pX3_insert_l25b, gr_at h1 1 rfl, b1_s, len_at h2, gr_at h1 0 rfl, gr_at hO.2.2 0 rfl]
          rw [if_neg (by rw [iI_le (sm_of (by omega) (by omega)) (sm_of (by omega) (by omega))]; omega), if_neg (by rw [iI_le (sm_of (by omega) (by omega)) (sm_of (by omega) (by omega))]; omega), if_neg (by decide)]
          simp only [iI_add, L2, e2, rl, b2_s, rx, b1_s, rp, gr_at h1 0 rfl, gr_at hO.2.2 0 rfl, ri, cm, L0, L1]
          rw [eq]
          by_cases d : cmpH wl x.2 (D (F x.1)).1 (D (F x.1)).2 p (D (F i)).1 (D (F i)).2 < 0
          · rw [if_neg (by rw [iI_le (sm_of (by omega) (by omega)) (sm_of (by omega) (by omega))]; omega), if_pos (by simp [d])]
            rw [show ((((low + high) / 2 : Nat) : Int) + 1) = (((low + high) / 2 + 1 : Nat) : Int) by omega, show ((c : Int) + 1) = ((c + 1 : Nat) : Int) by omega]
            exact ih k _ high (c + 1) (by omega) z2 (by omega) (by omega) (by omega)
          · rw [if_pos (by rw [iI_le (sm_of (by omega) (by omega)) (sm_of (by omega) (by omega))]; omega), if_neg (by simp [d])]
            rw [show ((c : Int) + 1) = ((c + 1 : Nat) : Int) by omega]
            exact ih k low _ (c + 1) (by omega) (by omega) (by omega) (by omega) (by omega)
      · have eb : bsF lt (i, p) L k low high = low := by
          cases k with
          | zero => rfl
          | succ k => simp only [bsF]; rw [if_neg c0]
        rw [eb]
        simp only [pX3_insert_l25b, gr_at h1 1 rfl, b1_s, len_at h2]
        by_cases d : iI ((200 : Nat) : Int) ≤ iI (c : Int)
        · rw [if_pos d]
        · rw [if_neg d, if_pos (by rw [iI_le (sm_of (by omega) (by omega)) (sm_of (by omega) (by omega))]; omega)]
  have bb := bsF_bd lt (i, p) L 200 0 L.length (by omega)
  have l0 := loop n 200 0 L.length 0 (by omega) (by omega) (by omega) (by omega) (by omega)
  generalize hq : bsF lt (i, p) L 200 0 L.length = at_ at *
  have eins : insS lt (i, p) L = L.take at_ ++ (i, p) :: L.drop at_ := by unfold insS; rw [hq]
  have ilen := insS_len lt (i, p) L
  obtain ⟨M1, e1, s1, f1⟩ := cp_ex h2 h2 (sp := at_) (dp := (at_ : Int) + 1) (n := (L.length : Int) - at_) (by omega) (by omega) (by omega) (by omega) (by omega) (sm_of (by omega) (by omega)) (sm_of (by omega) (by omega)) (sm_of (by omega) (by omega))
  have t1 := f1.at h1 (by omega)
  obtain ⟨M2, e2, s2, f2⟩ := is_ex s1 (i := at_) (by omega) (by omega) (sm_of (by omega) (by omega)) (iI ((i : Int) * 20 + p))
  have t2 := f2.at t1 (by omega)
  obtain ⟨M3, e3, s3, f3⟩ := pi_ex t2 2 (iI ((L.length : Int) + 1))
  refine ⟨M3, ?_, ⟨by omega, ?_, _, f3.at s2 (by omega), fun j hj => ?_⟩, ((f1.mono (by omega) (by omega)).trans (f2.mono (by omega) (by omega))).trans (f3.mono (by omega) (by omega))⟩
  · have l0 : pX3_insert_l25 n n M r (iI i) (iI p) (iI wl) (iI 0) (iI L.length) (iI 0) = _ := l0
    simp (disch := (first | assumption | (refine sm_of ?_ ?_ <;> omega) | fail)) only [iI_add, iI_sub, iI_mul, iI_neg, iI_lt, iI_le, iI_eq, b1_s, b2_s, ↓reduceIte, L0, L1, L2, L3, L4, L5, L6, L7, L8, L9, L10, L12, L20, L22, L24, L26, L27, L28, L32, L40, L60, L73, L95, L97, L222, L240, L441, L442, L622, Lm1, Lmh, pX3_insert, v_at h1, gi_at h1 2 rfl, gr_at h1 1 rfl, len_at h2, show ((L.length : Int) < ((200 : Nat) : Int)) by omega]
    rw [l0]
    simp (disch := (first | assumption | (refine sm_of ?_ ?_ <;> omega) | fail)) only [iI_add, iI_sub, iI_mul, iI_neg, iI_lt, iI_le, iI_eq, b1_s, b2_s, ↓reduceIte, L0, L1, L2, L3, L4, L5, L6, L7, L8, L9, L10, L12, L20, L22, L24, L26, L27, L28, L32, L40, L60, L73, L95, L97, L222, L240, L441, L442, L622, Lm1, Lmh, pX3_insert_b111, gi_at h1 2 rfl, gr_at h1 1 rfl, e1, gr_at t1 1 rfl, e2, gi_at t2 2 rfl, e3]
  · rw [s3, ilen]; simp
  · rw [ilen] at hj
    rw [eins, ins_get (by omega)]
    simp only [upd, va_cpy]
    by_cases d1 : j = at_
    · subst d1; rw [if_pos (by omega), if_neg (by omega), if_pos rfl]; congr 1; simp; omega
    · rw [if_neg (by omega)]
      by_cases d2 : j < at_
      · rw [if_pos d2, if_neg (by omega)]; exact h3 j (by omega)
      · rw [if_neg d2, if_neg d1, if_pos (by omega), show ((at_ : Int)).toNat + (j - ((at_ : Int) + 1).toNat) = j - 1 by omega]; exact h3 (j - 1) (by omega)
/-- all hits of a word, put in one by one -/
def flP (ls : List kL) (w : List Int) (i : Nat) (L : List kH) (p : Nat) : List kH := (List.range p).foldl (fun L q => if hasAt (lnN ls i).2 w q = true then insS (ltH ls w.length) (i, q) L else L) L
def flL (ls : List kL) (w : List Int) (k : Nat) : List kH := (List.range k).foldl (fun L i => flP ls w i L (lnN ls i).2.length) []
theorem flP_succ (ls : List kL) (w : List Int) (i : Nat) (L : List kH) (p : Nat) : flP ls w i L (p + 1) = if hasAt (lnN ls i).2 w p = true then insS (ltH ls w.length) (i, p) (flP ls w i L p) else flP ls w i L p := by
  unfold flP; rw [List.range_succ, List.foldl_append]; rfl
theorem flL_succ (ls : List kL) (w : List Int) (k : Nat) : flL ls w (k + 1) = flP ls w k (flL ls w k) (lnN ls k).2.length := by
  unfold flL; rw [List.range_succ, List.foldl_append]; rfl
theorem okH.ins {ls : List kL} {L : List kH} (h : okH ls L) {lt : kH → kH → Bool} {x : kH} (hx : x.1 < ls.length ∧ x.2 < (lnN ls x.1).2.length) : okH ls (insS lt x L) := by
  intro y hy
  unfold insS at hy
  rcases List.mem_append.mp hy with q | q
  · exact h y (List.mem_of_mem_take q)
  · rcases List.mem_cons.mp q with q | q
    · rw [q]; exact hx
    · exact h y (List.mem_of_mem_drop q)
theorem rk_fill {n : Nat} (hn : 300 ≤ n) {M : mm_M} {r a s : Nat} {F : Nat → Nat} {D : Nat → kL} {cc : Nat} {giv : Int} {b : Bool} {w : List Int} (hO : Ov M a cc giv) (hL : Lv M a F D) (h : Rk M r a [] b) (g : Sg M s w) (hd : a + 62 ≤ r ∨ r + 2 ≤ a) (hd2 : s + 2 ≤ r ∨ r + 2 ≤ s) : ∃ M1, pX3_fill n M r s = some M1 ∧ Rk M1 r a (flL (lns F D cc) w cc) b ∧ okH (lns F D cc) (flL (lns F D cc) w cc) ∧ fr M M1 r 2 := by
  have hc := hO.1
  generalize hls : lns F D cc = ls
  have hll : ls.length = cc := by rw [← hls]; exact lns_len F D cc
  have ge : ∀ z, z < cc → lnN ls z = D (F z) := fun z hz => by rw [← hls]; exact lns_get hz
  have lw := g.1
  have places : ∀ (K : mm_M → Nat → Nat → Int32 → Option mm_M) (i : Nat) (Z : List kH), i < cc → ∀ (q p : Nat) (M : mm_M), Ov M a cc giv → Lv M a F D → Sg M s w → Rk M r a (flP ls w i Z p) b → okH ls (flP ls w i Z p) → (flP ls w i Z p).length ≤ 20 * i + p → p ≤ (lnN ls i).2.length → (lnN ls i).2.length < p + q → ∃ M1, pX3_fill_l29 n K q M r s (iI i) (a + 8 + 3 * F i + 1) (iI p) = K M1 r s (iI ((i + 1 : Nat) : Int)) ∧ Rk M1 r a (flP ls w i Z (lnN ls i).2.length) b ∧ okH ls (flP ls w i Z (lnN ls i).2.length) ∧ (flP ls w i Z (lnN ls i).2.length).length ≤ 20 * (i + 1) ∧ fr M M1 r 2 := by
    intro K i Z hi q
    induction q with
    | zero => intro p M _ _ _ _ _ _ h1 h2; omega
    | succ q ih =>
      intro p M hO hL g hR hok hlen h1 h2
      show ∃ M1, pX3_fill_l29b n K (pX3_fill_l29 n K q) M r s (iI i) _ (iI p) = _ ∧ _
      have li := hL.ln (i := i) (by omega)
      have leni := hL.len (i := i) (by omega)
      have gi := ge i hi
      have hp20 : p ≤ 20 := by rw [gi] at h1; omega
      by_cases d : ((D (F i)).2.length : Int) ≤ p
      · have ep : p = (lnN ls i).2.length := by rw [gi] at h1 ⊢; omega
        refine ⟨M, ?_, by rw [← ep]; exact hR, by rw [← ep]; exact hok, by rw [← ep]; omega, fr.rfl⟩
        simp (disch := (first | assumption | (refine sm_of ?_ ?_ <;> omega) | fail)) only [iI_add, iI_sub, iI_mul, iI_neg, iI_lt, iI_le, iI_eq, b1_s, b2_s, ↓reduceIte, L0, L1, L2, L3, L4, L5, L6, L7, L8, L9, L10, L12, L20, L22, L24, L26, L27, L28, L32, L40, L60, L73, L95, L97, L222, L240, L441, L442, L622, Lm1, Lmh, pX3_fill_l29b, gi_at li.2.2.2.2.1 1 rfl, d]
        rw [show ((i : Int) + 1) = ((i + 1 : Nat) : Int) by omega]
      · have hh := sg_has (show 60 ≤ n by omega) li.2.2 g (p := p) (by omega)
        have ss := flP_succ ls w i Z p
        rw [gi] at ss
        cases e : hasAt (D (F i)).2 w p
        · rw [e] at ss hh
          rw [if_neg (by decide)] at ss
          rw [← ss] at hR hok hlen
          obtain ⟨M1, e1, r1⟩ := ih (p + 1) M hO hL g hR hok (by omega) (by rw [gi]; omega) (by omega)
          refine ⟨M1, ?_, r1⟩
          simp (disch := (first | assumption | (refine sm_of ?_ ?_ <;> omega) | fail)) only [iI_add, iI_sub, iI_mul, iI_neg, iI_lt, iI_le, iI_eq, b1_s, b2_s, ↓reduceIte, L0, L1, L2, L3, L4, L5, L6, L7, L8, L9, L10, L12, L20, L22, L24, L26, L27, L28, L32, L40, L60, L73, L95, L97, L222, L240, L441, L442, L622, Lm1, Lmh, pX3_fill_l29b, gi_at li.2.2.2.2.1 1 rfl, d, hh, bI_0]
          rw [show ((p : Int) + 1) = ((p + 1 : Nat) : Int) by omega, e1]
        · rw [e] at ss hh
          rw [if_pos rfl] at ss
          obtain ⟨M1, e1, s1, f1⟩ := rk_insert hn hO hL hR (by rw [hls]; exact hok) (by omega) (i := i) (p := p) (wl := w.length) hi (by rw [hls, gi]; omega) (by omega) hd
          rw [hls, ← ss] at s1
          have ok2 : okH ls (flP ls w i Z (p + 1)) := by rw [ss]; exact hok.ins ⟨by rw [hll]; exact hi, by rw [gi]; simp; omega⟩
          have ln2 : (flP ls w i Z (p + 1)).length ≤ 20 * i + (p + 1) := by rw [ss, insS_len]; omega
          obtain ⟨M2, e2, r1, r2, r3, r4⟩ := ih (p + 1) M1 (hO.fr f1 (by omega)) (hL.fr f1 (by omega)) (g.fr f1 (by omega)) s1 ok2 ln2 (by rw [gi]; omega) (by omega)
          refine ⟨M2, ?_, r1, r2, r3, f1.trans r4⟩
          simp (disch := (first | assumption | (refine sm_of ?_ ?_ <;> omega) | fail)) only [iI_add, iI_sub, iI_mul, iI_neg, iI_lt, iI_le, iI_eq, b1_s, b2_s, ↓reduceIte, L0, L1, L2, L3, L4, L5, L6, L7, L8, L9, L10, L12, L20, L22, L24, L26, L27, L28, L32, L40, L60, L73, L95, L97, L222, L240, L441, L442, L622, Lm1, Lmh, pX3_fill_l29b, gi_at li.2.2.2.2.1 1 rfl, d, hh, bI_0, Bool.true_eq_false, gi_at g.2.2.1 1 rfl, e1]
          rw [show ((p : Int) + 1) = ((p + 1 : Nat) : Int) by omega, e2]
  have lines : ∀ (q i : Nat) (M : mm_M), Ov M a cc giv → Lv M a F D → Sg M s w → Rk M r a (flL ls w i) b → okH ls (flL ls w i) → (flL ls w i).length ≤ 20 * i → i ≤ cc → cc < i + q → ∃ M1, pX3_fill_l2 n q M r s (iI i) = some M1 ∧ Rk M1 r a (flL ls w cc) b ∧ okH ls (flL ls w cc) ∧ fr M M1 r 2 := by
    intro q
    induction q with
    | zero => intro i M _ _ _ _ _ _ h1 h2; omega
    | succ q ih =>
      intro i M hO hL g hR hok hlen h1 h2
      show ∃ M1, pX3_fill_l2b n (pX3_fill_l2 n q) M r s (iI i) = _ ∧ _
      have hr := hR.2.1
      by_cases d : (cc : Int) ≤ i
      · have ei : i = cc := by omega
        subst ei
        refine ⟨M, ?_, hR, hok, fr.rfl⟩
        simp (disch := (first | assumption | (refine sm_of ?_ ?_ <;> omega) | fail)) only [iI_add, iI_sub, iI_mul, iI_neg, iI_lt, iI_le, iI_eq, b1_s, b2_s, ↓reduceIte, L0, L1, L2, L3, L4, L5, L6, L7, L8, L9, L10, L12, L20, L22, L24, L26, L27, L28, L32, L40, L60, L73, L95, L97, L222, L240, L441, L442, L622, Lm1, Lmh, pX3_fill_l2b, gr_at hr 0 rfl, gi_at hO.2.2 1 rfl, d]
      · have li := hL.ln (i := i) (by omega)
        have hs0 := flL_succ ls w i
        have z0 : flP ls w i (flL ls w i) 0 = flL ls w i := by simp [flP]
        obtain ⟨M1, e1, r1, r2, r3, f1⟩ := places (pX3_fill_l2 n q) i (flL ls w i) (by omega) n 0 M hO hL g (by rw [z0]; exact hR) (by rw [z0]; exact hok) (by rw [z0]; omega) (by omega) (by have := hL.len (i := i) (by omega); rw [ge i (by omega)]; omega)
        rw [← hs0] at r1 r2 r3
        obtain ⟨M2, e2, q1, q2, f2⟩ := ih (i + 1) M1 (hO.fr f1 (by omega)) (hL.fr f1 (by omega)) (g.fr f1 (by omega)) r1 r2 r3 (by omega) (by omega)
        refine ⟨M2, ?_, q1, q2, f1.trans f2⟩
        have e1 : pX3_fill_l29 n (pX3_fill_l2 n q) n M r s (iI i) (a + 8 + 3 * F i + 1) (iI 0) = _ := e1
        simp (disch := (first | assumption | (refine sm_of ?_ ?_ <;> omega) | fail)) only [iI_add, iI_sub, iI_mul, iI_neg, iI_lt, iI_le, iI_eq, b1_s, b2_s, ↓reduceIte, L0, L1, L2, L3, L4, L5, L6, L7, L8, L9, L10, L12, L20, L22, L24, L26, L27, L28, L32, L40, L60, L73, L95, L97, L222, L240, L441, L442, L622, Lm1, Lmh, pX3_fill_l2b, gr_at hr 0 rfl, gi_at hO.2.2 1 rfl, d, gr_at hO.2.2 0 rfl, hL.ra (i := i) (by omega) (by omega), show ((i : Int)).toNat = i by omega, gr_at li.2.1 0 rfl]
        rw [e1, e2]
  obtain ⟨M1, e1, r1, r2, f1⟩ := lines n 0 M hO hL g (by simpa [flL] using h) (by intro x hx; simp [flL] at hx) (by simp [flL]) (by omega) (by omega)
  exact ⟨M1, by simp only [pX3_fill, v_at h.2.1]; exact e1, r1, r2, f1⟩
