abbrev kH : Type := Nat × Nat
def lnN (ls : List kL) (i : Nat) : kL := ls.getD i (0, [])
def cmpK (ls : List kL) (wl : Nat) (h g : kH) : Int := cmpH wl h.2 (lnN ls h.1).1 (lnN ls h.1).2 g.2 (lnN ls g.1).1 (lnN ls g.1).2
def ltH (ls : List kL) (wl : Nat) (h g : kH) : Bool := decide (cmpK ls wl h g < 0)
/-- where a hit goes, sought from the back -/
def posB (lt : kH → kH → Bool) (x : kH) (L : List kH) : Nat → Nat
  | 0 => 0
  | k + 1 => if lt x (L.getD k (0, 0)) = true then posB lt x L k else k + 1
theorem posB_le (lt : kH → kH → Bool) (x : kH) (L : List kH) (k : Nat) : posB lt x L k ≤ k := by
  induction k with
  | zero => simp [posB]
  | succ k ih => simp only [posB]; split <;> omega
def insB (lt : kH → kH → Bool) (x : kH) (L : List kH) : List kH := L.take (posB lt x L L.length) ++ x :: L.drop (posB lt x L L.length)
theorem insB_len (lt : kH → kH → Bool) (x : kH) (L : List kH) : (insB lt x L).length = L.length + 1 := by
  have := posB_le lt x L L.length
  simp [insB]; omega
theorem insB_get (lt : kH → kH → Bool) (x : kH) (L : List kH) (j : Nat) : (insB lt x L).getD j (0, 0) = if j < posB lt x L L.length then L.getD j (0, 0) else if j = posB lt x L L.length then x else L.getD (j - 1) (0, 0) := by
  have := posB_le lt x L L.length
  generalize hq : posB lt x L L.length = q at *
  have e : insB lt x L = L.take q ++ x :: L.drop q := by unfold insB; rw [hq]
  rw [e, List.getD_eq_getElem?_getD]
  by_cases c : j < q
  · rw [if_pos c, List.getElem?_append_left (by simp; omega), List.getElem?_take, if_pos c, List.getD_eq_getElem?_getD]
  · rw [if_neg c, List.getElem?_append_right (by simp; omega)]
    by_cases d : j = q
    · rw [if_pos d]; simp [d, Nat.min_eq_left this]
    · rw [if_neg d]
      rw [show j - (L.take q).length = (j - 1 - q) + 1 by simp; omega, List.getElem?_cons_succ, List.getElem?_drop, List.getD_eq_getElem?_getD]
      congr 2; omega
def offK (lt : kH → kH → Bool) (sz : Nat) (x : kH) (L : List kH) : List kH := (insB lt x L).take sz
theorem offK_len (lt : kH → kH → Bool) (sz : Nat) (x : kH) (L : List kH) : (offK lt sz x L).length ≤ sz := by simp [offK]; omega
/-- hits within the lines -/
def okH (ls : List kL) (L : List kH) : Prop := ∀ h ∈ L, h.1 < ls.length ∧ h.2 < (lnN ls h.1).2.length
theorem okH.get {ls : List kL} {L : List kH} (h : okH ls L) {j : Nat} (hj : j < L.length) : (L.getD j (0, 0)).1 < ls.length ∧ (L.getD j (0, 0)).2 < (lnN ls (L.getD j (0, 0)).1).2.length := by
  rw [List.getD_eq_getElem?_getD, List.getElem?_eq_getElem hj]
  exact h _ (List.getElem_mem hj)
theorem okH.off {ls : List kL} {L : List kH} (h : okH ls L) {lt : kH → kH → Bool} {sz : Nat} {x : kH} (hx : x.1 < ls.length ∧ x.2 < (lnN ls x.1).2.length) : okH ls (offK lt sz x L) := by
  intro y hy
  have hy := List.mem_of_mem_take hy
  unfold insB at hy
  rcases List.mem_append.mp hy with q | q
  · exact h y (List.mem_of_mem_take q)
  · rcases List.mem_cons.mp q with q | q
    · rw [q]; exact hx
    · exact h y (List.mem_of_mem_drop q)
def Spt (M : mm_M) (a : Nat) (L : List kH) : Prop := ∃ f, M.2 (a + 7) = some (mm_ai 9 f) ∧ ∀ j, j < L.length → f j = iI (20 * (L.getD j (0, 0)).1 + (L.getD j (0, 0)).2 : Nat)
theorem Spt.fr {M M' : mm_M} {a b k : Nat} {L : List kH} (h : Spt M a L) (f : fr M M' b k) (hd : a + 7 < b ∨ b + k ≤ a + 7) : Spt M' a L := by
  obtain ⟨u, h1, h2⟩ := h
  exact ⟨u, f.at h1 (by omega), h2⟩
theorem enc_div {i p : Nat} (hi : i ≤ 10) (hp : p < 20) : iI ((20 * i + p : Nat) : Int) / iI 20 = iI i := by
  rw [iI_div (by omega) (sm_of (by omega) (by omega)) (by omega) (sm_of (by omega) (by omega))]
  congr 1; omega
theorem enc_rem {i p : Nat} (hi : i ≤ 10) (hp : p < 20) : iI ((20 * i + p : Nat) : Int) - iI i * iI 20 = iI p := by
  rw [iI_mul, iI_sub]; congr 1; omega
theorem st_offer {n : Nat} (hn : 60 ≤ n) {M : mm_M} {a b : Nat} {F : Nat → Nat} {D : Nat → kL} {cc : Nat} {giv : Int} {c : kU} (hO : Ov M a cc giv) (hL : Lv M a F D) (hC : CuT M b c) (hb : a + 8 ≤ b) (hsz : 1 ≤ c.2.1 ∧ c.2.1 ≤ 9) {L : List kH} (hS : Spt M a L) (hl : (L.length : Int) ≤ c.2.1) (hok : okH (lns F D cc) L) {i p : Nat} (hi : i < cc) (hp : p < (lnN (lns F D cc) i).2.length) : ∃ M1, pX6_offer n M a b (iI L.length) (iI i) (iI p) = some (iI (offK (ltH (lns F D cc) c.1.length) c.2.1.toNat (i, p) L).length, M1) ∧ Spt M1 a (offK (ltH (lns F D cc) c.1.length) c.2.1.toNat (i, p) L) ∧ fr M M1 (a + 7) 1 := by
  have hc := hO.1
  have ge : ∀ z, z < cc → lnN (lns F D cc) z = D (F z) := fun z hz => lns_get hz
  have li := hL.ln (i := i) (by omega)
  have leni := hL.len (i := i) (by omega)
  rw [ge i hi] at hp
  have ri := hL.ra (i := i) (by omega) (by omega)
  rw [show ((i : Int)).toNat = i by omega] at ri
  have wl := hC.2.2.2.2.2.1.1
  have hw := hC.2.2.2.2.1
  have hsg := hC.2.2.2.2.2.1
  have c20 : (iI 20 = iI 0) = False := by decide
  obtain ⟨f, s1, s2⟩ := hS
  generalize hlt : ltH (lns F D cc) c.1.length = lt
  -- the place is sought
  have l1 : ∀ (q k : Nat), k ≤ L.length → k < q → pX6_offer_l3 n q M a b (iI L.length) (iI i) (iI p) (iI k) = pX6_offer_b64 n M a b (iI L.length) (iI i) (iI p) (iI (posB lt (i, p) L k)) := by
    intro q
    induction q with
    | zero => intro k h1 h2; omega
    | succ q ih =>
      intro k h1 h2
      show pX6_offer_l3b n (pX6_offer_l3 n q) M a b _ _ _ (iI k) = _
      cases k with
      | zero => simp (disch := (first | assumption | (refine sm_of ?_ ?_ <;> omega) | fail)) only [iI_add, iI_sub, iI_mul, iI_neg, iI_lt, iI_le, iI_eq, b1_s, b2_s, ↓reduceIte, L0, L1, L2, L3, L4, L5, L6, L7, L8, L9, L10, L12, L20, L22, L24, L26, L27, L28, L32, L40, L60, L73, L95, L97, L222, L240, L441, L442, L622, Lm1, Lmh, pX6_offer_l3b, posB, show ((0 : Nat) : Int) ≤ 0 by omega]
      | succ k =>
        have ok := hok.get (j := k) (by omega)
        rw [lns_len] at ok
        have ek := s2 k (by omega)
        generalize hx : L.getD k (0, 0) = x at *
        rw [ge x.1 ok.1] at ok
        have lx := hL.ln (i := x.1) (by omega)
        have lenx := hL.len (i := x.1) (by omega)
        have ia := ia_at s1 (i := k) (by omega) (by omega) (sm_of (by omega) (by omega))
        rw [show ((k : Int)).toNat = k by omega, ek] at ia
        have rx := hL.ra (i := x.1) (by omega) (by omega)
        rw [show ((x.1 : Int)).toNat = x.1 by omega] at rx
        have cm := ln_cmp hn li lx (p := p) (q := x.2) (wl := c.1.length) (by omega) (by omega) (by omega)
        have cb := cmpH_bd (wl := c.1.length) (xs := (D (F i)).2) (ys := (D (F x.1)).2) li.1 lx.1 (show p ≤ 100 by omega) (show x.2 ≤ 100 by omega)
        have e1 := enc_div (i := x.1) (p := x.2) (by omega) (by omega)
        have e2 := enc_rem (i := x.1) (p := x.2) (by omega) (by omega)
        have ek1 : (((k + 1 : Nat) : Int) - 1) = (k : Int) := by omega
        have eq : lt (i, p) x = decide (cmpH c.1.length p (D (F i)).1 (D (F i)).2 x.2 (D (F x.1)).1 (D (F x.1)).2 < 0) := by
          rw [← hlt]; unfold ltH cmpK; rw [ge i hi, ge x.1 ok.1]
        simp only [pX6_offer_l3b, L0, L1, L20]
        rw [if_neg (by rw [iI_le (sm_of (by omega) (by omega)) (sm_of (by omega) (by omega))]; omega)]
        simp only [gr_at hO.2.2 0 rfl, gr_at hO.2.2 5 rfl, b1_s, ri, iI_sub, ek1, ia, c20, ↓reduceIte, e1, rx, e2, gr_at hw 0 rfl, gi_at hsg.2.2.1 1 rfl, cm, b2_s]
        simp only [posB, hx, eq]
        by_cases d : cmpH c.1.length p (D (F i)).1 (D (F i)).2 x.2 (D (F x.1)).1 (D (F x.1)).2 < 0
        · rw [if_neg (by decide), if_neg (by decide), if_neg (by rw [iI_le (sm_of (by omega) (by omega)) (sm_of (by omega) (by omega))]; omega), if_pos (by simp [d])]
          simp (disch := (first | assumption | (refine sm_of ?_ ?_ <;> omega) | fail)) only [iI_add, iI_sub, iI_mul, iI_neg, iI_lt, iI_le, iI_eq, b1_s, b2_s, ↓reduceIte, L0, L1, L2, L3, L4, L5, L6, L7, L8, L9, L10, L12, L20, L22, L24, L26, L27, L28, L32, L40, L60, L73, L95, L97, L222, L240, L441, L442, L622, Lm1, Lmh, ]
          rw [show (((k + 1 : Nat) : Int) + -1) = (k : Int) by omega]
          exact ih k (by omega) (by omega)
        · rw [if_neg (by decide), if_neg (by decide), if_pos (by rw [iI_le (sm_of (by omega) (by omega)) (sm_of (by omega) (by omega))]; omega), if_neg (by simp [d])]
  have hpos := posB_le lt (i, p) L L.length
  have hge := insB_get lt (i, p) L
  have hil := insB_len lt (i, p) L
  generalize hq : posB lt (i, p) L L.length = at_ at *
  have h64 : ∃ M1, pX6_offer_b64 n M a b (iI L.length) (iI i) (iI p) (iI at_) = some (iI (offK lt c.2.1.toNat (i, p) L).length, M1) ∧ Spt M1 a (offK lt c.2.1.toNat (i, p) L) ∧ fr M M1 (a + 7) 1 := by
    have tk : ∀ j, j < c.2.1.toNat → (offK lt c.2.1.toNat (i, p) L).getD j (0, 0) = (insB lt (i, p) L).getD j (0, 0) := by
      intro j hj
      unfold offK
      rw [List.getD_eq_getElem?_getD, List.getElem?_take, if_pos hj, List.getD_eq_getElem?_getD]
    by_cases c1 : c.2.1 ≤ at_
    · have el : (offK lt c.2.1.toNat (i, p) L).length = L.length := by unfold offK; rw [List.length_take, hil]; omega
      refine ⟨M, ?_, ⟨f, s1, fun j hj => ?_⟩, fr.rfl⟩
      · rw [el]
        simp (disch := (first | assumption | (refine sm_of ?_ ?_ <;> omega) | fail)) only [iI_add, iI_sub, iI_mul, iI_neg, iI_lt, iI_le, iI_eq, b1_s, b2_s, ↓reduceIte, L0, L1, L2, L3, L4, L5, L6, L7, L8, L9, L10, L12, L20, L22, L24, L26, L27, L28, L32, L40, L60, L73, L95, L97, L222, L240, L441, L442, L622, Lm1, Lmh, pX6_offer_b64, gi_at hw 1 rfl, c1]
      · rw [el] at hj
        rw [tk j (by omega), hge j, if_pos (by omega)]
        exact s2 j hj
    · have el : (offK lt c.2.1.toNat (i, p) L).length = min L.length (c.2.1.toNat - 1) + 1 := by unfold offK; rw [List.length_take, hil]; omega
      generalize hmv : min L.length (c.2.1.toNat - 1) = mv at *
      have hmv2 : mm_min (iI L.length) (iI (c.2.1 - 1)) = iI mv := by
        unfold mm_min
        by_cases d : c.2.1 - 1 < L.length
        · rw [if_pos (by rw [iI_lt (sm_of (by omega) (by omega)) (sm_of (by omega) (by omega))]; exact d)]; congr 1; omega
        · rw [if_neg (by rw [iI_lt (sm_of (by omega) (by omega)) (sm_of (by omega) (by omega))]; exact d)]; congr 1; omega
      have l2 : ∀ (q k : Nat) (M : mm_M) (g : Nat → Int32), Ov M a cc giv → M.2 (a + 7) = some (mm_ai 9 g) → at_ ≤ k → k ≤ mv → k < at_ + q → ∃ M1 g1, pX6_offer_l101 n q M a (iI i) (iI p) (iI at_) (iI mv) (iI k) = pX6_offer_b130 n M1 a (iI i) (iI p) (iI at_) (iI mv) ∧ M1.2 (a + 7) = some (mm_ai 9 g1) ∧ (∀ j, g1 j = if at_ < j ∧ j ≤ k then g (j - 1) else g j) ∧ fr M M1 (a + 7) 1 := by
        intro q
        induction q with
        | zero => intro k M g _ _ h1 h2 h3; omega
        | succ q ih =>
          intro k M g hO hg h1 h2 h3
          show ∃ M1 g1, pX6_offer_l101b n (pX6_offer_l101 n q) M a _ _ _ _ (iI k) = _ ∧ _
          by_cases d : (k : Int) ≤ at_
          · refine ⟨M, g, ?_, hg, fun j => by rw [if_neg (by omega)], fr.rfl⟩
            simp (disch := (first | assumption | (refine sm_of ?_ ?_ <;> omega) | fail)) only [iI_add, iI_sub, iI_mul, iI_neg, iI_lt, iI_le, iI_eq, b1_s, b2_s, ↓reduceIte, L0, L1, L2, L3, L4, L5, L6, L7, L8, L9, L10, L12, L20, L22, L24, L26, L27, L28, L32, L40, L60, L73, L95, L97, L222, L240, L441, L442, L622, Lm1, Lmh, pX6_offer_l101b, d]
          · have ia := ia_at hg (i := (k : Int) - 1) (by omega) (by omega) (sm_of (by omega) (by omega))
            obtain ⟨M1, e1, t1, f1⟩ := is_ex hg (i := k) (by omega) (by omega) (sm_of (by omega) (by omega)) (g ((k : Int) - 1).toNat)
            obtain ⟨M2, g2, e2, t2, a2, f2⟩ := ih (k - 1) M1 _ (hO.fr f1 (by omega)) t1 (by omega) (by omega) (by omega)
            refine ⟨M2, g2, ?_, t2, fun j => ?_, f1.trans f2⟩
            · simp (disch := (first | assumption | (refine sm_of ?_ ?_ <;> omega) | fail)) only [iI_add, iI_sub, iI_mul, iI_neg, iI_lt, iI_le, iI_eq, b1_s, b2_s, ↓reduceIte, L0, L1, L2, L3, L4, L5, L6, L7, L8, L9, L10, L12, L20, L22, L24, L26, L27, L28, L32, L40, L60, L73, L95, L97, L222, L240, L441, L442, L622, Lm1, Lmh, pX6_offer_l101b, d, gr_at hO.2.2 5 rfl, ia, e1]
              rw [show ((k : Int) + -1) = ((k - 1 : Nat) : Int) by omega, e2]
            · rw [a2 j]
              simp only [upd]
              by_cases e : j = k
              · subst e; rw [if_neg (by omega), if_pos (by omega), if_pos (by omega)]; congr 1; omega
              · by_cases e' : at_ < j ∧ j ≤ k
                · rw [if_pos (by omega), if_pos e', if_neg (by omega)]
                · rw [if_neg (by omega), if_neg e', if_neg (by omega)]
      obtain ⟨M1, g1, e1, t1, a1, f1⟩ := l2 n mv M f hO s1 (by omega) (by omega) (by omega)
      have hO1 := hO.fr f1 (by omega)
      obtain ⟨M2, e2, t2, f2⟩ := is_ex t1 (i := at_) (by omega) (by omega) (sm_of (by omega) (by omega)) (iI ((i : Int) * 20 + p))
      refine ⟨M2, ?_, ⟨_, t2, fun j hj => ?_⟩, f1.trans f2⟩
      · rw [el]
        simp (disch := (first | assumption | (refine sm_of ?_ ?_ <;> omega) | fail)) only [iI_add, iI_sub, iI_mul, iI_neg, iI_lt, iI_le, iI_eq, b1_s, b2_s, ↓reduceIte, L0, L1, L2, L3, L4, L5, L6, L7, L8, L9, L10, L12, L20, L22, L24, L26, L27, L28, L32, L40, L60, L73, L95, L97, L222, L240, L441, L442, L622, Lm1, Lmh, pX6_offer_b64, gi_at hw 1 rfl, c1, gr_at hO.2.2 5 rfl, len_at s1, show ((at_ : Nat) : Int) < ((9 : Nat) : Int) by omega]
        rw [hmv2, e1]
        simp (disch := (first | assumption | (refine sm_of ?_ ?_ <;> omega) | fail)) only [iI_add, iI_sub, iI_mul, iI_neg, iI_lt, iI_le, iI_eq, b1_s, b2_s, ↓reduceIte, L0, L1, L2, L3, L4, L5, L6, L7, L8, L9, L10, L12, L20, L22, L24, L26, L27, L28, L32, L40, L60, L73, L95, L97, L222, L240, L441, L442, L622, Lm1, Lmh, pX6_offer_b130, gr_at hO1.2.2 5 rfl, e2]
        simp
      · rw [el] at hj
        rw [tk j (by omega), hge j]
        simp only [upd]
        by_cases d1 : j = at_
        · subst d1; rw [if_pos (by omega), if_neg (by omega), if_pos rfl]; congr 1; simp; omega
        · rw [if_neg (by omega), a1 j]
          by_cases d2 : j < at_
          · rw [if_pos d2, if_neg (by omega)]; exact s2 j (by omega)
          · rw [if_neg d2, if_neg d1, if_pos (by omega)]; exact s2 (j - 1) (by omega)
  obtain ⟨M1, e1, t1, f1⟩ := h64
  refine ⟨M1, ?_, t1, f1⟩
  simp only [pX6_offer, v_at hO.2.2]
  rw [l1 n L.length (by omega) (by omega), hq, e1]
/-- the hits of a line that are ahead of a cursor, offered one by one -/
def scP (ls : List kL) (c : kU) (i : Nat) (L : List kH) (p : Nat) : List kH := (List.range p).foldl (fun L q => if ahU c (lnN ls i) q = true then offK (ltH ls c.1.length) c.2.1.toNat (i, q) L else L) L
def scL (ls : List kL) (c : kU) (k : Nat) : List kH := (List.range k).foldl (fun L i => scP ls c i L (lnN ls i).2.length) []
theorem scP_succ (ls : List kL) (c : kU) (i : Nat) (L : List kH) (p : Nat) : scP ls c i L (p + 1) = if ahU c (lnN ls i) p = true then offK (ltH ls c.1.length) c.2.1.toNat (i, p) (scP ls c i L p) else scP ls c i L p := by
  unfold scP; rw [List.range_succ, List.foldl_append]; rfl
theorem scL_succ (ls : List kL) (c : kU) (k : Nat) : scL ls c (k + 1) = scP ls c k (scL ls c k) (lnN ls k).2.length := by
  unfold scL; rw [List.range_succ, List.foldl_append]; rfl
def tellK (ls : List kL) (c : kU) (h : kH) : kU := (c.1, c.2.1, true, (lnN ls h.1).1, (lnN ls h.1).2, h.2, c.2.2.2.2.2.2.1 ++ [((lnN ls h.1).1, (h.2 : Int))], c.2.2.2.2.2.2.2 + 1)
def page0 (c : kU) : kU := (c.1, c.2.1, c.2.2.1, c.2.2.2.1, c.2.2.2.2.1, c.2.2.2.2.2.1, [], c.2.2.2.2.2.2.2)
def pageK (ls : List kL) (c : kU) : kU := (scL ls c ls.length).foldl (tellK ls) (page0 c)
theorem st_turn {n : Nat} (hn : 60 ≤ n) {M : mm_M} {a i0 : Nat} {F : Nat → Nat} {D : Nat → kL} {cc : Nat} {giv : Int} {C : Nat → kU} (hO : Ov M a cc giv) (hL : Lv M a F D) (hC : Cv M a C) (hi0 : i0 < 3) (hsz : 1 ≤ (C i0).2.1 ∧ (C i0).2.1 ≤ 9) (hsp : ∃ f, M.2 (a + 7) = some (mm_ai 9 f)) (hsc : nb ((C i0).2.2.2.2.2.2.2 + 10)) : ∃ M1 C1, pX6_turn n M a (a + 38 + 8 * i0) = some (iI (scL (lns F D cc) (C i0) cc).length, M1) ∧ Cv M1 a C1 ∧ C1 i0 = pageK (lns F D cc) (C i0) ∧ (∀ j, j ≠ i0 → C1 j = C j) ∧ (∃ f, M1.2 (a + 7) = some (mm_ai 9 f)) ∧ M1.1 = M.1 ∧ ∀ q, ¬ (q = a + 7 ∨ (a + 38 + 8 * i0 ≤ q ∧ q < a + 38 + 8 * i0 + 8)) → M1.2 q = M.2 q := by
  have hc := hO.1
  generalize hls : lns F D cc = ls
  have hll : ls.length = cc := by rw [← hls]; exact lns_len F D cc
  have ge : ∀ z, z < cc → lnN ls z = D (F z) := fun z hz => by rw [← hls]; exact lns_get hz
  generalize hcu : C i0 = c at *
  have hcc : ∀ M, Cv M a C → CuT M (a + 38 + 8 * i0) c := fun M h => by rw [← hcu]; exact h.2 i0 hi0
  -- tells
  have tells : ∀ (L : List kH), okH ls L → (L.length : Int) ≤ 9 → ∀ (q j : Nat) (M : mm_M) (u : kU), Ov M a cc giv → Lv M a F D → Spt M a L → CuT M (a + 38 + 8 * i0) u → j ≤ L.length → L.length < j + q → u.2.2.2.2.2.2.1.length = j → nb (u.2.2.2.2.2.2.2 + (10 - j)) → ∃ M1, pX6_turn_l76 n q M a (a + 38 + 8 * i0) (iI L.length) (iI j) = some (iI L.length, M1) ∧ CuT M1 (a + 38 + 8 * i0) ((L.drop j).foldl (tellK ls) u) ∧ fr M M1 (a + 38 + 8 * i0) 8 := by
    intro L hok hl q
    induction q with
    | zero => intro j M u _ _ _ _ h1 h2; omega
    | succ q ih =>
      intro j M u hO hL hS hU h1 h2 h3 h4
      show ∃ M1, pX6_turn_l76b n (pX6_turn_l76 n q) M a _ _ (iI j) = _ ∧ _
      by_cases d : (L.length : Int) ≤ j
      · refine ⟨M, ?_, by rw [List.drop_eq_nil_of_le (by omega)]; exact hU, fr.rfl⟩
        simp (disch := (first | assumption | (refine sm_of ?_ ?_ <;> omega) | fail)) only [iI_add, iI_sub, iI_mul, iI_neg, iI_lt, iI_le, iI_eq, b1_s, b2_s, ↓reduceIte, L0, L1, L2, L3, L4, L5, L6, L7, L8, L9, L10, L12, L20, L22, L24, L26, L27, L28, L32, L40, L60, L73, L95, L97, L222, L240, L441, L442, L622, Lm1, Lmh, pX6_turn_l76b, d]
      · have hS' := hS
        obtain ⟨f, s1, s2⟩ := hS
        have ok := hok.get (j := j) (by omega)
        have ek := s2 j (by omega)
        have hd : L.drop j = L.getD j (0, 0) :: L.drop (j + 1) := by
          rw [List.drop_eq_getElem_cons (by omega), List.getD_eq_getElem?_getD, List.getElem?_eq_getElem (by omega)]; rfl
        rw [hd]
        generalize hx : L.getD j (0, 0) = x at *
        rw [hll] at ok
        have lx := hL.ln (i := x.1) (by omega)
        have lenx := hL.len (i := x.1) (by omega)
        have okx := ok.2
        rw [ge x.1 ok.1] at okx
        have ia := ia_at s1 (i := j) (by omega) (by omega) (sm_of (by omega) (by omega))
        rw [show ((j : Int)).toNat = j by omega, ek] at ia
        have rx := hL.ra (i := x.1) (by omega) (by omega)
        rw [show ((x.1 : Int)).toNat = x.1 by omega] at rx
        have e1 := enc_div (i := x.1) (p := x.2) (by omega) (by omega)
        have e2 := enc_rem (i := x.1) (p := x.2) (by omega) (by omega)
        have fx := hL.2.1 x.1 (by omega)
        have h40 := hU.2.2.2.1
        unfold nb at h4 h40
        obtain ⟨M1, e3, c3, f3⟩ := cu_tell (n := n) hU lx (by omega) (p := x.2) (by omega) (by omega) ⟨by omega, by omega⟩
        have c3' : CuT M1 (a + 38 + 8 * i0) (tellK ls u x) := by
          unfold tellK; rw [ge x.1 ok.1]; exact c3
        have hh : (tellK ls u x).2.2.2.2.2.2.1.length = j + 1 := by unfold tellK; simp [h3]
        obtain ⟨M2, e4, c4, f4⟩ := ih (j + 1) M1 (tellK ls u x) (hO.fr f3 (by omega)) (hL.fr f3 (by omega)) (hS'.fr f3 (by omega)) c3' (by omega) (by omega) hh (by unfold nb tellK; simp; omega)
        refine ⟨M2, ?_, c4, f3.trans f4⟩
        simp only [pX6_turn_l76b, L20]
        rw [if_neg (by rw [iI_le (sm_of (by omega) (by omega)) (sm_of (by omega) (by omega))]; exact d)]
        simp only [gr_at hO.2.2 0 rfl, gr_at hO.2.2 5 rfl, b1_s, ia]
        rw [if_neg (by decide)]
        simp only [e1, rx, b1_s, ia, gr_at hO.2.2 5 rfl]
        rw [if_neg (by decide)]
        simp only [e2, e3, b1_s, L1, iI_add]
        rw [show ((j : Int) + 1) = ((j + 1 : Nat) : Int) by omega, e4]
  -- places of a line
  have places : ∀ (K : mm_M → Nat → Nat → Int32 → Int32 → Option (Int32 × mm_M)) (i : Nat) (Z0 : List kH), i < cc → okH ls Z0 → (Z0.length : Int) ≤ c.2.1 → ∀ (q p : Nat) (M : mm_M), Ov M a cc giv → Lv M a F D → CuT M (a + 38 + 8 * i0) c → Spt M a (scP ls c i Z0 p) → okH ls (scP ls c i Z0 p) → ((scP ls c i Z0 p).length : Int) ≤ c.2.1 → p ≤ (lnN ls i).2.length → (lnN ls i).2.length < p + q → ∃ M1, pX6_turn_l15 n K q M a (a + 38 + 8 * i0) (iI (scP ls c i Z0 p).length) (iI i) (iI p) = K M1 a (a + 38 + 8 * i0) (iI (scP ls c i Z0 (lnN ls i).2.length).length) (iI ((i + 1 : Nat) : Int)) ∧ Spt M1 a (scP ls c i Z0 (lnN ls i).2.length) ∧ okH ls (scP ls c i Z0 (lnN ls i).2.length) ∧ ((scP ls c i Z0 (lnN ls i).2.length).length : Int) ≤ c.2.1 ∧ fr M M1 (a + 7) 1 := by
    intro K i Z0 hi hok0 hl0 q
    induction q with
    | zero => intro p M _ _ _ _ _ _ h1 h2; omega
    | succ q ih =>
      intro p M hO hL hU hS hok hl h1 h2
      show ∃ M1, pX6_turn_l15b n K (pX6_turn_l15 n K q) M a _ _ _ _ = _ ∧ _
      have li := hL.ln (i := i) (by omega)
      have leni := hL.len (i := i) (by omega)
      have ri := hL.ra (i := i) (by omega) (by omega)
      rw [show ((i : Int)).toNat = i by omega] at ri
      have gi := ge i hi
      have hp20 : p ≤ 20 := by rw [gi] at h1; omega
      by_cases d : ((D (F i)).2.length : Int) ≤ p
      · have ep : p = (lnN ls i).2.length := by rw [gi] at h1 ⊢; omega
        refine ⟨M, ?_, by rw [← ep]; exact hS, by rw [← ep]; exact hok, by rw [← ep]; exact hl, fr.rfl⟩
        simp (disch := (first | assumption | (refine sm_of ?_ ?_ <;> omega) | fail)) only [iI_add, iI_sub, iI_mul, iI_neg, iI_lt, iI_le, iI_eq, b1_s, b2_s, ↓reduceIte, L0, L1, L2, L3, L4, L5, L6, L7, L8, L9, L10, L12, L20, L22, L24, L26, L27, L28, L32, L40, L60, L73, L95, L97, L222, L240, L441, L442, L622, Lm1, Lmh, pX6_turn_l15b, gr_at hO.2.2 0 rfl, ri, gr_at li.2.1 0 rfl, gi_at li.2.2.2.2.1 1 rfl, d]
        rw [← ep, show ((i : Int) + 1) = ((i + 1 : Nat) : Int) by omega]
      · have ca := cu_ahead hn hU li (p := p) (by omega)
        have ce : ahd c.1 c.2.2.1 c.2.2.2.1 c.2.2.2.2.1 c.2.2.2.2.2.1 (D (F i)).1 (D (F i)).2 p = ahU c (lnN ls i) p := by rw [gi]; rfl
        rw [ce] at ca
        have ss := scP_succ ls c i Z0 p
        cases e : ahU c (lnN ls i) p
        · rw [e] at ss ca
          rw [if_neg (by decide)] at ss
          rw [← ss] at hS hok hl ⊢
          obtain ⟨M1, e1, r⟩ := ih (p + 1) M hO hL hU hS hok hl (by rw [gi]; omega) (by omega)
          refine ⟨M1, ?_, r⟩
          simp (disch := (first | assumption | (refine sm_of ?_ ?_ <;> omega) | fail)) only [iI_add, iI_sub, iI_mul, iI_neg, iI_lt, iI_le, iI_eq, b1_s, b2_s, ↓reduceIte, L0, L1, L2, L3, L4, L5, L6, L7, L8, L9, L10, L12, L20, L22, L24, L26, L27, L28, L32, L40, L60, L73, L95, L97, L222, L240, L441, L442, L622, Lm1, Lmh, pX6_turn_l15b, gr_at hO.2.2 0 rfl, ri, gr_at li.2.1 0 rfl, gi_at li.2.2.2.2.1 1 rfl, d, ca, bI_0]
          rw [show ((p : Int) + 1) = ((p + 1 : Nat) : Int) by omega, e1]
        · rw [e] at ss ca
          rw [if_pos rfl] at ss
          obtain ⟨M1, e1, s1, f1⟩ := st_offer hn hO hL hU (by omega) hsz hS hl (by rw [hls]; exact hok) (i := i) (p := p) hi (by rw [hls, gi]; omega)
          rw [hls] at e1 s1
          rw [← ss] at e1 s1
          have ol := offK_len (ltH ls c.1.length) c.2.1.toNat (i, p) (scP ls c i Z0 p)
          rw [← ss] at ol
          have ok2 : okH ls (scP ls c i Z0 (p + 1)) := by rw [ss]; exact hok.off ⟨by rw [hll]; exact hi, by rw [gi]; simp; omega⟩
          obtain ⟨M2, e2, r1, r2, r3, r4⟩ := ih (p + 1) M1 (hO.fr f1 (by omega)) (hL.fr f1 (by omega)) (hU.fr f1 (by omega)) s1 ok2 (by omega) (by rw [gi]; omega) (by omega)
          refine ⟨M2, ?_, r1, r2, r3, f1.trans r4⟩
          simp (disch := (first | assumption | (refine sm_of ?_ ?_ <;> omega) | fail)) only [iI_add, iI_sub, iI_mul, iI_neg, iI_lt, iI_le, iI_eq, b1_s, b2_s, ↓reduceIte, L0, L1, L2, L3, L4, L5, L6, L7, L8, L9, L10, L12, L20, L22, L24, L26, L27, L28, L32, L40, L60, L73, L95, L97, L222, L240, L441, L442, L622, Lm1, Lmh, pX6_turn_l15b, gr_at hO.2.2 0 rfl, ri, gr_at li.2.1 0 rfl, gi_at li.2.2.2.2.1 1 rfl, d, ca, bI_0, Bool.true_eq_false, e1]
          rw [show ((p : Int) + 1) = ((p + 1 : Nat) : Int) by omega, e2]
  have lines : ∀ (q i : Nat) (M : mm_M), Ov M a cc giv → Lv M a F D → Cv M a C → Spt M a (scL ls c i) → okH ls (scL ls c i) → ((scL ls c i).length : Int) ≤ c.2.1 → i ≤ cc → cc < i + q → ∃ M1 M2, pX6_turn_l4 n q M a (a + 38 + 8 * i0) (iI (scL ls c i).length) (iI i) = some (iI (scL ls c cc).length, M2) ∧ Spt M1 a (scL ls c cc) ∧ fr M M1 (a + 7) 1 ∧ CuT M2 (a + 38 + 8 * i0) ((scL ls c cc).foldl (tellK ls) (page0 c)) ∧ fr M1 M2 (a + 38 + 8 * i0) 8 := by
    intro q
    induction q with
    | zero => intro i M _ _ _ _ _ _ h1 h2; omega
    | succ q ih =>
      intro i M hO hL hC hS hok hl h1 h2
      show ∃ M1 M2, pX6_turn_l4b n (pX6_turn_l4 n q) M a _ _ (iI i) = _ ∧ _
      have hU := hcc M hC
      by_cases d : (cc : Int) ≤ i
      · have ei : i = cc := by omega
        subst ei
        obtain ⟨h1', h2', h3', h4', h5', h6', h7', ⟨f, h8', h9'⟩, k, h10', h11'⟩ := hU
        obtain ⟨M1, e1, s1, f1⟩ := pi_ex h5' 5 (iI 0)
        have u1 : CuT M1 (a + 38 + 8 * i0) (page0 c) := ⟨h1', h2', by simp [page0], h4', s1, h6'.fr f1 (by omega), h7'.fr f1 (by omega), ⟨f, f1.at h8' (by omega), fun z hz => by simp [page0] at hz⟩, k, f1.at h10' (by omega), fun z hz => by simp [page0] at hz⟩
        obtain ⟨M2, e2, u2, f2⟩ := tells (scL ls c i) hok (by omega) n 0 M1 (page0 c) (hO.fr f1 (by omega)) (hL.fr f1 (by omega)) (hS.fr f1 (by omega)) u1 (by omega) (by omega) (by simp [page0]) (by unfold nb at hsc ⊢; simp [page0]; omega)
        refine ⟨M, M2, ?_, hS, fr.rfl, by simpa using u2, (f1.mono (by omega) (by omega)).trans f2⟩
        have e2 : pX6_turn_l76 n n M1 a (a + 38 + 8 * i0) (iI (scL ls c i).length) (iI 0) = _ := e2
        simp (disch := (first | assumption | (refine sm_of ?_ ?_ <;> omega) | fail)) only [iI_add, iI_sub, iI_mul, iI_neg, iI_lt, iI_le, iI_eq, b1_s, b2_s, ↓reduceIte, L0, L1, L2, L3, L4, L5, L6, L7, L8, L9, L10, L12, L20, L22, L24, L26, L27, L28, L32, L40, L60, L73, L95, L97, L222, L240, L441, L442, L622, Lm1, Lmh, pX6_turn_l4b, gi_at hO.2.2 1 rfl, d, e1, e2]
      · have hs0 := scL_succ ls c i
        obtain ⟨M1, e1, s1, k1, k2, f1⟩ := places (pX6_turn_l4 n q) i (scL ls c i) (by omega) hok hl n 0 M hO hL hU hS hok hl (by omega) (by have := hL.len (i := i) (by omega); rw [ge i (by omega)]; omega)
        rw [← hs0] at e1 s1 k1 k2
        obtain ⟨M2, M3, e2, s2, f2, u3, f3⟩ := ih (i + 1) M1 (hO.fr f1 (by omega)) (hL.fr f1 (by omega)) (hC.fr f1 (by omega)) s1 k1 k2 (by omega) (by omega)
        refine ⟨M2, M3, ?_, s2, f1.trans f2, u3, f3⟩
        have e1 : pX6_turn_l15 n (pX6_turn_l4 n q) n M a (a + 38 + 8 * i0) (iI (scL ls c i).length) (iI i) (iI 0) = _ := e1
        simp (disch := (first | assumption | (refine sm_of ?_ ?_ <;> omega) | fail)) only [iI_add, iI_sub, iI_mul, iI_neg, iI_lt, iI_le, iI_eq, b1_s, b2_s, ↓reduceIte, L0, L1, L2, L3, L4, L5, L6, L7, L8, L9, L10, L12, L20, L22, L24, L26, L27, L28, L32, L40, L60, L73, L95, L97, L222, L240, L441, L442, L622, Lm1, Lmh, pX6_turn_l4b, gi_at hO.2.2 1 rfl, d]
        rw [e1, e2]
  obtain ⟨f, hf⟩ := hsp
  obtain ⟨M1, M2, e1, s1, f1, u2, f2⟩ := lines n 0 M hO hL hC ⟨f, hf, fun j hj => by simp [scL] at hj⟩ (fun h hh => by simp [scL] at hh) (by simp [scL]; omega) (by omega) (by omega)
  have C1 := hC.fr f1 (by omega)
  refine ⟨M2, fun j => if j = i0 then pageK ls c else C j, ?_, ⟨?_, fun j hj => ?_⟩, by simp, fun j hj => by simp [hj], ?_, f2.1.trans f1.1, fun q hq => ?_⟩
  · simp only [pX6_turn, v_at hO.2.2]
    exact e1
  · obtain ⟨⟨g, g1, g2⟩, -⟩ := C1
    exact ⟨g, f2.at g1 (by omega), g2⟩
  · by_cases d : j = i0
    · subst d; simp only [↓reduceIte, pageK, hll]; exact u2
    · simp only [if_neg d]; exact (C1.2 j hj).fr f2 (by omega)
  · obtain ⟨g, g1, -⟩ := s1
    exact ⟨g, f2.at g1 (by omega)⟩
  · rw [f2.2 q (by omega), f1.2 q (by omega)]
