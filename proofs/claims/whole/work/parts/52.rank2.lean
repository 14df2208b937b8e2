def sfx (ls : List kL) (h : kH) : List Int := (lnN ls h.1).2.drop h.2
def gH (L : List kH) (i : Int) : kH := L.getD i.toNat (0, 0)
def inH (L : List kH) (i : Int) : Prop := 0 ≤ i ∧ i < L.length
def shK (ls : List kL) (L : List kH) (i : Int) : Int := if 0 ≤ i ∧ i + 1 < L.length then (lcp (sfx ls (gH L i)) (sfx ls (gH L (i + 1))) : Nat) else -1
def sgK (ls : List kL) (L : List kH) (i : Int) : Int := (sfx ls (gH L i)).length
theorem shK_bd (ls : List kL) (L : List kH) (i : Int) (h : ∀ l ∈ ls, l.2.length ≤ 20) : -1 ≤ shK ls L i ∧ shK ls L i ≤ 20 := by
  unfold shK
  split
  · have := (lcp_le (sfx ls (gH L i)) (sfx ls (gH L (i + 1)))).1
    have l2 : (sfx ls (gH L i)).length ≤ 20 := by
      unfold sfx lnN
      rw [List.length_drop]
      have : ((ls.getD (gH L i).1 (0, []))).2.length ≤ 20 := by
        rw [List.getD_eq_getElem?_getD]
        cases e : ls[(gH L i).1]? with
        | none => simp
        | some l => simpa using h l (List.mem_of_getElem? e)
      omega
    omega
  · omega
/-- a ranking of a state's places -/
def RkS (M : mm_M) (r a : Nat) (ls : List kL) (L : List kH) (b : Bool) : Prop := ∃ F D cc giv, Ov M a cc giv ∧ Lv M a F D ∧ ls = lns F D cc ∧ Rk M r a L b ∧ okH ls L
theorem RkS.len {M : mm_M} {r a : Nat} {ls : List kL} {L : List kH} {b : Bool} (h : RkS M r a ls L b) : ∀ l ∈ ls, l.2.length ≤ 20 := by
  obtain ⟨F, D, cc, giv, h1, h2, h3, -⟩ := h
  rw [h3]; exact h2.all h1.1
theorem rk_sf {n : Nat} {M : mm_M} {r a : Nat} {ls : List kL} {L : List kH} {b : Bool} (h : RkS M r a ls L b) {i : Int} (hi : 0 ≤ i ∧ i < L.length) : pX3_signsFrom n M r (iI i) = some (iI (sgK ls L i), M) := by
  obtain ⟨F, D, cc, giv, hO, hL, hls, hR, hok⟩ := h
  have hc := hO.1
  have hll : ls.length = cc := by rw [hls]; exact lns_len F D cc
  have ge : ∀ z, z < cc → lnN ls z = D (F z) := fun z hz => by rw [hls]; exact lns_get hz
  have hs : smH L := by
    intro x hx
    have q := hok x hx
    rw [hll] at q
    rw [ge x.1 q.1] at q
    have := hL.len (i := x.1) (by omega)
    omega
  have hr := hR.2.1
  have ok := hok.get (j := i.toNat) (by omega)
  have rl := rk_line (n := n) hR hs (j := i.toNat) (by omega)
  have rp := rk_place (n := n) hR hs (j := i.toNat) (by omega)
  rw [show ((i.toNat : Nat) : Int) = i by omega] at rl rp
  unfold sgK gH sfx
  rw [hll] at ok
  generalize hx : L.getD i.toNat (0, 0) = x at *
  have okx := ok.2
  rw [ge x.1 ok.1] at okx ⊢
  have lx := hL.ln (i := x.1) (by omega)
  have lenx := hL.len (i := x.1) (by omega)
  have rx := hL.ra (i := x.1) (by omega) (by omega)
  rw [show ((x.1 : Int)).toNat = x.1 by omega] at rx
  simp (disch := (first | assumption | (refine sm_of ?_ ?_ <;> omega) | fail)) only [iI_add, iI_sub, iI_mul, iI_neg, iI_lt, iI_le, iI_eq, b1_s, b2_s, ↓reduceIte, L0, L1, L2, L3, L4, L5, L6, L7, L8, L9, L10, L12, L20, L22, L24, L26, L27, L28, L32, L40, L60, L73, L95, L97, L222, L240, L441, L442, L622, Lm1, Lmh, pX3_signsFrom, v_at hr, gr_at hr 0 rfl, gr_at hO.2.2 0 rfl, rl, rx, gr_at lx.2.1 0 rfl, gi_at lx.2.2.2.2.1 1 rfl, rp]
  congr 3
  rw [List.length_drop]; omega
theorem rk_sh {n : Nat} (hn : 60 ≤ n) {M : mm_M} {r a : Nat} {ls : List kL} {L : List kH} {b : Bool} (h : RkS M r a ls L b) {i : Int} (hi : -1000000 ≤ i ∧ i ≤ 1000000) : pX3_shared n M r (iI i) = some (iI (shK ls L i), M) := by
  obtain ⟨F, D, cc, giv, hO, hL, hls, hR, hok⟩ := h
  have hc := hO.1
  have hll : ls.length = cc := by rw [hls]; exact lns_len F D cc
  have ge : ∀ z, z < cc → lnN ls z = D (F z) := fun z hz => by rw [hls]; exact lns_get hz
  have hs : smH L := by
    intro x hx
    have q := hok x hx
    rw [hll] at q
    rw [ge x.1 q.1] at q
    have := hL.len (i := x.1) (by omega)
    omega
  have hr := hR.2.1
  have h1 := rk_has (n := n) hR (i := i) (sm_of (by omega) (by omega))
  have h2 := rk_has (n := n) hR (i := i + 1) (sm_of (by omega) (by omega))
  unfold shK
  by_cases c1 : 0 ≤ i ∧ i < L.length
  · rw [decide_eq_true c1] at h1
    by_cases c2 : i + 1 < L.length
    · rw [decide_eq_true (show 0 ≤ i + 1 ∧ i + 1 < L.length by omega)] at h2
      have ok := hok.get (j := i.toNat) (by omega)
      have ok' := hok.get (j := (i + 1).toNat) (by omega)
      have rl := rk_line (n := n) hR hs (j := i.toNat) (by omega)
      have rp := rk_place (n := n) hR hs (j := i.toNat) (by omega)
      have rl' := rk_line (n := n) hR hs (j := (i + 1).toNat) (by omega)
      have rp' := rk_place (n := n) hR hs (j := (i + 1).toNat) (by omega)
      rw [show ((i.toNat : Nat) : Int) = i by omega] at rl rp
      rw [show (((i + 1).toNat : Nat) : Int) = i + 1 by omega] at rl' rp'
      rw [if_pos (by omega)]
      unfold gH sfx
      rw [hll] at ok ok'
      generalize hx : L.getD i.toNat (0, 0) = x at *
      generalize hy : L.getD (i + 1).toNat (0, 0) = y at *
      have okx := ok.2
      have oky := ok'.2
      rw [ge x.1 ok.1] at okx ⊢
      rw [ge y.1 ok'.1] at oky ⊢
      have lx := hL.ln (i := x.1) (by omega)
      have lenx := hL.len (i := x.1) (by omega)
      have ly := hL.ln (i := y.1) (by omega)
      have leny := hL.len (i := y.1) (by omega)
      have rx := hL.ra (i := x.1) (by omega) (by omega)
      have ry := hL.ra (i := y.1) (by omega) (by omega)
      rw [show ((x.1 : Int)).toNat = x.1 by omega] at rx
      rw [show ((y.1 : Int)).toNat = y.1 by omega] at ry
      have sh := sg_shared hn lx.2.2 ly.2.2 (p := x.2) (q := y.2) (by omega) (by omega)
      simp (disch := (first | assumption | (refine sm_of ?_ ?_ <;> omega) | fail)) only [iI_add, iI_sub, iI_mul, iI_neg, iI_lt, iI_le, iI_eq, b1_s, b2_s, ↓reduceIte, L0, L1, L2, L3, L4, L5, L6, L7, L8, L9, L10, L12, L20, L22, L24, L26, L27, L28, L32, L40, L60, L73, L95, L97, L222, L240, L441, L442, L622, Lm1, Lmh, pX3_shared, v_at hr, h1, bI_0, Bool.true_eq_false, h2, gr_at hr 0 rfl, gr_at hO.2.2 0 rfl, rl', ry, gr_at ly.2.1 0 rfl, rl, rx, gr_at lx.2.1 0 rfl, rp, rp', sh]
    · rw [decide_eq_false (by omega)] at h2
      rw [if_neg (by omega)]
      simp (disch := (first | assumption | (refine sm_of ?_ ?_ <;> omega) | fail)) only [iI_add, iI_sub, iI_mul, iI_neg, iI_lt, iI_le, iI_eq, b1_s, b2_s, ↓reduceIte, L0, L1, L2, L3, L4, L5, L6, L7, L8, L9, L10, L12, L20, L22, L24, L26, L27, L28, L32, L40, L60, L73, L95, L97, L222, L240, L441, L442, L622, Lm1, Lmh, pX3_shared, v_at hr, h1, bI_0, Bool.true_eq_false, h2]
  · rw [decide_eq_false c1] at h1
    rw [if_neg (by omega)]
    simp (disch := (first | assumption | (refine sm_of ?_ ?_ <;> omega) | fail)) only [iI_add, iI_sub, iI_mul, iI_neg, iI_lt, iI_le, iI_eq, b1_s, b2_s, ↓reduceIte, L0, L1, L2, L3, L4, L5, L6, L7, L8, L9, L10, L12, L20, L22, L24, L26, L27, L28, L32, L40, L60, L73, L95, L97, L222, L240, L441, L442, L622, Lm1, Lmh, pX3_shared, v_at hr, h1, bI_0]
def msN (ls : List kL) (L : List kH) : Nat → Int × Int
  | 0 => (-1, 0)
  | k + 1 => if (msN ls L k).2 < shK ls L k then ((k : Int), shK ls L k) else msN ls L k
theorem msN_bd (ls : List kL) (L : List kH) (h : ∀ l ∈ ls, l.2.length ≤ 20) (k : Nat) : -1 ≤ (msN ls L k).1 ∧ (msN ls L k).1 < k + 1 ∧ 0 ≤ (msN ls L k).2 ∧ (msN ls L k).2 ≤ 20 := by
  induction k with
  | zero => simp [msN]
  | succ k ih =>
    have := shK_bd ls L k h
    simp only [msN]
    split <;> simp <;> omega
theorem rk_ms {n : Nat} (hn : 300 ≤ n) {M : mm_M} {r a : Nat} {ls : List kL} {L : List kH} {b : Bool} (h : RkS M r a ls L b) : pX3_mostShared n M r = some (iI (msN ls L L.length).1, M) := by
  have hl := h.len
  have hR : Rk M r a L b := by obtain ⟨F, D, cc, giv, _, _, _, q, _⟩ := h; exact q
  have h0 := hR.1
  have hr := hR.2.1
  have loop : ∀ (q i : Nat), i ≤ L.length → L.length < i + q → pX3_mostShared_l6 n q M r (iI (msN ls L i).1) (iI (msN ls L i).2) (iI i) = some (iI (msN ls L L.length).1, M) := by
    intro q
    induction q with
    | zero => intro i h1 h2; omega
    | succ q ih =>
      intro i h1 h2
      show pX3_mostShared_l6b n (pX3_mostShared_l6 n q) M r _ _ (iI i) = _
      have sb := shK_bd ls L i hl
      have mb := msN_bd ls L hl i
      by_cases c : (L.length : Int) ≤ i
      · simp (disch := (first | assumption | (refine sm_of ?_ ?_ <;> omega) | fail)) only [iI_add, iI_sub, iI_mul, iI_neg, iI_lt, iI_le, iI_eq, b1_s, b2_s, ↓reduceIte, L0, L1, L2, L3, L4, L5, L6, L7, L8, L9, L10, L12, L20, L22, L24, L26, L27, L28, L32, L40, L60, L73, L95, L97, L222, L240, L441, L442, L622, Lm1, Lmh, pX3_mostShared_l6b, gi_at hr 2 rfl, c]
        rw [show i = L.length by omega]
      · have sh := rk_sh (show 60 ≤ n by omega) h (i := i) (by omega)
        simp (disch := (first | assumption | (refine sm_of ?_ ?_ <;> omega) | fail)) only [iI_add, iI_sub, iI_mul, iI_neg, iI_lt, iI_le, iI_eq, b1_s, b2_s, ↓reduceIte, L0, L1, L2, L3, L4, L5, L6, L7, L8, L9, L10, L12, L20, L22, L24, L26, L27, L28, L32, L40, L60, L73, L95, L97, L222, L240, L441, L442, L622, Lm1, Lmh, pX3_mostShared_l6b, gi_at hr 2 rfl, c, sh]
        have := ih (i + 1) (by omega) (by omega)
        rw [show ((i : Int) + 1) = ((i + 1 : Nat) : Int) by omega]
        simp only [msN] at this
        by_cases d : (msN ls L i).2 < shK ls L i
        · rw [if_neg (by omega)]
          rw [if_pos d] at this
          exact this
        · rw [if_pos (by omega)]
          rw [if_neg d] at this
          exact this
  simp only [pX3_mostShared, v_at hr]
  exact loop n 0 (by omega) (by omega)
def opK (ls : List kL) (L : List kH) (i n : Int) : Bool := decide (n ≤ sgK ls L i) && decide (shK ls L (i - 1) < n)
theorem rk_op {n : Nat} (hn : 60 ≤ n) {M : mm_M} {r a : Nat} {ls : List kL} {L : List kH} {b : Bool} (h : RkS M r a ls L b) {i m : Int} (hi : 0 ≤ i ∧ i < L.length) (hm : 1 ≤ m ∧ m ≤ 6) : pX3_opensWord n M r (iI i) (iI m) = some (bI (opK ls L i m), M) := by
  have hl := h.len
  have hR : Rk M r a L b := by obtain ⟨F, D, cc, giv, _, _, _, q, _⟩ := h; exact q
  have h0 := hR.1
  have hr := hR.2.1
  have sb := shK_bd ls L (i - 1) hl
  have sf := rk_sf (n := n) h hi
  have sh := rk_sh hn h (i := i - 1) (by omega)
  have gb : 0 ≤ sgK ls L i ∧ sgK ls L i ≤ 20 := by
    unfold sgK sfx lnN
    rw [List.length_drop]
    have : ((ls.getD (gH L i).1 (0, []))).2.length ≤ 20 := by
      rw [List.getD_eq_getElem?_getD]
      cases e : ls[(gH L i).1]? with
      | none => simp
      | some l => simpa using hl l (List.mem_of_getElem? e)
    omega
  unfold opK
  simp (disch := (first | assumption | (refine sm_of ?_ ?_ <;> omega) | fail)) only [iI_add, iI_sub, iI_mul, iI_neg, iI_lt, iI_le, iI_eq, b1_s, b2_s, ↓reduceIte, L0, L1, L2, L3, L4, L5, L6, L7, L8, L9, L10, L12, L20, L22, L24, L26, L27, L28, L32, L40, L60, L73, L95, L97, L222, L240, L441, L442, L622, Lm1, Lmh, pX3_opensWord, v_at hr, sf, sh]
  by_cases c : sgK ls L i < m
  · rw [if_pos c, decide_eq_false (by omega)]; rfl
  · rw [if_neg c, decide_eq_true (show m ≤ sgK ls L i by omega)]
    by_cases d : m ≤ shK ls L (i - 1)
    · rw [if_pos d, decide_eq_false (by omega)]; rfl
    · rw [if_neg d, decide_eq_true (by omega)]; rfl
def whN (ls : List kL) (L : List kH) (i m : Int) : Nat → Nat → Nat
  | 0, h => h
  | k + 1, h => if i + h < L.length ∧ m ≤ shK ls L (i + h - 1) then whN ls L i m k (h + 1) else h
theorem whN_bd (ls : List kL) (L : List kH) (i m : Int) (hi : 0 ≤ i) : ∀ (k h : Nat), (i + h ≤ L.length) → i + whN ls L i m k h ≤ L.length ∧ h ≤ whN ls L i m k h := by
  intro k
  induction k with
  | zero => intro h h1; simp [whN]; omega
  | succ k ih =>
    intro h h1
    simp only [whN]
    split
    · have := ih (h + 1) (by omega); omega
    · omega
theorem rk_wh {n : Nat} (hn : 300 ≤ n) {M : mm_M} {r a : Nat} {ls : List kL} {L : List kH} {b : Bool} (h : RkS M r a ls L b) {i m : Int} (hi : 0 ≤ i ∧ i < L.length) (hm : 1 ≤ m ∧ m ≤ 6) : pX3_wordHits n M r (iI i) (iI m) = some (iI (whN ls L i m 200 1), M) := by
  have hl := h.len
  have hR : Rk M r a L b := by obtain ⟨F, D, cc, giv, _, _, _, q, _⟩ := h; exact q
  have h0 := hR.1
  have hr := hR.2.1
  have loop : ∀ (q k z : Nat), 1 ≤ z → i + z ≤ L.length → L.length - i - z ≤ k → L.length - i - z < q → pX3_wordHits_l2 n q M r (iI i) (iI m) (iI z) = some (iI (whN ls L i m k z), M) := by
    intro q
    induction q with
    | zero => intro k z h1 h2 h3 h4; omega
    | succ q ih =>
      intro k z h1 h2 h3 h4
      show pX3_wordHits_l2b n (pX3_wordHits_l2 n q) M r _ _ (iI z) = _
      have sb := shK_bd ls L (i + z - 1) hl
      by_cases c : (L.length : Int) ≤ i + z
      · have e : whN ls L i m k z = z := by
          cases k with
          | zero => rfl
          | succ k => simp only [whN]; rw [if_neg (by omega)]
        rw [e]
        simp (disch := (first | assumption | (refine sm_of ?_ ?_ <;> omega) | fail)) only [iI_add, iI_sub, iI_mul, iI_neg, iI_lt, iI_le, iI_eq, b1_s, b2_s, ↓reduceIte, L0, L1, L2, L3, L4, L5, L6, L7, L8, L9, L10, L12, L20, L22, L24, L26, L27, L28, L32, L40, L60, L73, L95, L97, L222, L240, L441, L442, L622, Lm1, Lmh, pX3_wordHits_l2b, gi_at hr 2 rfl, c]
      · cases k with
        | zero => omega
        | succ k =>
          have sh := rk_sh (show 60 ≤ n by omega) h (i := i + z - 1) (by omega)
          simp only [whN]
          simp (disch := (first | assumption | (refine sm_of ?_ ?_ <;> omega) | fail)) only [iI_add, iI_sub, iI_mul, iI_neg, iI_lt, iI_le, iI_eq, b1_s, b2_s, ↓reduceIte, L0, L1, L2, L3, L4, L5, L6, L7, L8, L9, L10, L12, L20, L22, L24, L26, L27, L28, L32, L40, L60, L73, L95, L97, L222, L240, L441, L442, L622, Lm1, Lmh, pX3_wordHits_l2b, gi_at hr 2 rfl, c, sh]
          by_cases d : shK ls L (i + z - 1) < m
          · rw [if_pos d, if_neg (by omega)]
          · rw [if_neg d, if_pos (by omega), show ((z : Int) + 1) = ((z + 1 : Nat) : Int) by omega]
            exact ih k (z + 1) (by omega) (by omega) (by omega) (by omega)
  simp only [pX3_wordHits, v_at hr]
  exact loop n 200 1 (by omega) (by omega) (by omega) (by omega)
def mfN (ls : List kL) (L : List kH) (m : Int) : Nat → Int × Int
  | 0 => (-1, 0)
  | k + 1 => if (mfN ls L m k).2 < (if opK ls L k m = true then (whN ls L k m 200 1 : Int) else 0) then ((k : Int), if opK ls L k m = true then (whN ls L k m 200 1 : Int) else 0) else mfN ls L m k
theorem rk_mf {n : Nat} (hn : 300 ≤ n) {M : mm_M} {r a : Nat} {ls : List kL} {L : List kH} {b : Bool} (h : RkS M r a ls L b) {m : Int} (hm : 1 ≤ m ∧ m ≤ 6) : pX3_mostFrequent n M r (iI m) = some (iI (mfN ls L m L.length).1, M) ∧ -1 ≤ (mfN ls L m L.length).1 ∧ (mfN ls L m L.length).1 < L.length + 1 := by
  have hl := h.len
  have hR : Rk M r a L b := by obtain ⟨F, D, cc, giv, _, _, _, q, _⟩ := h; exact q
  have h0 := hR.1
  have hr := hR.2.1
  have bd1 : ∀ i : Nat, i ≤ L.length → -1 ≤ (mfN ls L m i).1 ∧ (mfN ls L m i).1 < i + 1 ∧ 0 ≤ (mfN ls L m i).2 ∧ (mfN ls L m i).2 ≤ 200 := by
    intro i
    induction i with
    | zero => intro _; simp [mfN]
    | succ i ih =>
      intro hi
      have := ih (by omega)
      have wb := whN_bd ls L i m (by omega) 200 1 (by omega)
      simp only [mfN]
      by_cases c : opK ls L i m = true
      · simp only [if_pos c]; split <;> simp <;> omega
      · simp only [if_neg c]; split <;> simp <;> omega
  have loop : ∀ (q i : Nat), i ≤ L.length → L.length < i + q → pX3_mostFrequent_l7 n q M r (iI m) (iI (mfN ls L m i).1) (iI (mfN ls L m i).2) (iI i) = some (iI (mfN ls L m L.length).1, M) := by
    intro q
    induction q with
    | zero => intro i h1 h2; omega
    | succ q ih =>
      intro i h1 h2
      show pX3_mostFrequent_l7b n (pX3_mostFrequent_l7 n q) M r _ _ _ (iI i) = _
      have mb := bd1 i h1
      by_cases c : (L.length : Int) ≤ i
      · simp (disch := (first | assumption | (refine sm_of ?_ ?_ <;> omega) | fail)) only [iI_add, iI_sub, iI_mul, iI_neg, iI_lt, iI_le, iI_eq, b1_s, b2_s, ↓reduceIte, L0, L1, L2, L3, L4, L5, L6, L7, L8, L9, L10, L12, L20, L22, L24, L26, L27, L28, L32, L40, L60, L73, L95, L97, L222, L240, L441, L442, L622, Lm1, Lmh, pX3_mostFrequent_l7b, gi_at hr 2 rfl, c]
        rw [show i = L.length by omega]
      · have op := rk_op (show 60 ≤ n by omega) h (i := i) (m := m) (by omega) hm
        have wh := rk_wh hn h (i := i) (m := m) (by omega) hm
        have wb := whN_bd ls L i m (by omega) 200 1 (by omega)
        have := ih (i + 1) (by omega) (by omega)
        simp only [mfN] at this
        simp (disch := (first | assumption | (refine sm_of ?_ ?_ <;> omega) | fail)) only [iI_add, iI_sub, iI_mul, iI_neg, iI_lt, iI_le, iI_eq, b1_s, b2_s, ↓reduceIte, L0, L1, L2, L3, L4, L5, L6, L7, L8, L9, L10, L12, L20, L22, L24, L26, L27, L28, L32, L40, L60, L73, L95, L97, L222, L240, L441, L442, L622, Lm1, Lmh, pX3_mostFrequent_l7b, gi_at hr 2 rfl, c, op, bI_0, wh, pX3_mostFrequent_b37]
        rw [show ((i : Int) + 1) = ((i + 1 : Nat) : Int) by omega]
        cases e : opK ls L i m
        · rw [e] at this
          rw [if_pos rfl, if_pos (by omega)]
          rw [if_neg (by simp; omega)] at this
          exact this
        · rw [e] at this
          simp only [if_true] at this
          rw [if_neg (by decide)]
          by_cases d : (mfN ls L m i).2 < (whN ls L i m 200 1 : Int)
          · rw [if_neg (by omega)]
            rw [if_pos d] at this
            exact this
          · rw [if_pos (by omega)]
            rw [if_neg d] at this
            exact this
  have b1 := bd1 L.length (by omega)
  refine ⟨?_, b1.1, by omega⟩
  simp only [pX3_mostFrequent, v_at hr]
  exact loop n 0 (by omega) (by omega)
/-- where a place stands in a ranking (-1: nowhere), from k on -/
def fdN (L : List kH) (x y : Int) : Nat → Nat → Int
  | 0, _ => -1
  | q + 1, k => if k < L.length then (if ((L.getD k (0, 0)).1 : Int) = x ∧ ((L.getD k (0, 0)).2 : Int) = y then (k : Int) else fdN L x y q (k + 1)) else -1
theorem rk_find {n : Nat} (hn : 300 ≤ n) {M : mm_M} {r a : Nat} {ls : List kL} {L : List kH} {b : Bool} (h : RkS M r a ls L b) {x y : Int} (hx : sm x) (hy : sm y) : pX3_find n M r (iI x) (iI y) = some (iI (fdN L x y 201 0), M) := by
  obtain ⟨F, D, cc, giv, hO, hL, hls, hR, hok⟩ := h
  have hc := hO.1
  have hll : ls.length = cc := by rw [hls]; exact lns_len F D cc
  have ge : ∀ z, z < cc → lnN ls z = D (F z) := fun z hz => by rw [hls]; exact lns_get hz
  have hs : smH L := by
    intro x hx
    have q := hok x hx
    rw [hll] at q
    rw [ge x.1 q.1] at q
    have := hL.len (i := x.1) (by omega)
    omega
  have h0 := hR.1
  have hr := hR.2.1
  have loop : ∀ (q k i : Nat), i ≤ L.length → L.length - i < k → L.length - i < q → pX3_find_l2 n q M r (iI x) (iI y) (iI i) = some (iI (fdN L x y k i), M) := by
    intro q
    induction q with
    | zero => intro k i h1 h2 h3; omega
    | succ q ih =>
      intro k i h1 h2 h3
      show pX3_find_l2b n (pX3_find_l2 n q) M r _ _ (iI i) = _
      cases k with
      | zero => omega
      | succ k =>
        simp only [fdN]
        by_cases c : (L.length : Int) ≤ i
        · rw [if_neg (by omega)]
          simp (disch := (first | assumption | (refine sm_of ?_ ?_ <;> omega) | fail)) only [iI_add, iI_sub, iI_mul, iI_neg, iI_lt, iI_le, iI_eq, b1_s, b2_s, ↓reduceIte, L0, L1, L2, L3, L4, L5, L6, L7, L8, L9, L10, L12, L20, L22, L24, L26, L27, L28, L32, L40, L60, L73, L95, L97, L222, L240, L441, L442, L622, Lm1, Lmh, pX3_find_l2b, gi_at hr 2 rfl, c]
        · rw [if_pos (by omega)]
          have rl := rk_line (n := n) hR hs (j := i) (by omega)
          have rp := rk_place (n := n) hR hs (j := i) (by omega)
          have q1 := hs.get (j := i) (by omega)
          simp (disch := (first | assumption | (refine sm_of ?_ ?_ <;> omega) | fail)) only [iI_add, iI_sub, iI_mul, iI_neg, iI_lt, iI_le, iI_eq, b1_s, b2_s, ↓reduceIte, L0, L1, L2, L3, L4, L5, L6, L7, L8, L9, L10, L12, L20, L22, L24, L26, L27, L28, L32, L40, L60, L73, L95, L97, L222, L240, L441, L442, L622, Lm1, Lmh, pX3_find_l2b, gi_at hr 2 rfl, c, rl, rp]
          rw [show ((i : Int) + 1) = ((i + 1 : Nat) : Int) by omega, ih k (i + 1) (by omega) (by omega) (by omega)]
          by_cases d1 : ((L.getD i (0, 0)).1 : Int) = x
          · by_cases d2 : ((L.getD i (0, 0)).2 : Int) = y
            · rw [if_pos d1, if_pos d2, if_pos ⟨d1, d2⟩]
            · rw [if_pos d1, if_neg d2, if_neg (fun z => d2 z.2)]
          · rw [if_neg d1, if_neg (fun z => d1 z.1)]
  simp only [pX3_find, v_at hr]
  exact loop n 201 0 (by omega) (by omega) (by omega)
