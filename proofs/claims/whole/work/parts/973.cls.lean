/-! the class: the whole object -/
def CO (M : mm_M) (ax : Nat) (hi : Bool) (np cp ns : Nat) (d : Int64) : Prop := M.2 ax = some (mm_ob 9 [.ref (ax + 1), .ref (ax + 139), .ref (ax + 3), .ref (ax + 65), .int (bI hi), .ref (ax + 127), .int (iI np), .int (iI cp), .ref (ax + 128), .ref (ax + 130), .ref (ax + 132), .ref (ax + 134), .ref (ax + 137), .int (iI ns), .ref (ax + 138), .ref (ax + 201), .ref (ax + 203), .long d])
def TrV (M : mm_M) (ax : Nat) (B : Int) : Prop := ∃ T, St M (ax + 3) B T
def ImV (M : mm_M) (ax : Nat) (B : Int) (im : Option kT) : Prop := ∃ I, St M (ax + 65) B I ∧ ∀ J, im = some J → I = J
def PrV (M : mm_M) (ax : Nat) : Prop := ∃ f, M.2 (ax + 127) = some (mm_ar 2 40 f) ∧ ∀ i, i < 40 → f i = some (ax + 205 + 62 * i)
def RdV (M : mm_M) (ax : Nat) : Prop := ∃ xs, Sg M (ax + 132) xs
def AkV (M : mm_M) (ax : Nat) : Prop := ∃ s x y xs, Sp M (ax + 134) s x y xs
def SrV (M : mm_M) (ax : Nat) : Prop := ∃ f, M.2 (ax + 137) = some (mm_ar 4 5 f) ∧ ∀ i, i < 5 → f i = some (ax + 2685 + 38 * i)
def RfV (M : mm_M) (ax : Nat) (rf : Nat → Int) : Prop := ∃ f, M.2 (ax + 138) = some (mm_ai 4 f) ∧ ∀ i, i < 4 → f i = iI (rf i)
def WrV (M : mm_M) (ax : Nat) (T : kT) (wd : List Int) (b : Bool) : Prop := ∃ L, Rk M (ax + 201) (ax + 139) L b ∧ (b = true → L = hL T.1 wd)
def ArV (M : mm_M) (ax : Nat) (T : kT) (b : Bool) : Prop := ∃ L, Rk M (ax + 203) (ax + 139) L b ∧ (b = true → L = aL T.1)
def PsV (M : mm_M) (ax : Nat) (B : Int) (np : Nat) (ps : List kT) : Prop := np < 40 ∧ ps.length ≤ 40 ∧ (∀ j, j < 40 → ∃ P, St M (ax + 205 + 62 * j) B P) ∧ ∀ i, i < ps.length → St M (ax + 205 + 62 * ((np + 39 - i) % 40)) B (ps.getD i kT0)
def ScV (M : mm_M) (ax : Nat) (sc : List (List kS)) : Prop := sc.length ≤ 4 ∧ (∀ i, i < 5 → ScA M (ax + 2685 + 38 * i)) ∧ ∀ i, i < sc.length → Sc M (ax + 2685 + 38 * i) (sc.getD i [])
theorem CO.fr {M M' : mm_M} {ax b k : Nat} {hi : Bool} {np cp ns : Nat} {d : Int64} (h : CO M ax hi np cp ns d) (f : fr M M' b k) (hd : ax < b ∨ b + k ≤ ax) : CO M' ax hi np cp ns d := f.at h (by omega)
theorem TrV.fr {M M' : mm_M} {ax b k : Nat} {B : Int} (h : TrV M ax B) (f : fr M M' b k) (hd : ax + 65 ≤ b ∨ b + k ≤ ax + 3) : TrV M' ax B := by
  obtain ⟨T, h⟩ := h; exact ⟨T, h.fr f (by omega)⟩
theorem ImV.fr {M M' : mm_M} {ax b k : Nat} {B : Int} {im : Option kT} (h : ImV M ax B im) (f : fr M M' b k) (hd : ax + 127 ≤ b ∨ b + k ≤ ax + 65) : ImV M' ax B im := by
  obtain ⟨I, h, g⟩ := h; exact ⟨I, h.fr f (by omega), g⟩
theorem PrV.fr {M M' : mm_M} {ax b k : Nat} (h : PrV M ax) (f : fr M M' b k) (hd : ax + 128 ≤ b ∨ b + k ≤ ax + 127) : PrV M' ax := by
  obtain ⟨u, h, g⟩ := h; exact ⟨u, f.at h (by omega), g⟩
theorem RdV.fr {M M' : mm_M} {ax b k : Nat} (h : RdV M ax) (f : fr M M' b k) (hd : ax + 134 ≤ b ∨ b + k ≤ ax + 132) : RdV M' ax := by
  obtain ⟨u, h⟩ := h; exact ⟨u, h.fr f (by omega)⟩
theorem AkV.fr {M M' : mm_M} {ax b k : Nat} (h : AkV M ax) (f : fr M M' b k) (hd : ax + 137 ≤ b ∨ b + k ≤ ax + 134) : AkV M' ax := by
  obtain ⟨s, x, y, u, h⟩ := h; exact ⟨s, x, y, u, h.fr f (by omega)⟩
theorem SrV.fr {M M' : mm_M} {ax b k : Nat} (h : SrV M ax) (f : fr M M' b k) (hd : ax + 138 ≤ b ∨ b + k ≤ ax + 137) : SrV M' ax := by
  obtain ⟨u, h, g⟩ := h; exact ⟨u, f.at h (by omega), g⟩
theorem RfV.fr {M M' : mm_M} {ax b k : Nat} {rf : Nat → Int} (h : RfV M ax rf) (f : fr M M' b k) (hd : ax + 139 ≤ b ∨ b + k ≤ ax + 138) : RfV M' ax rf := by
  obtain ⟨u, h, g⟩ := h; exact ⟨u, f.at h (by omega), g⟩
theorem WrV.fr {M M' : mm_M} {ax b k : Nat} {T : kT} {wd : List Int} {v : Bool} (h : WrV M ax T wd v) (f : fr M M' b k) (hd : ax + 203 ≤ b ∨ b + k ≤ ax + 201) : WrV M' ax T wd v := by
  obtain ⟨u, h, g⟩ := h; exact ⟨u, h.fr f (by omega), g⟩
theorem ArV.fr {M M' : mm_M} {ax b k : Nat} {T : kT} {v : Bool} (h : ArV M ax T v) (f : fr M M' b k) (hd : ax + 205 ≤ b ∨ b + k ≤ ax + 203) : ArV M' ax T v := by
  obtain ⟨u, h, g⟩ := h; exact ⟨u, h.fr f (by omega), g⟩
theorem WrV.of {M : mm_M} {ax : Nat} {T T' : kT} {wd wd' : List Int} (h : WrV M ax T wd false) : WrV M ax T' wd' false := by
  obtain ⟨u, h, g⟩ := h; exact ⟨u, h, fun z => by cases z⟩
theorem ArV.of {M : mm_M} {ax : Nat} {T T' : kT} (h : ArV M ax T false) : ArV M ax T' false := by
  obtain ⟨u, h, g⟩ := h; exact ⟨u, h, fun z => by cases z⟩
theorem PsV.fr {M M' : mm_M} {ax b k np : Nat} {B : Int} {ps : List kT} (h : PsV M ax B np ps) (f : fr M M' b k) (hd : ax + 2685 ≤ b ∨ b + k ≤ ax + 205) : PsV M' ax B np ps := by
  obtain ⟨h1, h2, h3, h4⟩ := h
  refine ⟨h1, h2, fun j hj => ?_, fun i hi => (h4 i hi).fr f (by have := Nat.mod_lt (np + 39 - i) (show 0 < 40 by omega); omega)⟩
  obtain ⟨P, h⟩ := h3 j hj
  exact ⟨P, h.fr f (by omega)⟩
theorem ScV.fr {M M' : mm_M} {ax b k : Nat} {sc : List (List kS)} (h : ScV M ax sc) (f : fr M M' b k) (hd : ax + 2875 ≤ b ∨ b + k ≤ ax + 2685) : ScV M' ax sc :=
  ⟨h.1, fun i hi => (h.2.1 i hi).fr f (by omega), fun i hi => (h.2.2 i hi).fr f (by have := h.1; omega)⟩
theorem fr.symm {M M' : mm_M} {b k : Nat} (f : fr M M' b k) : fr M' M b k := ⟨f.1.symm, fun q h => (f.2 q h).symm⟩
theorem fr2.split {M M' : mm_M} {a j b k : Nat} (f : fr2 M M' a j b k) : ∃ M1, fr M M1 a j ∧ fr M1 M' b k := by
  refine ⟨(M.1, fun q => if a ≤ q ∧ q < a + j then M'.2 q else M.2 q), ⟨rfl, fun q h => ?_⟩, f.1, fun q h => ?_⟩
  · show (if a ≤ q ∧ q < a + j then M'.2 q else M.2 q) = M.2 q
    rw [if_neg (by omega)]
  · show M'.2 q = (if a ≤ q ∧ q < a + j then M'.2 q else M.2 q)
    by_cases c : a ≤ q ∧ q < a + j
    · rw [if_pos c]
    · rw [if_neg c]; exact f.2 q (by omega) h
theorem TrV.mono {M : mm_M} {ax : Nat} {B B' : Int} (h : TrV M ax B) (h1 : B ≤ B') (h2 : B' ≤ 5000000) : TrV M ax B' := by
  obtain ⟨T, h⟩ := h; exact ⟨T, h.mono h1 h2⟩
theorem ImV.mono {M : mm_M} {ax : Nat} {B B' : Int} {im : Option kT} (h : ImV M ax B im) (h1 : B ≤ B') (h2 : B' ≤ 5000000) : ImV M ax B' im := by
  obtain ⟨T, h, g⟩ := h; exact ⟨T, h.mono h1 h2, g⟩
theorem PsV.mono {M : mm_M} {ax np : Nat} {B B' : Int} {ps : List kT} (h : PsV M ax B np ps) (g1 : B ≤ B') (g2 : B' ≤ 5000000) : PsV M ax B' np ps := by
  obtain ⟨h1, h2, h3, h4⟩ := h
  refine ⟨h1, h2, fun j hj => ?_, fun i hi => (h4 i hi).mono g1 g2⟩
  obtain ⟨P, h⟩ := h3 j hj
  exact ⟨P, h.mono g1 g2⟩
def ClW (M : mm_M) (ax : Nat) (B : Int) (hi : Bool) (np : Nat) (cp : Nat) (ns : Nat) (d : Int64) (tp : List Int) (T : kT) (wd : List Int) (ps : List kT) (im : Option kT) (sc : List (List kS)) (rf : Nat → Int) (fw : Bool) (ff : Bool) : Prop := CO M ax hi np cp ns d ∧ TpR M (ax + 1) tp ∧ TrV M ax B ∧ ImV M ax B im ∧ PrV M ax ∧ Sg M (ax + 128) wd ∧ Sg M (ax + 130) [] ∧ RdV M ax ∧ AkV M ax ∧ SrV M ax ∧ RfV M ax rf ∧ St M (ax + 139) B T ∧ WrV M ax T wd fw ∧ ArV M ax T ff ∧ PsV M ax B np ps ∧ ScV M ax sc
theorem ClW.s0 {M M1 : mm_M} {ax b k : Nat} {B : Int} {hi : Bool} {np : Nat} {cp : Nat} {ns : Nat} {d : Int64} {tp : List Int} {T : kT} {wd : List Int} {ps : List kT} {im : Option kT} {sc : List (List kS)} {rf : Nat → Int} {fw : Bool} {ff : Bool} {hi' : Bool} {np' : Nat} {cp' : Nat} {ns' : Nat} {d' : Int64} {ps' : List kT} (h : ClW M ax B hi np cp ns d tp T wd ps im sc rf fw ff) (f : fr M M1 b k) (hb : ax + 0 ≤ b ∧ b + k ≤ ax + 1) (p : CO M1 ax hi' np' cp' ns' d') (q : PsV M ax B np ps → PsV M ax B np' ps') : ClW M1 ax B hi' np' cp' ns' d' tp T wd ps' im sc rf fw ff := by
  obtain ⟨c0, c1, c2, c3, c4, c5, c6, c7, c8, c9, c10, c11, c12, c13, c14, c15⟩ := h
  exact ⟨p, c1.fr f (by omega), c2.fr f (by omega), c3.fr f (by omega), c4.fr f (by omega), c5.fr f (by omega), c6.fr f (by omega), c7.fr f (by omega), c8.fr f (by omega), c9.fr f (by omega), c10.fr f (by omega), c11.fr f (by omega), c12.fr f (by omega), c13.fr f (by omega), (q c14).fr f (by omega), c15.fr f (by omega)⟩
theorem ClW.s1 {M M1 : mm_M} {ax b k : Nat} {B : Int} {hi : Bool} {np : Nat} {cp : Nat} {ns : Nat} {d : Int64} {tp : List Int} {T : kT} {wd : List Int} {ps : List kT} {im : Option kT} {sc : List (List kS)} {rf : Nat → Int} {fw : Bool} {ff : Bool} {tp' : List Int} (h : ClW M ax B hi np cp ns d tp T wd ps im sc rf fw ff) (f : fr M M1 b k) (hb : ax + 1 ≤ b ∧ b + k ≤ ax + 3) (p : TpR M1 (ax + 1) tp') : ClW M1 ax B hi np cp ns d tp' T wd ps im sc rf fw ff := by
  obtain ⟨c0, c1, c2, c3, c4, c5, c6, c7, c8, c9, c10, c11, c12, c13, c14, c15⟩ := h
  exact ⟨c0.fr f (by omega), p, c2.fr f (by omega), c3.fr f (by omega), c4.fr f (by omega), c5.fr f (by omega), c6.fr f (by omega), c7.fr f (by omega), c8.fr f (by omega), c9.fr f (by omega), c10.fr f (by omega), c11.fr f (by omega), c12.fr f (by omega), c13.fr f (by omega), c14.fr f (by omega), c15.fr f (by omega)⟩
theorem ClW.s2 {M M1 : mm_M} {ax b k : Nat} {B : Int} {hi : Bool} {np : Nat} {cp : Nat} {ns : Nat} {d : Int64} {tp : List Int} {T : kT} {wd : List Int} {ps : List kT} {im : Option kT} {sc : List (List kS)} {rf : Nat → Int} {fw : Bool} {ff : Bool}  (h : ClW M ax B hi np cp ns d tp T wd ps im sc rf fw ff) (f : fr M M1 b k) (hb : ax + 3 ≤ b ∧ b + k ≤ ax + 65) (p : TrV M1 ax B) : ClW M1 ax B hi np cp ns d tp T wd ps im sc rf fw ff := by
  obtain ⟨c0, c1, c2, c3, c4, c5, c6, c7, c8, c9, c10, c11, c12, c13, c14, c15⟩ := h
  exact ⟨c0.fr f (by omega), c1.fr f (by omega), p, c3.fr f (by omega), c4.fr f (by omega), c5.fr f (by omega), c6.fr f (by omega), c7.fr f (by omega), c8.fr f (by omega), c9.fr f (by omega), c10.fr f (by omega), c11.fr f (by omega), c12.fr f (by omega), c13.fr f (by omega), c14.fr f (by omega), c15.fr f (by omega)⟩
theorem ClW.s3 {M M1 : mm_M} {ax b k : Nat} {B : Int} {hi : Bool} {np : Nat} {cp : Nat} {ns : Nat} {d : Int64} {tp : List Int} {T : kT} {wd : List Int} {ps : List kT} {im : Option kT} {sc : List (List kS)} {rf : Nat → Int} {fw : Bool} {ff : Bool} {im' : Option kT} (h : ClW M ax B hi np cp ns d tp T wd ps im sc rf fw ff) (f : fr M M1 b k) (hb : ax + 65 ≤ b ∧ b + k ≤ ax + 127) (p : ImV M1 ax B im') : ClW M1 ax B hi np cp ns d tp T wd ps im' sc rf fw ff := by
  obtain ⟨c0, c1, c2, c3, c4, c5, c6, c7, c8, c9, c10, c11, c12, c13, c14, c15⟩ := h
  exact ⟨c0.fr f (by omega), c1.fr f (by omega), c2.fr f (by omega), p, c4.fr f (by omega), c5.fr f (by omega), c6.fr f (by omega), c7.fr f (by omega), c8.fr f (by omega), c9.fr f (by omega), c10.fr f (by omega), c11.fr f (by omega), c12.fr f (by omega), c13.fr f (by omega), c14.fr f (by omega), c15.fr f (by omega)⟩
theorem ClW.s5 {M M1 : mm_M} {ax b k : Nat} {B : Int} {hi : Bool} {np : Nat} {cp : Nat} {ns : Nat} {d : Int64} {tp : List Int} {T : kT} {wd : List Int} {ps : List kT} {im : Option kT} {sc : List (List kS)} {rf : Nat → Int} {fw : Bool} {ff : Bool} {wd' : List Int} (h : ClW M ax B hi np cp ns d tp T wd ps im sc rf fw ff) (f : fr M M1 b k) (hb : ax + 128 ≤ b ∧ b + k ≤ ax + 130) (p : Sg M1 (ax + 128) wd') (hw : fw = false) : ClW M1 ax B hi np cp ns d tp T wd' ps im sc rf fw ff := by
  obtain ⟨c0, c1, c2, c3, c4, c5, c6, c7, c8, c9, c10, c11, c12, c13, c14, c15⟩ := h
  exact ⟨c0.fr f (by omega), c1.fr f (by omega), c2.fr f (by omega), c3.fr f (by omega), c4.fr f (by omega), p, c6.fr f (by omega), c7.fr f (by omega), c8.fr f (by omega), c9.fr f (by omega), c10.fr f (by omega), c11.fr f (by omega), by subst hw; exact (c12.fr f (by omega)).of, c13.fr f (by omega), c14.fr f (by omega), c15.fr f (by omega)⟩
theorem ClW.s7 {M M1 : mm_M} {ax b k : Nat} {B : Int} {hi : Bool} {np : Nat} {cp : Nat} {ns : Nat} {d : Int64} {tp : List Int} {T : kT} {wd : List Int} {ps : List kT} {im : Option kT} {sc : List (List kS)} {rf : Nat → Int} {fw : Bool} {ff : Bool}  (h : ClW M ax B hi np cp ns d tp T wd ps im sc rf fw ff) (f : fr M M1 b k) (hb : ax + 132 ≤ b ∧ b + k ≤ ax + 134) (p : RdV M1 ax) : ClW M1 ax B hi np cp ns d tp T wd ps im sc rf fw ff := by
  obtain ⟨c0, c1, c2, c3, c4, c5, c6, c7, c8, c9, c10, c11, c12, c13, c14, c15⟩ := h
  exact ⟨c0.fr f (by omega), c1.fr f (by omega), c2.fr f (by omega), c3.fr f (by omega), c4.fr f (by omega), c5.fr f (by omega), c6.fr f (by omega), p, c8.fr f (by omega), c9.fr f (by omega), c10.fr f (by omega), c11.fr f (by omega), c12.fr f (by omega), c13.fr f (by omega), c14.fr f (by omega), c15.fr f (by omega)⟩
theorem ClW.s8 {M M1 : mm_M} {ax b k : Nat} {B : Int} {hi : Bool} {np : Nat} {cp : Nat} {ns : Nat} {d : Int64} {tp : List Int} {T : kT} {wd : List Int} {ps : List kT} {im : Option kT} {sc : List (List kS)} {rf : Nat → Int} {fw : Bool} {ff : Bool}  (h : ClW M ax B hi np cp ns d tp T wd ps im sc rf fw ff) (f : fr M M1 b k) (hb : ax + 134 ≤ b ∧ b + k ≤ ax + 137) (p : AkV M1 ax) : ClW M1 ax B hi np cp ns d tp T wd ps im sc rf fw ff := by
  obtain ⟨c0, c1, c2, c3, c4, c5, c6, c7, c8, c9, c10, c11, c12, c13, c14, c15⟩ := h
  exact ⟨c0.fr f (by omega), c1.fr f (by omega), c2.fr f (by omega), c3.fr f (by omega), c4.fr f (by omega), c5.fr f (by omega), c6.fr f (by omega), c7.fr f (by omega), p, c9.fr f (by omega), c10.fr f (by omega), c11.fr f (by omega), c12.fr f (by omega), c13.fr f (by omega), c14.fr f (by omega), c15.fr f (by omega)⟩
theorem ClW.s10 {M M1 : mm_M} {ax b k : Nat} {B : Int} {hi : Bool} {np : Nat} {cp : Nat} {ns : Nat} {d : Int64} {tp : List Int} {T : kT} {wd : List Int} {ps : List kT} {im : Option kT} {sc : List (List kS)} {rf : Nat → Int} {fw : Bool} {ff : Bool} {rf' : Nat → Int} (h : ClW M ax B hi np cp ns d tp T wd ps im sc rf fw ff) (f : fr M M1 b k) (hb : ax + 138 ≤ b ∧ b + k ≤ ax + 139) (p : RfV M1 ax rf') : ClW M1 ax B hi np cp ns d tp T wd ps im sc rf' fw ff := by
  obtain ⟨c0, c1, c2, c3, c4, c5, c6, c7, c8, c9, c10, c11, c12, c13, c14, c15⟩ := h
  exact ⟨c0.fr f (by omega), c1.fr f (by omega), c2.fr f (by omega), c3.fr f (by omega), c4.fr f (by omega), c5.fr f (by omega), c6.fr f (by omega), c7.fr f (by omega), c8.fr f (by omega), c9.fr f (by omega), p, c11.fr f (by omega), c12.fr f (by omega), c13.fr f (by omega), c14.fr f (by omega), c15.fr f (by omega)⟩
theorem ClW.s11 {M M1 : mm_M} {ax b k : Nat} {B : Int} {hi : Bool} {np : Nat} {cp : Nat} {ns : Nat} {d : Int64} {tp : List Int} {T : kT} {wd : List Int} {ps : List kT} {im : Option kT} {sc : List (List kS)} {rf : Nat → Int} {fw : Bool} {ff : Bool} {T' : kT} (h : ClW M ax B hi np cp ns d tp T wd ps im sc rf fw ff) (f : fr M M1 b k) (hb : ax + 139 ≤ b ∧ b + k ≤ ax + 201) (p : St M1 (ax + 139) B T') (hw : fw = false) (hf : ff = false) : ClW M1 ax B hi np cp ns d tp T' wd ps im sc rf fw ff := by
  obtain ⟨c0, c1, c2, c3, c4, c5, c6, c7, c8, c9, c10, c11, c12, c13, c14, c15⟩ := h
  exact ⟨c0.fr f (by omega), c1.fr f (by omega), c2.fr f (by omega), c3.fr f (by omega), c4.fr f (by omega), c5.fr f (by omega), c6.fr f (by omega), c7.fr f (by omega), c8.fr f (by omega), c9.fr f (by omega), c10.fr f (by omega), p, by subst hw; exact (c12.fr f (by omega)).of, by subst hf; exact (c13.fr f (by omega)).of, c14.fr f (by omega), c15.fr f (by omega)⟩
theorem ClW.s12 {M M1 : mm_M} {ax b k : Nat} {B : Int} {hi : Bool} {np : Nat} {cp : Nat} {ns : Nat} {d : Int64} {tp : List Int} {T : kT} {wd : List Int} {ps : List kT} {im : Option kT} {sc : List (List kS)} {rf : Nat → Int} {fw : Bool} {ff : Bool} {fw' : Bool} (h : ClW M ax B hi np cp ns d tp T wd ps im sc rf fw ff) (f : fr M M1 b k) (hb : ax + 201 ≤ b ∧ b + k ≤ ax + 203) (p : WrV M1 ax T wd fw') : ClW M1 ax B hi np cp ns d tp T wd ps im sc rf fw' ff := by
  obtain ⟨c0, c1, c2, c3, c4, c5, c6, c7, c8, c9, c10, c11, c12, c13, c14, c15⟩ := h
  exact ⟨c0.fr f (by omega), c1.fr f (by omega), c2.fr f (by omega), c3.fr f (by omega), c4.fr f (by omega), c5.fr f (by omega), c6.fr f (by omega), c7.fr f (by omega), c8.fr f (by omega), c9.fr f (by omega), c10.fr f (by omega), c11.fr f (by omega), p, c13.fr f (by omega), c14.fr f (by omega), c15.fr f (by omega)⟩
theorem ClW.s13 {M M1 : mm_M} {ax b k : Nat} {B : Int} {hi : Bool} {np : Nat} {cp : Nat} {ns : Nat} {d : Int64} {tp : List Int} {T : kT} {wd : List Int} {ps : List kT} {im : Option kT} {sc : List (List kS)} {rf : Nat → Int} {fw : Bool} {ff : Bool} {ff' : Bool} (h : ClW M ax B hi np cp ns d tp T wd ps im sc rf fw ff) (f : fr M M1 b k) (hb : ax + 203 ≤ b ∧ b + k ≤ ax + 205) (p : ArV M1 ax T ff') : ClW M1 ax B hi np cp ns d tp T wd ps im sc rf fw ff' := by
  obtain ⟨c0, c1, c2, c3, c4, c5, c6, c7, c8, c9, c10, c11, c12, c13, c14, c15⟩ := h
  exact ⟨c0.fr f (by omega), c1.fr f (by omega), c2.fr f (by omega), c3.fr f (by omega), c4.fr f (by omega), c5.fr f (by omega), c6.fr f (by omega), c7.fr f (by omega), c8.fr f (by omega), c9.fr f (by omega), c10.fr f (by omega), c11.fr f (by omega), c12.fr f (by omega), p, c14.fr f (by omega), c15.fr f (by omega)⟩
theorem ClW.s14 {M M1 : mm_M} {ax b k : Nat} {B : Int} {hi : Bool} {np : Nat} {cp : Nat} {ns : Nat} {d : Int64} {tp : List Int} {T : kT} {wd : List Int} {ps : List kT} {im : Option kT} {sc : List (List kS)} {rf : Nat → Int} {fw : Bool} {ff : Bool} {ps' : List kT} (h : ClW M ax B hi np cp ns d tp T wd ps im sc rf fw ff) (f : fr M M1 b k) (hb : ax + 205 ≤ b ∧ b + k ≤ ax + 2685) (p : PsV M1 ax B np ps') : ClW M1 ax B hi np cp ns d tp T wd ps' im sc rf fw ff := by
  obtain ⟨c0, c1, c2, c3, c4, c5, c6, c7, c8, c9, c10, c11, c12, c13, c14, c15⟩ := h
  exact ⟨c0.fr f (by omega), c1.fr f (by omega), c2.fr f (by omega), c3.fr f (by omega), c4.fr f (by omega), c5.fr f (by omega), c6.fr f (by omega), c7.fr f (by omega), c8.fr f (by omega), c9.fr f (by omega), c10.fr f (by omega), c11.fr f (by omega), c12.fr f (by omega), c13.fr f (by omega), p, c15.fr f (by omega)⟩
theorem ClW.s15 {M M1 : mm_M} {ax b k : Nat} {B : Int} {hi : Bool} {np : Nat} {cp : Nat} {ns : Nat} {d : Int64} {tp : List Int} {T : kT} {wd : List Int} {ps : List kT} {im : Option kT} {sc : List (List kS)} {rf : Nat → Int} {fw : Bool} {ff : Bool} {sc' : List (List kS)} (h : ClW M ax B hi np cp ns d tp T wd ps im sc rf fw ff) (f : fr M M1 b k) (hb : ax + 2685 ≤ b ∧ b + k ≤ ax + 2875) (p : ScV M1 ax sc') : ClW M1 ax B hi np cp ns d tp T wd ps im sc' rf fw ff := by
  obtain ⟨c0, c1, c2, c3, c4, c5, c6, c7, c8, c9, c10, c11, c12, c13, c14, c15⟩ := h
  exact ⟨c0.fr f (by omega), c1.fr f (by omega), c2.fr f (by omega), c3.fr f (by omega), c4.fr f (by omega), c5.fr f (by omega), c6.fr f (by omega), c7.fr f (by omega), c8.fr f (by omega), c9.fr f (by omega), c10.fr f (by omega), c11.fr f (by omega), c12.fr f (by omega), c13.fr f (by omega), c14.fr f (by omega), p⟩
theorem ClW.out {M M1 : mm_M} {ax b k : Nat} {B : Int} {hi : Bool} {np : Nat} {cp : Nat} {ns : Nat} {d : Int64} {tp : List Int} {T : kT} {wd : List Int} {ps : List kT} {im : Option kT} {sc : List (List kS)} {rf : Nat → Int} {fw : Bool} {ff : Bool} (h : ClW M ax B hi np cp ns d tp T wd ps im sc rf fw ff) (f : fr M M1 b k) (hb : ax + 2875 ≤ b ∨ b + k ≤ ax) : ClW M1 ax B hi np cp ns d tp T wd ps im sc rf fw ff := by
  obtain ⟨c0, c1, c2, c3, c4, c5, c6, c7, c8, c9, c10, c11, c12, c13, c14, c15⟩ := h
  exact ⟨c0.fr f (by omega), c1.fr f (by omega), c2.fr f (by omega), c3.fr f (by omega), c4.fr f (by omega), c5.fr f (by omega), c6.fr f (by omega), c7.fr f (by omega), c8.fr f (by omega), c9.fr f (by omega), c10.fr f (by omega), c11.fr f (by omega), c12.fr f (by omega), c13.fr f (by omega), c14.fr f (by omega), c15.fr f (by omega)⟩
theorem ClW.mono {M : mm_M} {ax : Nat} {B' : Int} {B : Int} {hi : Bool} {np : Nat} {cp : Nat} {ns : Nat} {d : Int64} {tp : List Int} {T : kT} {wd : List Int} {ps : List kT} {im : Option kT} {sc : List (List kS)} {rf : Nat → Int} {fw : Bool} {ff : Bool} (h : ClW M ax B hi np cp ns d tp T wd ps im sc rf fw ff) (h1 : B ≤ B') (h2 : B' ≤ 5000000) : ClW M ax B' hi np cp ns d tp T wd ps im sc rf fw ff := by
  obtain ⟨c0, c1, c2, c3, c4, c5, c6, c7, c8, c9, c10, c11, c12, c13, c14, c15⟩ := h
  exact ⟨c0, c1, c2.mono h1 h2, c3.mono h1 h2, c4, c5, c6, c7, c8, c9, c10, c11.mono h1 h2, c12, c13, c14.mono h1 h2, c15⟩
def Cls (M : mm_M) (ax : Nat) (B : Int) (tp : List Int) (T : kT) (wd : List Int) (ps : List kT) (im : Option kT) (sc : List (List kS)) (rf : Nat → Int) : Prop := ∃ np d fw ff, ClW M ax B im.isSome np ps.length sc.length d tp T wd ps im sc rf fw ff
