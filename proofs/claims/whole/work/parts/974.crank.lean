/-! the class: fields, rankings -/
theorem CO.all {M : mm_M} {ax : Nat} {hi : Bool} {np cp ns : Nat} {d : Int64} (h : CO M ax hi np cp ns d) : (∀ (β : Type) (x : Option β), mm_v 9 M ax x = x) ∧ mm_gr 9 0 M ax = some (ax + 1) ∧ mm_gr 9 1 M ax = some (ax + 139) ∧ mm_gr 9 2 M ax = some (ax + 3) ∧ mm_gr 9 3 M ax = some (ax + 65) ∧ mm_gi 9 4 M ax = some (bI hi) ∧ mm_gr 9 5 M ax = some (ax + 127) ∧ mm_gi 9 6 M ax = some (iI np) ∧ mm_gi 9 7 M ax = some (iI cp) ∧ mm_gr 9 8 M ax = some (ax + 128) ∧ mm_gr 9 9 M ax = some (ax + 130) ∧ mm_gr 9 10 M ax = some (ax + 132) ∧ mm_gr 9 11 M ax = some (ax + 134) ∧ mm_gr 9 12 M ax = some (ax + 137) ∧ mm_gi 9 13 M ax = some (iI ns) ∧ mm_gr 9 14 M ax = some (ax + 138) ∧ mm_gr 9 15 M ax = some (ax + 201) ∧ mm_gr 9 16 M ax = some (ax + 203) ∧ mm_gl 9 17 M ax = some d :=
  ⟨fun β x => v_at h x, gr_at h 0 rfl, gr_at h 1 rfl, gr_at h 2 rfl, gr_at h 3 rfl, gi_at h 4 rfl, gr_at h 5 rfl, gi_at h 6 rfl, gi_at h 7 rfl, gr_at h 8 rfl, gr_at h 9 rfl, gr_at h 10 rfl, gr_at h 11 rfl, gr_at h 12 rfl, gi_at h 13 rfl, gr_at h 14 rfl, gr_at h 15 rfl, gr_at h 16 rfl, gl_at h 17 rfl⟩
theorem co_p6 {M : mm_M} {ax : Nat} {hi : Bool} {np cp ns : Nat} {d : Int64} (h : CO M ax hi np cp ns d) (v : Nat) : ∃ M1, mm_pi 9 6 M ax (iI v) = some M1 ∧ CO M1 ax hi v cp ns d ∧ fr M M1 ax 1 := pi_ex h 6 (iI v)
theorem co_p7 {M : mm_M} {ax : Nat} {hi : Bool} {np cp ns : Nat} {d : Int64} (h : CO M ax hi np cp ns d) (v : Nat) : ∃ M1, mm_pi 9 7 M ax (iI v) = some M1 ∧ CO M1 ax hi np v ns d ∧ fr M M1 ax 1 := pi_ex h 7 (iI v)
theorem co_p13 {M : mm_M} {ax : Nat} {hi : Bool} {np cp ns : Nat} {d : Int64} (h : CO M ax hi np cp ns d) (v : Nat) : ∃ M1, mm_pi 9 13 M ax (iI v) = some M1 ∧ CO M1 ax hi np cp v d ∧ fr M M1 ax 1 := pi_ex h 13 (iI v)
theorem co_p4 {M : mm_M} {ax : Nat} {hi : Bool} {np cp ns : Nat} {d : Int64} (h : CO M ax hi np cp ns d) (v : Bool) : ∃ M1, mm_pz 9 4 M ax (bI v) = some M1 ∧ CO M1 ax v np cp ns d ∧ fr M M1 ax 1 := pz_ex h 4 v
theorem co_p17 {M : mm_M} {ax : Nat} {hi : Bool} {np cp ns : Nat} {d : Int64} (h : CO M ax hi np cp ns d) (v : Int64) : ∃ M1, mm_pl 9 17 M ax v = some M1 ∧ CO M1 ax hi np cp ns v ∧ fr M M1 ax 1 := pl_ex h 17 v
theorem rk_z {M : mm_M} {r a : Nat} {L : List kH} {b : Bool} (h : Rk M r a L b) : ∃ M1, mm_pi 3 2 M r (iI 0) = some M1 ∧ Rk M1 r a [] b ∧ fr M M1 r 1 := by
  obtain ⟨h1, h2, f, h3, h4⟩ := h
  obtain ⟨M1, e1, s1, f1⟩ := pi_ex h2 2 (iI 0)
  exact ⟨M1, e1, ⟨by simp, s1, f, f1.at h3 (by omega), fun j hj => by simp at hj⟩, f1⟩
theorem rk_b {M : mm_M} {r a : Nat} {L : List kH} {b : Bool} (h : Rk M r a L b) (v : Bool) : ∃ M1, mm_pz 3 3 M r (bI v) = some M1 ∧ Rk M1 r a L v ∧ fr M M1 r 1 := by
  obtain ⟨h1, h2, f, h3, h4⟩ := h
  obtain ⟨M1, e1, s1, f1⟩ := pz_ex h2 3 v
  exact ⟨M1, e1, ⟨h1, s1, f, f1.at h3 (by omega), h4⟩, f1⟩
theorem rk_f {M : mm_M} {r a : Nat} {L : List kH} {b : Bool} (h : Rk M r a L b) : mm_gi 3 3 M r = some (bI b) := gi_at h.2.1 3 rfl
theorem rk_n {M : mm_M} {r a : Nat} {L : List kH} {b : Bool} (h : Rk M r a L b) : mm_gi 3 2 M r = some (iI L.length) := gi_at h.2.1 2 rfl
theorem sg_n {M : mm_M} {a : Nat} {xs : List Int} (h : Sg M a xs) : mm_gi 5 1 M a = some (iI xs.length) := gi_at h.2.2.1 1 rfl
theorem hL_ok {ls : List kL} (hd : numD ls) (wd : List Int) : okH ls (hL ls wd) := by
  unfold hL
  split
  · intro h hh; simp at hh
  · intro h hh
    have := (fb_mem hd).mp hh
    exact ⟨this.1, this.2.1⟩
theorem c_forget {n : Nat} {M : mm_M} {ax : Nat} {B : Int} {hi : Bool} {np cp ns : Nat} {d : Int64} {tp : List Int} {T : kT} {wd : List Int} {ps : List kT} {im : Option kT} {sc : List (List kS)} {rf : Nat → Int} {fw ff : Bool} (h : ClW M ax B hi np cp ns d tp T wd ps im sc rf fw ff) : ∃ M1, pX9_forgetRankings n M ax = some M1 ∧ ClW M1 ax B hi np cp ns d tp T wd ps im sc rf false false ∧ fr M M1 ax 2875 := by
  have h' := h
  obtain ⟨c0, c1, c2, c3, c4, c5, c6, c7, c8, c9, c10, c11, c12, c13, c14, c15⟩ := h'
  obtain ⟨L, r, g⟩ := c12
  obtain ⟨M1, e1, s1, f1⟩ := rk_b r false
  have h1 := h.s12 f1 (by omega) ⟨L, s1, fun z => by cases z⟩
  have o1 := h1.1.all
  obtain ⟨LB, r2, g2⟩ := c13.fr f1 (by omega)
  obtain ⟨M2, e2, s2, f2⟩ := rk_b r2 false
  have h2 := h1.s13 f2 (by omega) ⟨LB, s2, fun z => by cases z⟩
  rw [bI_f] at e1 e2
  refine ⟨M2, ?_, h2, (f1.mono (by omega) (by omega)).trans (f2.mono (by omega) (by omega))⟩
  simp (disch := (first | assumption | (refine sm_of ?_ ?_ <;> omega) | fail)) only [iI_add, iI_sub, iI_mul, iI_neg, iI_lt, iI_le, iI_eq, b1_s, b2_s, ↓reduceIte, L0, L1, L2, L3, L4, L5, L6, L7, L8, L9, L10, L12, L20, L22, L24, L26, L27, L28, L32, L40, L60, L73, L95, L97, L222, L240, L441, L442, L622, Lm1, Lmh, L11, L13, L14, L15, L16, L17, L18, L19, L21, L23, L25, L30, L31, L33, L36, L39, L41, L44, L48, L53, L54, L55, L57, L58, L59, L91, L93, L98, L99, L100, L105, L106, L112, L114, L115, L119, L122, L160, L180, L200, L255, L1440, L24880, L63, Lm2, pX9_forgetRankings, c0.all, e1, o1, e2]
theorem c_rh {n : Nat} (hn : 300 ≤ n) {M : mm_M} {ax : Nat} {B : Int} {hi : Bool} {np cp ns : Nat} {d : Int64} {tp : List Int} {T : kT} {wd : List Int} {ps : List kT} {im : Option kT} {sc : List (List kS)} {rf : Nat → Int} {fw ff : Bool} (h : ClW M ax B hi np cp ns d tp T wd ps im sc rf fw ff) (ho : okL T.1) (hd : numD T.1) : ∃ M1, pX9_rankedHits n M ax = some (ax + 201, M1) ∧ ClW M1 ax B hi np cp ns d tp T wd ps im sc rf true ff ∧ fr M M1 ax 2875 := by
  have h' := h
  obtain ⟨c0, c1, c2, c3, c4, c5, c6, c7, c8, c9, c10, c11, c12, c13, c14, c15⟩ := h'
  obtain ⟨L, r, g⟩ := c12
  have o := c0.all
  have r3 := rk_f r
  cases fw
  · obtain ⟨M1, e1, s1, f1⟩ := rk_z r
    have h1 := h.s12 f1 (by omega) ⟨[], s1, fun z => by cases z⟩
    have o1 := h1.1.all
    have g5 := sg_n (c5.fr f1 (by omega))
    have w6 := c5.1
    by_cases w : wd = []
    · obtain ⟨M2, e2, s2, f2⟩ := rk_b s1 true
      have h2 := h1.s12 f2 (by omega) ⟨[], s2, fun z => by unfold hL; rw [if_pos w]⟩
      rw [bI_t] at e2
      refine ⟨M2, ?_, h2, (f1.mono (by omega) (by omega)).trans (f2.mono (by omega) (by omega))⟩
      subst w
      simp (disch := (first | assumption | (refine sm_of ?_ ?_ <;> omega) | fail)) only [iI_add, iI_sub, iI_mul, iI_neg, iI_lt, iI_le, iI_eq, b1_s, b2_s, ↓reduceIte, L0, L1, L2, L3, L4, L5, L6, L7, L8, L9, L10, L12, L20, L22, L24, L26, L27, L28, L32, L40, L60, L73, L95, L97, L222, L240, L441, L442, L622, Lm1, Lmh, L11, L13, L14, L15, L16, L17, L18, L19, L21, L23, L25, L30, L31, L33, L36, L39, L41, L44, L48, L53, L54, L55, L57, L58, L59, L91, L93, L98, L99, L100, L105, L106, L112, L114, L115, L119, L122, L160, L180, L200, L255, L1440, L24880, L63, Lm2, pX9_rankedHits, o, r3, bI_0, e1, o1, g5, List.length_nil, Int.natCast_zero, Int.le_refl, e2, h2.1.all]
    · have w1 : 0 < wd.length := List.length_pos_iff.mpr w
      obtain ⟨F, D, cc, C, ⟨hO, hL', -, -, -⟩, e, -⟩ := c11.fr f1 (by omega)
      obtain ⟨M2, e2, s2, -, f2⟩ := rk_fill hn hO hL' s1 (c5.fr f1 (by omega)) (by omega) (by omega)
      have cl : cc = T.1.length := by rw [e, lns_len]
      rw [← e, cl, fl_fb ho hd] at s2
      have h2 := h1.s12 f2 (by omega) ⟨_, s2, fun z => by cases z⟩
      obtain ⟨M3, e3, s3, f3⟩ := rk_b s2 true
      have h3 := h2.s12 f3 (by omega) ⟨_, s3, fun z => by unfold hL; rw [if_neg w]⟩
      rw [bI_t] at e3
      refine ⟨M3, ?_, h3, ((f1.mono (by omega) (by omega)).trans (f2.mono (by omega) (by omega))).trans (f3.mono (by omega) (by omega))⟩
      simp (disch := (first | assumption | (refine sm_of ?_ ?_ <;> omega) | fail)) only [iI_add, iI_sub, iI_mul, iI_neg, iI_lt, iI_le, iI_eq, b1_s, b2_s, ↓reduceIte, L0, L1, L2, L3, L4, L5, L6, L7, L8, L9, L10, L12, L20, L22, L24, L26, L27, L28, L32, L40, L60, L73, L95, L97, L222, L240, L441, L442, L622, Lm1, Lmh, L11, L13, L14, L15, L16, L17, L18, L19, L21, L23, L25, L30, L31, L33, L36, L39, L41, L44, L48, L53, L54, L55, L57, L58, L59, L91, L93, L98, L99, L100, L105, L106, L112, L114, L115, L119, L122, L160, L180, L200, L255, L1440, L24880, L63, Lm2, pX9_rankedHits, o, r3, bI_0, e1, o1, g5, show ¬ (wd.length : Int) ≤ 0 by omega, e2, h2.1.all, e3, h3.1.all]
  · refine ⟨M, ?_, h, fr.rfl⟩
    simp (disch := (first | assumption | (refine sm_of ?_ ?_ <;> omega) | fail)) only [iI_add, iI_sub, iI_mul, iI_neg, iI_lt, iI_le, iI_eq, b1_s, b2_s, ↓reduceIte, L0, L1, L2, L3, L4, L5, L6, L7, L8, L9, L10, L12, L20, L22, L24, L26, L27, L28, L32, L40, L60, L73, L95, L97, L222, L240, L441, L442, L622, Lm1, Lmh, L11, L13, L14, L15, L16, L17, L18, L19, L21, L23, L25, L30, L31, L33, L36, L39, L41, L44, L48, L53, L54, L55, L57, L58, L59, L91, L93, L98, L99, L100, L105, L106, L112, L114, L115, L119, L122, L160, L180, L200, L255, L1440, L24880, L63, Lm2, pX9_rankedHits, o, r3, bI_0, Bool.true_eq_false]
theorem c_rp {n : Nat} (hn : 300 ≤ n) {M : mm_M} {ax : Nat} {B : Int} {hi : Bool} {np cp ns : Nat} {d : Int64} {tp : List Int} {T : kT} {wd : List Int} {ps : List kT} {im : Option kT} {sc : List (List kS)} {rf : Nat → Int} {fw ff : Bool} (h : ClW M ax B hi np cp ns d tp T wd ps im sc rf fw ff) (ho : okL T.1) (hd : numD T.1) : ∃ M1, pX9_rankedPlaces n M ax = some (ax + 203, M1) ∧ ClW M1 ax B hi np cp ns d tp T wd ps im sc rf fw true ∧ fr M M1 ax 2875 := by
  have h' := h
  obtain ⟨c0, c1, c2, c3, c4, c5, c6, c7, c8, c9, c10, c11, c12, c13, c14, c15⟩ := h'
  obtain ⟨L, r, g⟩ := c13
  have o := c0.all
  have r3 := rk_f r
  cases ff
  · obtain ⟨M1, e1, s1, f1⟩ := rk_z r
    have h1 := h.s13 f1 (by omega) ⟨[], s1, fun z => by cases z⟩
    have o1 := h1.1.all
    obtain ⟨F, D, cc, C, ⟨hO, hL', -, -, -⟩, e, -⟩ := c11.fr f1 (by omega)
    obtain ⟨M2, e2, s2, -, f2⟩ := rk_fill hn hO hL' s1 (c6.fr f1 (by omega)) (by omega) (by omega)
    have cl : cc = T.1.length := by rw [e, lns_len]
    rw [← e, cl, fl_fb ho hd] at s2
    have h2 := h1.s13 f2 (by omega) ⟨_, s2, fun z => by cases z⟩
    obtain ⟨M3, e3, s3, f3⟩ := rk_b s2 true
    have h3 := h2.s13 f3 (by omega) ⟨_, s3, fun z => rfl⟩
    rw [bI_t] at e3
    refine ⟨M3, ?_, h3, ((f1.mono (by omega) (by omega)).trans (f2.mono (by omega) (by omega))).trans (f3.mono (by omega) (by omega))⟩
    simp (disch := (first | assumption | (refine sm_of ?_ ?_ <;> omega) | fail)) only [iI_add, iI_sub, iI_mul, iI_neg, iI_lt, iI_le, iI_eq, b1_s, b2_s, ↓reduceIte, L0, L1, L2, L3, L4, L5, L6, L7, L8, L9, L10, L12, L20, L22, L24, L26, L27, L28, L32, L40, L60, L73, L95, L97, L222, L240, L441, L442, L622, Lm1, Lmh, L11, L13, L14, L15, L16, L17, L18, L19, L21, L23, L25, L30, L31, L33, L36, L39, L41, L44, L48, L53, L54, L55, L57, L58, L59, L91, L93, L98, L99, L100, L105, L106, L112, L114, L115, L119, L122, L160, L180, L200, L255, L1440, L24880, L63, Lm2, pX9_rankedPlaces, o, r3, bI_0, e1, o1, e2, h2.1.all, e3, h3.1.all]
  · refine ⟨M, ?_, h, fr.rfl⟩
    simp (disch := (first | assumption | (refine sm_of ?_ ?_ <;> omega) | fail)) only [iI_add, iI_sub, iI_mul, iI_neg, iI_lt, iI_le, iI_eq, b1_s, b2_s, ↓reduceIte, L0, L1, L2, L3, L4, L5, L6, L7, L8, L9, L10, L12, L20, L22, L24, L26, L27, L28, L32, L40, L60, L73, L95, L97, L222, L240, L441, L442, L622, Lm1, Lmh, L11, L13, L14, L15, L16, L17, L18, L19, L21, L23, L25, L30, L31, L33, L36, L39, L41, L44, L48, L53, L54, L55, L57, L58, L59, L91, L93, L98, L99, L100, L105, L106, L112, L114, L115, L119, L122, L160, L180, L200, L255, L1440, L24880, L63, Lm2, pX9_rankedPlaces, o, r3, bI_0, Bool.true_eq_false]
theorem c_rsw {M : mm_M} {ax : Nat} {B : Int} {hi : Bool} {np cp ns : Nat} {d : Int64} {tp : List Int} {T : kT} {wd : List Int} {ps : List kT} {im : Option kT} {sc : List (List kS)} {rf : Nat → Int} {fw ff : Bool} (h : ClW M ax B hi np cp ns d tp T wd ps im sc rf true ff) (hd : numD T.1) : RkS M (ax + 201) (ax + 139) T.1 (hL T.1 wd) true := by
  obtain ⟨c0, c1, c2, c3, c4, c5, c6, c7, c8, c9, c10, c11, c12, c13, c14, c15⟩ := h
  obtain ⟨L, r, g⟩ := c12
  obtain ⟨F, D, cc, C, ⟨hO, hL', -, -, -⟩, e, -⟩ := c11
  rw [g rfl] at r
  exact ⟨F, D, cc, _, hO, hL', e, r, hL_ok hd wd⟩
theorem c_rsa {M : mm_M} {ax : Nat} {B : Int} {hi : Bool} {np cp ns : Nat} {d : Int64} {tp : List Int} {T : kT} {wd : List Int} {ps : List kT} {im : Option kT} {sc : List (List kS)} {rf : Nat → Int} {fw ff : Bool} (h : ClW M ax B hi np cp ns d tp T wd ps im sc rf fw true) (hd : numD T.1) : RkS M (ax + 203) (ax + 139) T.1 (aL T.1) true := by
  obtain ⟨c0, c1, c2, c3, c4, c5, c6, c7, c8, c9, c10, c11, c12, c13, c14, c15⟩ := h
  obtain ⟨L, r, g⟩ := c13
  obtain ⟨F, D, cc, C, ⟨hO, hL', -, -, -⟩, e, -⟩ := c11
  rw [g rfl] at r
  exact ⟨F, D, cc, _, hO, hL', e, r, aL_ok hd⟩
