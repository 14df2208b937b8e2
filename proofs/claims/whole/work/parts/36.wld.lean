theorem nw_L_8 : mm_NW RL 8 9 18 [.null, .null, .null, .null, .int 0, .null, .int 0, .int 0, .null, .null, .null, .null, .null, .int 0, .null, .null, .null, .long 0] := ⟨RX9, TX9, tyX9, rfl, mm_in (List.mem_of_getElem? (i := 126) (by decide +kernel)) rfl, mm_in (List.mem_of_getElem? (i := 127) (by decide +kernel)) rfl, mm_in (List.mem_of_getElem? (i := 108) (by decide +kernel)) rfl, in_X9, tyX9_ok, fun j hj => by rcases (show j = 0 ∨ j = 1 ∨ j = 2 ∨ j = 3 ∨ j = 4 ∨ j = 5 ∨ j = 6 ∨ j = 7 ∨ j = 8 ∨ j = 9 ∨ j = 10 ∨ j = 11 ∨ j = 12 ∨ j = 13 ∨ j = 14 ∨ j = 15 ∨ j = 16 ∨ j = 17 by omega) with rfl | rfl | rfl | rfl | rfl | rfl | rfl | rfl | rfl | rfl | rfl | rfl | rfl | rfl | rfl | rfl | rfl | rfl <;> rfl⟩
theorem nw_L_16 : mm_NW RL 16 10 33 [.int 0, .null, .int 0, .int 0, .int 0, .null, .null, .int 0, .null, .null, .int 0, .null, .int 0, .null, .null, .null, .int 0, .null, .null, .int 0, .int 0, .null, .int 0, .long 0, .null, .int 0, .int 0, .int 0, .null, .int 0, .null, .null, .int 0] := ⟨RX10, TX10, tyX10, rfl, mm_in (List.mem_of_getElem? (i := 1033) (by decide +kernel)) rfl, mm_in (List.mem_of_getElem? (i := 1034) (by decide +kernel)) rfl, mm_in (List.mem_of_getElem? (i := 118) (by decide +kernel)) rfl, in_X10, tyX10_ok, fun j hj => by rcases (show j = 0 ∨ j = 1 ∨ j = 2 ∨ j = 3 ∨ j = 4 ∨ j = 5 ∨ j = 6 ∨ j = 7 ∨ j = 8 ∨ j = 9 ∨ j = 10 ∨ j = 11 ∨ j = 12 ∨ j = 13 ∨ j = 14 ∨ j = 15 ∨ j = 16 ∨ j = 17 ∨ j = 18 ∨ j = 19 ∨ j = 20 ∨ j = 21 ∨ j = 22 ∨ j = 23 ∨ j = 24 ∨ j = 25 ∨ j = 26 ∨ j = 27 ∨ j = 28 ∨ j = 29 ∨ j = 30 ∨ j = 31 ∨ j = 32 by omega) with rfl | rfl | rfl | rfl | rfl | rfl | rfl | rfl | rfl | rfl | rfl | rfl | rfl | rfl | rfl | rfl | rfl | rfl | rfl | rfl | rfl | rfl | rfl | rfl | rfl | rfl | rfl | rfl | rfl | rfl | rfl | rfl | rfl <;> rfl⟩
theorem ml_L_15 : Cond.methodLink RL 15 yX9_init ∈ mm_ws := mm_in (List.mem_of_getElem? (i := 128) (by decide +kernel)) rfl
theorem ml_L_18 : Cond.methodLink RL 18 yX10_init ∈ mm_ws := mm_in (List.mem_of_getElem? (i := 1035) (by decide +kernel)) rfl
/-- what is left to the pure part: two constructors, a relation, a step for each call -/
def lw_pure (lo : Nat) : Prop := ∃ (n : Nat) (M2 M4 : mm_M) (Sim : Nat → mm_M → Prop), pX9_init n (mm_new (lo, fun _ => none) (mm_ob 9 [.null, .null, .null, .null, .int 0, .null, .int 0, .int 0, .null, .null, .null, .null, .null, .int 0, .null, .null, .null, .long 0])) lo = some M2 ∧ pX10_init n (mm_new M2 (mm_ob 10 [.int 0, .null, .int 0, .int 0, .int 0, .null, .null, .int 0, .null, .null, .int 0, .null, .int 0, .null, .null, .null, .int 0, .null, .null, .int 0, .int 0, .null, .int 0, .long 0, .null, .int 0, .int 0, .int 0, .null, .int 0, .null, .null, .int 0])) M2.1 = some M4 ∧ Sim 0 (mm_new M4 (mm_al 1 (fun _ => 0))) ∧ (∀ t M, t < 512 → Sim t M → Sim (t + 1) M) ∧ lw_s_line n lo M2.1 M4.1 Sim ∧ lw_s_feed n lo M2.1 Sim ∧ lw_s_end n lo M2.1 Sim ∧ lw_s_fault n lo M2.1 Sim ∧ lw_s_text n lo M2.1 Sim ∧ lw_s_word n lo M2.1 Sim ∧ lw_s_rule n lo M2.1 Sim ∧ lw_s_sign n lo M2.1 Sim ∧ lw_s_hit n lo M2.1 Sim ∧ lw_s_rank n lo M2.1 Sim ∧ lw_s_all n lo M2.1 Sim ∧ lw_s_twice n lo M2.1 Sim ∧ lw_s_unlike n lo M2.1 Sim ∧ lw_s_frequent n lo M2.1 Sim ∧ lw_s_few n lo M2.1 Sim ∧ lw_s_beside n lo M2.1 Sim ∧ lw_s_set n lo M2.1 Sim ∧ lw_s_put n lo M2.1 Sim ∧ lw_s_take n lo M2.1 Sim ∧ lw_s_swap n lo M2.1 Sim ∧ lw_s_lay n lo M2.1 Sim ∧ lw_s_page n lo M2.1 Sim ∧ lw_s_rewind n lo M2.1 Sim ∧ lw_s_cursor n lo M2.1 Sim ∧ lw_s_told n lo M2.1 Sim ∧ lw_s_split n lo M2.1 Sim ∧ lw_s_join n lo M2.1 Sim ∧ lw_s_ways n lo M2.1 Sim ∧ lw_s_status n lo M2.1 Sim ∧ lw_s_undo n lo M2.1 Sim ∧ lw_s_log n lo M2.1 Sim ∧ lw_s_spell n lo M2.1 Sim ∧ lw_s_would n lo M2.1 Sim ∧ lw_s_step n lo M2.1 Sim ∧ lw_s_run n lo M2.1 Sim ∧ lw_s_perform n lo M2.1 Sim ∧ lw_s_most n lo M2.1 Sim ∧ lw_s_image n lo M2.1 Sim ∧ lw_s_back n lo M2.1 Sim ∧ lw_s_count n lo M2.1 Sim
theorem it_X0 : ∀ w ∈ u_ws RX0 TX0 9, w ∈ lw_tbl := by decide +kernel
theorem it_X1 : ∀ w ∈ u_ws RX1 TX1 4, w ∈ lw_tbl := by decide +kernel
theorem it_X2 : ∀ w ∈ u_ws RX2 TX2 2, w ∈ lw_tbl := by decide +kernel
theorem it_X3 : ∀ w ∈ u_ws RX3 TX3 4, w ∈ lw_tbl := by decide +kernel
theorem it_X4 : ∀ w ∈ u_ws RX4 TX4 2, w ∈ lw_tbl := by decide +kernel
theorem it_X5 : ∀ w ∈ u_ws RX5 TX5 2, w ∈ lw_tbl := by decide +kernel
theorem it_X6 : ∀ w ∈ u_ws RX6 TX6 6, w ∈ lw_tbl := by decide +kernel
theorem it_X7 : ∀ w ∈ u_ws RX7 TX7 4, w ∈ lw_tbl := by decide +kernel
theorem it_X8 : ∀ w ∈ u_ws RX8 TX8 3, w ∈ lw_tbl := by decide +kernel
theorem it_X9 : ∀ w ∈ u_ws RX9 TX9 18, w ∈ lw_tbl := by decide +kernel
theorem it_X10 : ∀ w ∈ u_ws RX10 TX10 33, w ∈ lw_tbl := by decide +kernel
set_option maxHeartbeats 4000000 in
set_option maxRecDepth 100000 in
theorem whole_of {p : Program} {e : Env} {s : State} {m : MethodId} {below : List Frame} {meth : Method} {c : Code} (l : Launch) (hflags : l.flags = flags0) {b L : Nat} {xs : Nat → Int32} (hL : L ≤ 3072) (C0 : lw_At p s m meth c b L xs) (hp : lw_pure s.heap.size) : W p l e room_1 s m #[Value.ref b] below meth c s.heap [] 0 0 (lw_Z below #[Value.ref b] s) (entryFrame m ([Value.ref b] : List Value).toArray 7) := by
  obtain ⟨hx, hb, hr, hml, hown, hts, hX, hbl, hlocks, hgv⟩ := C0
  have hst : l.stackTraces = false := by unfold Launch.stackTraces; rw [hflags]; decide +kernel
  have hA : ∀ a : Nat, a < s.heap.size → ¬ mm_fr s.heap.size a := fun a h1 h2 => Nat.not_le.mpr h1 h2
  obtain ⟨c0, i0, hK0⟩ := u_known (C := RX0) (T := TX0) (N := 9) (n := 9) hts it_X0 (hts (.instantiable RX0 9) (List.mem_of_getElem? (i := 221) (by decide +kernel)))
  obtain ⟨c1, i1, hK1⟩ := u_known (C := RX1) (T := TX1) (N := 4) (n := 4) hts it_X1 (hts (.instantiable RX1 4) (List.mem_of_getElem? (i := 163) (by decide +kernel)))
  obtain ⟨c2, i2, hK2⟩ := u_known (C := RX2) (T := TX2) (N := 2) (n := 2) hts it_X2 (hts (.instantiable RX2 2) (List.mem_of_getElem? (i := 182) (by decide +kernel)))
  obtain ⟨c3, i3, hK3⟩ := u_known (C := RX3) (T := TX3) (N := 4) (n := 4) hts it_X3 (hts (.instantiable RX3 4) (List.mem_of_getElem? (i := 333) (by decide +kernel)))
  obtain ⟨c4, i4, hK4⟩ := u_known (C := RX4) (T := TX4) (N := 2) (n := 2) hts it_X4 (hts (.instantiable RX4 2) (List.mem_of_getElem? (i := 352) (by decide +kernel)))
  obtain ⟨c5, i5, hK5⟩ := u_known (C := RX5) (T := TX5) (N := 2) (n := 2) hts it_X5 (hts (.instantiable RX5 2) (List.mem_of_getElem? (i := 188) (by decide +kernel)))
  obtain ⟨c6, i6, hK6⟩ := u_known (C := RX6) (T := TX6) (N := 6) (n := 6) hts it_X6 (hts (.instantiable RX6 6) (List.mem_of_getElem? (i := 153) (by decide +kernel)))
  obtain ⟨c7, i7, hK7⟩ := u_known (C := RX7) (T := TX7) (N := 4) (n := 4) hts it_X7 (hts (.instantiable RX7 4) (List.mem_of_getElem? (i := 299) (by decide +kernel)))
  obtain ⟨c8, i8, hK8⟩ := u_known (C := RX8) (T := TX8) (N := 3) (n := 3) hts it_X8 (hts (.instantiable RX8 3) (List.mem_of_getElem? (i := 135) (by decide +kernel)))
  obtain ⟨c9, i9, hK9⟩ := u_known (C := RX9) (T := TX9) (N := 18) (n := 18) hts it_X9 (hts (.instantiable RX9 18) (List.mem_of_getElem? (i := 127) (by decide +kernel)))
  obtain ⟨c10, i10, hK10⟩ := u_known (C := RX10) (T := TX10) (N := 33) (n := 33) hts it_X10 (hts (.instantiable RX10 33) (List.mem_of_getElem? (i := 1034) (by decide +kernel)))
  obtain ⟨dC, dI, hKc⟩ : ∃ (dC : Nat → ClassId) (dI : Nat → Nat → Nat), ∀ (k : Nat) (q : vw_C), vwCl[k]? = some q → u_Kn s q.1 q.2.1 q.2.2 (dC k) (dI k) := by
    refine ⟨fun k => match k with | 0 => c0 | 1 => c1 | 2 => c2 | 3 => c3 | 4 => c4 | 5 => c5 | 6 => c6 | 7 => c7 | 8 => c8 | 9 => c9 | _ => c10, fun k => match k with | 0 => i0 | 1 => i1 | 2 => i2 | 3 => i3 | 4 => i4 | 5 => i5 | 6 => i6 | 7 => i7 | 8 => i8 | 9 => i9 | _ => i10, ?_⟩
    intro k q hq
    match k, hq with
    | 0, hq => cases hq; exact hK0
    | 1, hq => cases hq; exact hK1
    | 2, hq => cases hq; exact hK2
    | 3, hq => cases hq; exact hK3
    | 4, hq => cases hq; exact hK4
    | 5, hq => cases hq; exact hK5
    | 6, hq => cases hq; exact hK6
    | 7, hq => cases hq; exact hK7
    | 8, hq => cases hq; exact hK8
    | 9, hq => cases hq; exact hK9
    | 10, hq => cases hq; exact hK10
    | k + 11, hq => simp [vwCl] at hq
  obtain ⟨a0, k0, m0, f01, f02, f03⟩ := Cond.arrayClass_spec (hts (.arrayClass .int) (List.mem_of_getElem? (i := 151) (by decide +kernel)))
  obtain ⟨a1, k1, m1, f11, f12, f13⟩ := Cond.arrayClass_spec (hts (.arrayClass .long) (List.mem_of_getElem? (i := 1638) (by decide +kernel)))
  obtain ⟨m2, a2, k2, f24, -, f22, f23, f21⟩ := Cond.arrayOver_spec (hts (.arrayOver (.object RX2)) (List.mem_of_getElem? (i := 159) (by decide +kernel)))
  obtain ⟨m3, a3, k3, f34, -, f32, f33, f31⟩ := Cond.arrayOver_spec (hts (.arrayOver (.object RX0)) (List.mem_of_getElem? (i := 161) (by decide +kernel)))
  obtain ⟨m4, a4, k4, f44, -, f42, f43, f41⟩ := Cond.arrayOver_spec (hts (.arrayOver (.object RX6)) (List.mem_of_getElem? (i := 295) (by decide +kernel)))
  obtain ⟨m5, a5, k5, f54, -, f52, f53, f51⟩ := Cond.arrayOver_spec (hts (.arrayOver (.object RX7)) (List.mem_of_getElem? (i := 358) (by decide +kernel)))
  obtain ⟨m6, a6, k6, f64, -, f62, f63, f61⟩ := Cond.arrayOver_spec (hts (.arrayOver (.object RX4)) (List.mem_of_getElem? (i := 331) (by decide +kernel)))
  obtain ⟨dA, hdA⟩ : ∃ dA : Nat → ClassId, va_K (dC, dI) vwCl (mm_tys dA) s := by
    refine ⟨fun k => match k with | 0 => a0 | 1 => a1 | 2 => a2 | 3 => a3 | 4 => a4 | 5 => a5 | _ => a6, hKc, fun k q hq => ?_⟩
    match k, hq with
    | 0, hq => cases hq; exact ⟨fun N z => ⟨fun k h => (by cases h), k0, f02, m0, f03⟩, f01⟩
    | 1, hq => cases hq; exact ⟨fun N z => ⟨fun k h => (by cases h), k1, f12, m1, f13⟩, f11⟩
    | 2, hq => cases hq; exact ⟨fun N z => ⟨fun k h => (by cases h), k2, f22, m2, f23⟩, k2, m2, f22, f23, f24, f21⟩
    | 3, hq => cases hq; exact ⟨fun N z => ⟨fun k h => (by cases h), k3, f32, m3, f33⟩, k3, m3, f32, f33, f34, f31⟩
    | 4, hq => cases hq; exact ⟨fun N z => ⟨fun k h => (by cases h), k4, f42, m4, f43⟩, k4, m4, f42, f43, f44, f41⟩
    | 5, hq => cases hq; exact ⟨fun N z => ⟨fun k h => (by cases h), k5, f52, m5, f53⟩, k5, m5, f52, f53, f54, f51⟩
    | 6, hq => cases hq; exact ⟨fun N z => ⟨fun k h => (by cases h), k6, f62, m6, f63⟩, k6, m6, f62, f63, f64, f61⟩
    | k + 7, hq => simp [mm_tys, List.range, List.range.loop] at hq
  have hs := flat_of_before _ hgv
  have hSt : mm_St s.heap.size s s.heap := by
    obtain ⟨t, ht, hT⟩ := va_Tof (tm := (.static "KwicStore" "DRAWN_SIGNS" "[I")) (ty := .int) (N := 3) (f := fun k => .int (mm_drv k)) (A := mm_fr s.heap.size) (by decide) (hs (.arrayOf (.static "KwicStore" "DRAWN_SIGNS" "[I") .int) (by decide +kernel)) (va_eqt (hs (.eq (.length (.static "KwicStore" "DRAWN_SIGNS" "[I")) (.int 3)) (by decide +kernel))) (fun j hj => by
      rcases (show j = 0 ∨ j = 1 ∨ j = 2 by omega) with rfl | rfl | rfl
      · exact va_eqt (hs (.eq (.elem (.static "KwicStore" "DRAWN_SIGNS" "[I") (.int 0)) (.int 97)) (by decide +kernel))
      · exact va_eqt (hs (.eq (.elem (.static "KwicStore" "DRAWN_SIGNS" "[I") (.int 1)) (.int 98)) (by decide +kernel))
      · exact va_eqt (hs (.eq (.elem (.static "KwicStore" "DRAWN_SIGNS" "[I") (.int 2)) (.int 95)) (by decide +kernel))) hA
    exact ⟨t, va_Zof (hts (.laysStatic RX9 "DRAWN_SIGNS" "[I") (List.mem_of_getElem? (i := 867) (by decide +kernel))) (hts (.initialized RX9) (List.mem_of_getElem? (i := 108) (by decide +kernel))) ht hA, hT⟩
  have X : mm_C (dC, dI) dA s.heap.size cL_law RL 7 p s m #[Value.ref b] c := ⟨hx, hb, hml, hown, fun w hw => hts w (List.mem_filter.mp hw).1, hdA, hSt⟩
  have NN : mm_N s := ⟨fun q hq => va_Nw.of rfl (hts _ ((show ∀ q ∈ mm_nest, Cond.methodLinkNest q.1 q.2.1 q.2.2 RX9 ∈ lw_tbl by decide +kernel) q hq)), fun C hC => va_AO.of (hts _ ((show ∀ C ∈ mm_ovs, Cond.arrayOver (.object C) ∈ lw_tbl by decide +kernel) C hC))⟩
  have XN : mm_XN s.heap.size s s.heap := ⟨va_Nw.of rfl (hts _ (show Cond.castable mm_nse mm_nse ∈ lw_tbl by decide +kernel)), fun y hy => va_Nw.of rfl (hts _ ((show ∀ y ∈ mm_dcl, Cond.declares y ∈ lw_tbl by decide +kernel) y hy)), vx_Zqof (hts (.laysStatic Bundle.tN "UNASSIGNED_STACK" Bundle.steD) (List.mem_of_getElem? (i := 999) (by decide +kernel))) (hts (.initialized Bundle.tN) (List.mem_of_getElem? (i := 120) (by decide +kernel))) (hs (.isRef (.static Bundle.tN "UNASSIGNED_STACK" Bundle.steD)) (by decide +kernel)) hA, vx_Zqof (hts (.laysStatic Bundle.tN "SUPPRESSED_SENTINEL" Bundle.listD) (List.mem_of_getElem? (i := 1001) (by decide +kernel))) (hts (.initialized Bundle.tN) (List.mem_of_getElem? (i := 120) (by decide +kernel))) (hs (.isRef (.static Bundle.tN "SUPPRESSED_SENTINEL" Bundle.listD)) (by decide +kernel)) hA⟩
  have I : mm_I (dC, dI) dA s.heap.size s (s.heap.size, fun _ => none) s.heap [] := ⟨⟨rfl, Nat.le_refl _, fun a e h => by cases h⟩, va_S.rf⟩
  obtain ⟨n, M2, M4, Sim, h1, h2, h3, h_skip, h_line, h_feed, h_end, h_fault, h_text, h_word, h_rule, h_sign, h_hit, h_rank, h_all, h_twice, h_unlike, h_frequent, h_few, h_beside, h_set, h_put, h_take, h_swap, h_lay, h_page, h_rewind, h_cursor, h_told, h_split, h_join, h_ways, h_status, h_undo, h_log, h_spell, h_would, h_step, h_run, h_perform, h_most, h_image, h_back, h_count⟩ := hp
  have hl := lv_entry ([.ref b]) (n := 7) (Nat.le_of_ble_eq_true rfl)
  rw [lg_entry_eq]
  generalize (lg_sl ([.ref b]) ++ List.replicate (7 - (lg_sl ([.ref b])).length) Slot.unset).toArray = ls at hl ⊢
  have hl : lv_has ls 7 [(0, .ref b)] := hl
  refine mm_rnew (F := fun v M => if v = s.heap.size then some M else none) (o := mm_new (s.heap.size, fun _ => none) (mm_ob 9 [.null, .null, .null, .null, .int 0, .null, .int 0, .int 0, .null, .null, .null, .null, .null, .int 0, .null, .null, .null, .long 0])) X I nw_L_8 (show _ ≤ 601024 by omega) (show _ ≤ 7293034 by omega) dL_law_0 (by simp [mm_nw]) (fun v M H I h => ?_)
  obtain ⟨rfl, h9⟩ : v = s.heap.size ∧ some M = some (mm_new (s.heap.size, fun _ => none) (mm_ob 9 [.null, .null, .null, .null, .int 0, .null, .int 0, .int 0, .null, .null, .null, .null, .null, .int 0, .null, .null, .null, .long 0])) := by split at h; (rename_i z; exact ⟨z, h⟩); cases h
  cases h9
  refine lv_dup X.1 X.2.1 dL_law_3 rfl ?_
  refine mm_cI (F := fun M => some M) (o := M2) X NN I hl (As := []) md_X9_init mi_X9_init rfl (Or.inl ml_L_15) (kX9_init (n := n)) (by decide) (show _ ≤ 601024 by omega) (show _ ≤ 7293034 by omega) rfl rfl (Nat.le_of_ble_eq_true rfl) dL_law_4 (by rw [h1]; rfl) (fun M H locs I h => ?_)
  cases h
  refine lv_astore_n (lv' := [(1, .ref s.heap.size), (0, .ref b)]) X.1 X.2.1 dL_law_7 rfl hl (by decide) rfl (fun ls hl => ?_)
  refine mm_rnew (F := fun v M => if v = M2.1 then some M else none) (o := mm_new M2 (mm_ob 10 [.int 0, .null, .int 0, .int 0, .int 0, .null, .null, .int 0, .null, .null, .int 0, .null, .int 0, .null, .null, .null, .int 0, .null, .null, .int 0, .int 0, .null, .int 0, .long 0, .null, .int 0, .int 0, .int 0, .null, .int 0, .null, .null, .int 0])) X I nw_L_16 (show _ ≤ 601024 by omega) (show _ ≤ 7293034 by omega) dL_law_8 (by simp [mm_nw]) (fun v M H I h => ?_)
  obtain ⟨rfl, h9⟩ : v = M2.1 ∧ some M = some (mm_new M2 (mm_ob 10 [.int 0, .null, .int 0, .int 0, .int 0, .null, .null, .int 0, .null, .null, .int 0, .null, .int 0, .null, .null, .null, .int 0, .null, .null, .int 0, .int 0, .null, .int 0, .long 0, .null, .int 0, .int 0, .int 0, .null, .int 0, .null, .null, .int 0])) := by split at h; (rename_i z; exact ⟨z, h⟩); cases h
  cases h9
  refine lv_dup X.1 X.2.1 dL_law_11 rfl ?_
  refine mm_cI (F := fun M => some M) (o := M4) X NN I hl (As := []) md_X10_init mi_X10_init rfl (Or.inl ml_L_18) (kX10_init (n := n)) (by decide) (show _ ≤ 601024 by omega) (show _ ≤ 7293034 by omega) rfl rfl (Nat.le_of_ble_eq_true rfl) dL_law_12 (by rw [h2]; rfl) (fun M H locs I h => ?_)
  cases h
  refine lv_astore_n (lv' := [(2, .ref M2.1), (1, .ref s.heap.size), (0, .ref b)]) X.1 X.2.1 dL_law_15 rfl hl (by decide) rfl (fun ls hl => ?_)
  refine lv_iconst (v := 1) X.1 X.2.1 dL_law_16 (by decide) ?_
  refine mm_rnal (N := 1) (F := fun v M => if v = M4.1 then some M else none) (o := mm_new M4 (mm_al 1 (fun _ => 0))) X I ac_long (by decide) (by decide) (by decide) (show _ ≤ 601024 by omega) (show _ ≤ 7293034 by omega) dL_law_17 (by simp [mm_nw]) (fun v M H I h => ?_)
  obtain ⟨rfl, h9⟩ : v = M4.1 ∧ some M = some (mm_new M4 (mm_al 1 (fun _ => 0))) := by split at h; (rename_i z; exact ⟨z, h⟩); cases h
  cases h9
  refine lv_astore_n (lv' := [(3, .ref M4.1), (2, .ref M2.1), (1, .ref s.heap.size), (0, .ref b)]) X.1 X.2.1 dL_law_19 rfl hl (by decide) rfl (fun ls hl => ?_)
  refine lv_iconst (v := 0) X.1 X.2.1 dL_law_20 (by decide) ?_
  refine lv_istore (lv' := [(4, .int 0), (3, .ref M4.1), (2, .ref M2.1), (1, .ref s.heap.size), (0, .ref b)]) X.1 X.2.1 dL_law_21 hl (by decide) rfl (fun ls hl => ?_)
  exact lw_loop hst hL X XN hX hbl hr hlocks h_feed h_end h_fault h_text h_word h_rule h_sign h_hit h_rank h_all h_twice h_unlike h_frequent h_few h_beside h_set h_put h_take h_swap h_lay h_page h_rewind h_cursor h_told h_split h_join h_ways h_status h_undo h_log h_spell h_would h_step h_run h_perform h_most h_image h_back h_count h_line h_skip (L + 1) 0 _ _ _ _ _ ls (Nat.zero_le _) (by omega) (by omega) (by omega) I (lv_sub hl [4, 3, 2, 1, 0] rfl) h3
