set_option maxHeartbeats 4000000 in
set_option maxRecDepth 100000 in
theorem kX5_copyFrom {l : Launch} {D : va_G} {dA : Nat → ClassId} {lo : Nat} {n : Nat} {M : mm_M} {a0 : Nat} {a1 : Nat} (o : mm_M) (h : pX5_copyFrom n M a0 a1 = some o) : (∃ fs, M.2 a0 = some (mm_ob 5 fs)) ∧ mm_Met l D dA lo yX5_copyFrom cX5_copyFrom 2 none 1 40 0 0 [.ref a0, .ref a1] M none o := by
  unfold pX5_copyFrom at h
  obtain ⟨hob, h⟩ := mm_v_some h
  refine ⟨hob, mm_enter (by decide) (Nat.le_of_ble_eq_true rfl) (fun p e s m args below meth c ls X hr hlk hnm I hl => ?_)⟩
  have X : mm_C D dA lo cX5_copyFrom RX5 2 p s m args c := X
  have hl : lv_has ls 2 [(0, .ref a0), (1, .ref a1)] := hl
  refine lv_aload_n X.1 X.2.1 dX5_copyFrom_0 rfl (lv_at hl 1 rfl) ?_
  refine mm_rgr X I fl_X5_9 dX5_copyFrom_1 h (fun v1 h => ?_)
  refine lv_iconst (v := 0) X.1 X.2.1 dX5_copyFrom_4 (by decide) ?_
  refine lv_aload_n X.1 X.2.1 dX5_copyFrom_5 rfl (lv_at hl 0 rfl) ?_
  refine mm_rgr X I fl_X5_9 dX5_copyFrom_6 h (fun v2 h => ?_)
  refine lv_iconst (v := 0) X.1 X.2.1 dX5_copyFrom_9 (by decide) ?_
  refine lv_aload_n X.1 X.2.1 dX5_copyFrom_10 rfl (lv_at hl 1 rfl) ?_
  refine mm_rgi X I fl_X5_15 dX5_copyFrom_11 h (fun v3 h => ?_)
  refine mm_rcp X I hl ml_X5_19 (by decide) (Nat.le_of_ble_eq_true rfl) dX5_copyFrom_14 h (fun M H locs I h => ?_)
  refine lv_aload_n X.1 X.2.1 dX5_copyFrom_17 rfl (lv_at hl 0 rfl) ?_
  refine lv_aload_n X.1 X.2.1 dX5_copyFrom_18 rfl (lv_at hl 1 rfl) ?_
  refine mm_rgi X I fl_X5_15 dX5_copyFrom_19 h (fun v4 h => ?_)
  refine mm_rpi X I fl_X5_15 dX5_copyFrom_22 h (fun M H locs I h => ?_)
  exact mm_xv X I hr hlk dX5_copyFrom_25 h
set_option maxHeartbeats 4000000 in
set_option maxRecDepth 100000 in
theorem kX2_copyFrom {l : Launch} {D : va_G} {dA : Nat → ClassId} {lo : Nat} {n : Nat} {M : mm_M} {a0 : Nat} {a1 : Nat} (o : mm_M) (h : pX2_copyFrom n M a0 a1 = some o) : (∃ fs, M.2 a0 = some (mm_ob 2 fs)) ∧ mm_Met l D dA lo yX2_copyFrom cX2_copyFrom 2 none 2 61 0 0 [.ref a0, .ref a1] M none o := by
  unfold pX2_copyFrom at h
  obtain ⟨hob, h⟩ := mm_v_some h
  refine ⟨hob, mm_enter (by decide) (Nat.le_of_ble_eq_true rfl) (fun p e s m args below meth c ls X hr hlk hnm I hl => ?_)⟩
  have X : mm_C D dA lo cX2_copyFrom RX2 2 p s m args c := X
  have hl : lv_has ls 2 [(0, .ref a0), (1, .ref a1)] := hl
  refine lv_aload_n X.1 X.2.1 dX2_copyFrom_0 rfl (lv_at hl 0 rfl) ?_
  refine mm_rgr X I fl_X2_10 dX2_copyFrom_1 h (fun v1 h => ?_)
  refine lv_aload_n X.1 X.2.1 dX2_copyFrom_4 rfl (lv_at hl 1 rfl) ?_
  refine mm_rgr X I fl_X2_10 dX2_copyFrom_5 h (fun v2 h => ?_)
  refine mm_cVv X I hl (As := [.ref v2]) (ci := 5) md_X5_copyFrom mv_X5_copyFrom ml_X2_16 rfl (kX5_copyFrom (n := n)) (by decide) ⟨Nat.le_refl 0, Nat.le_refl 0⟩ rfl rfl (Nat.le_of_ble_eq_true rfl) dX2_copyFrom_8 h (fun M H locs I h => ?_)
  refine lv_aload_n X.1 X.2.1 dX2_copyFrom_11 rfl (lv_at hl 0 rfl) ?_
  refine lv_aload_n X.1 X.2.1 dX2_copyFrom_12 rfl (lv_at hl 1 rfl) ?_
  refine mm_rgi X I fl_X2_20 dX2_copyFrom_13 h (fun v4 h => ?_)
  refine mm_rpi X I fl_X2_20 dX2_copyFrom_16 h (fun M H locs I h => ?_)
  exact mm_xv X I hr hlk dX2_copyFrom_19 h
set_option maxHeartbeats 4000000 in
set_option maxRecDepth 100000 in
theorem kX0_copyFrom {l : Launch} {D : va_G} {dA : Nat → ClassId} {lo : Nat} {n : Nat} {M : mm_M} {a0 : Nat} {a1 : Nat} (o : mm_M) (h : pX0_copyFrom n M a0 a1 = some o) : (∃ fs, M.2 a0 = some (mm_ob 0 fs)) ∧ mm_Met l D dA lo yX0_copyFrom cX0_copyFrom 2 none 3 82 0 0 [.ref a0, .ref a1] M none o := by
  unfold pX0_copyFrom at h
  obtain ⟨hob, h⟩ := mm_v_some h
  refine ⟨hob, mm_enter (by decide) (Nat.le_of_ble_eq_true rfl) (fun p e s m args below meth c ls X hr hlk hnm I hl => ?_)⟩
  have X : mm_C D dA lo cX0_copyFrom RX0 2 p s m args c := X
  have hl : lv_has ls 2 [(0, .ref a0), (1, .ref a1)] := hl
  refine lv_aload_n X.1 X.2.1 dX0_copyFrom_0 rfl (lv_at hl 0 rfl) ?_
  refine mm_rgr X I fl_X0_12 dX0_copyFrom_1 h (fun v1 h => ?_)
  refine lv_aload_n X.1 X.2.1 dX0_copyFrom_4 rfl (lv_at hl 1 rfl) ?_
  refine mm_rgr X I fl_X0_12 dX0_copyFrom_5 h (fun v2 h => ?_)
  refine mm_cVv X I hl (As := [.ref v2]) (ci := 5) md_X5_copyFrom mv_X5_copyFrom ml_X0_32 rfl (kX5_copyFrom (n := n)) (by decide) ⟨Nat.le_refl 0, Nat.le_refl 0⟩ rfl rfl (Nat.le_of_ble_eq_true rfl) dX0_copyFrom_8 h (fun M H locs I h => ?_)
  refine lv_aload_n X.1 X.2.1 dX0_copyFrom_11 rfl (lv_at hl 0 rfl) ?_
  refine lv_aload_n X.1 X.2.1 dX0_copyFrom_12 rfl (lv_at hl 1 rfl) ?_
  refine mm_rgi X I fl_X0_36 dX0_copyFrom_13 h (fun v4 h => ?_)
  refine mm_rpi X I fl_X0_36 dX0_copyFrom_16 h (fun M H locs I h => ?_)
  refine lv_aload_n X.1 X.2.1 dX0_copyFrom_19 rfl (lv_at hl 0 rfl) ?_
  refine lv_aload_n X.1 X.2.1 dX0_copyFrom_20 rfl (lv_at hl 1 rfl) ?_
  refine mm_rgi X I fl_X0_40 dX0_copyFrom_21 h (fun v5 h => ?_)
  refine mm_rpz X I fl_X0_40 dX0_copyFrom_24 h (fun M H locs I h => ?_)
  refine lv_aload_n X.1 X.2.1 dX0_copyFrom_27 rfl (lv_at hl 0 rfl) ?_
  refine mm_rgr X I fl_X0_21 dX0_copyFrom_28 h (fun v6 h => ?_)
  refine lv_aload_n X.1 X.2.1 dX0_copyFrom_31 rfl (lv_at hl 1 rfl) ?_
  refine mm_rgr X I fl_X0_21 dX0_copyFrom_32 h (fun v7 h => ?_)
  refine mm_cVv X I hl (As := [.ref v7]) (ci := 2) md_X2_copyFrom mv_X2_copyFrom ml_X0_44 rfl (kX2_copyFrom (n := n)) (by decide) ⟨Nat.le_refl 0, Nat.le_refl 0⟩ rfl rfl (Nat.le_of_ble_eq_true rfl) dX0_copyFrom_35 h (fun M H locs I h => ?_)
  refine lv_aload_n X.1 X.2.1 dX0_copyFrom_38 rfl (lv_at hl 0 rfl) ?_
  refine lv_aload_n X.1 X.2.1 dX0_copyFrom_39 rfl (lv_at hl 1 rfl) ?_
  refine mm_rgi X I fl_X0_47 dX0_copyFrom_40 h (fun v9 h => ?_)
  refine mm_rpi X I fl_X0_47 dX0_copyFrom_43 h (fun M H locs I h => ?_)
  refine lv_aload_n X.1 X.2.1 dX0_copyFrom_46 rfl (lv_at hl 0 rfl) ?_
  refine lv_aload_n X.1 X.2.1 dX0_copyFrom_47 rfl (lv_at hl 1 rfl) ?_
  refine mm_rgi X I fl_X0_50 dX0_copyFrom_48 h (fun v10 h => ?_)
  refine mm_rpi X I fl_X0_50 dX0_copyFrom_51 h (fun M H locs I h => ?_)
  refine lv_aload_n X.1 X.2.1 dX0_copyFrom_54 rfl (lv_at hl 0 rfl) ?_
  refine lv_aload_n X.1 X.2.1 dX0_copyFrom_55 rfl (lv_at hl 1 rfl) ?_
  refine mm_rgi X I fl_X0_53 dX0_copyFrom_56 h (fun v11 h => ?_)
  refine mm_rpi X I fl_X0_53 dX0_copyFrom_59 h (fun M H locs I h => ?_)
  refine lv_aload_n X.1 X.2.1 dX0_copyFrom_62 rfl (lv_at hl 1 rfl) ?_
  refine mm_rgr X I fl_X0_25 dX0_copyFrom_63 h (fun v12 h => ?_)
  refine lv_iconst (v := 0) X.1 X.2.1 dX0_copyFrom_66 (by decide) ?_
  refine lv_aload_n X.1 X.2.1 dX0_copyFrom_67 rfl (lv_at hl 0 rfl) ?_
  refine mm_rgr X I fl_X0_25 dX0_copyFrom_68 h (fun v13 h => ?_)
  refine lv_iconst (v := 0) X.1 X.2.1 dX0_copyFrom_71 (by decide) ?_
  refine lv_bipush (v := 9) X.1 X.2.1 dX0_copyFrom_72 (by decide) ?_
  refine mm_rcp X I hl ml_X0_56 (by decide) (Nat.le_of_ble_eq_true rfl) dX0_copyFrom_74 h (fun M H locs I h => ?_)
  refine lv_aload_n X.1 X.2.1 dX0_copyFrom_77 rfl (lv_at hl 1 rfl) ?_
  refine mm_rgr X I fl_X0_29 dX0_copyFrom_78 h (fun v14 h => ?_)
  refine lv_iconst (v := 0) X.1 X.2.1 dX0_copyFrom_81 (by decide) ?_
  refine lv_aload_n X.1 X.2.1 dX0_copyFrom_82 rfl (lv_at hl 0 rfl) ?_
  refine mm_rgr X I fl_X0_29 dX0_copyFrom_83 h (fun v15 h => ?_)
  refine lv_iconst (v := 0) X.1 X.2.1 dX0_copyFrom_86 (by decide) ?_
  refine lv_bipush (v := 9) X.1 X.2.1 dX0_copyFrom_87 (by decide) ?_
  refine mm_rcp X I hl ml_X0_56 (by decide) (Nat.le_of_ble_eq_true rfl) dX0_copyFrom_89 h (fun M H locs I h => ?_)
  exact mm_xv X I hr hlk dX0_copyFrom_92 h
set_option maxHeartbeats 4000000 in
set_option maxRecDepth 100000 in
theorem kX0_unmark {l : Launch} {D : va_G} {dA : Nat → ClassId} {lo : Nat} {n : Nat} {M : mm_M} {a0 : Nat} (o : mm_M) (h : pX0_unmark n M a0 = some o) : (∃ fs, M.2 a0 = some (mm_ob 0 fs)) ∧ mm_Met l D dA lo yX0_unmark cX0_unmark 1 none 0 0 0 0 [.ref a0] M none o := by
  unfold pX0_unmark at h
  obtain ⟨hob, h⟩ := mm_v_some h
  refine ⟨hob, mm_enter (by decide) (Nat.le_of_ble_eq_true rfl) (fun p e s m args below meth c ls X hr hlk hnm I hl => ?_)⟩
  have X : mm_C D dA lo cX0_unmark RX0 1 p s m args c := X
  have hl : lv_has ls 1 [(0, .ref a0)] := hl
  refine lv_aload_n X.1 X.2.1 dX0_unmark_0 rfl (lv_at hl 0 rfl) ?_
  refine lv_iconst (v := 0) X.1 X.2.1 dX0_unmark_1 (by decide) ?_
  refine mm_rpz X I fl_X0_40 dX0_unmark_2 h (fun M H locs I h => ?_)
  refine lv_aload_n X.1 X.2.1 dX0_unmark_5 rfl (lv_at hl 0 rfl) ?_
  refine lv_iconst (v := 0) X.1 X.2.1 dX0_unmark_6 (by decide) ?_
  refine mm_rpi X I fl_X0_50 dX0_unmark_7 h (fun M H locs I h => ?_)
  refine lv_aload_n X.1 X.2.1 dX0_unmark_10 rfl (lv_at hl 0 rfl) ?_
  refine lv_iconst (v := 0) X.1 X.2.1 dX0_unmark_11 (by decide) ?_
  refine mm_rpi X I fl_X0_53 dX0_unmark_12 h (fun M H locs I h => ?_)
  exact mm_xv X I hr hlk dX0_unmark_15 h
set_option maxHeartbeats 4000000 in
set_option maxRecDepth 100000 in
theorem kX0_tell {l : Launch} {D : va_G} {dA : Nat → ClassId} {lo : Nat} {n : Nat} {M : mm_M} {a0 : Nat} {a1 : Nat} {x2 : Int32} (o : mm_M) (h : pX0_tell n M a0 a1 x2 = some o) : (∃ fs, M.2 a0 = some (mm_ob 0 fs)) ∧ mm_Met l D dA lo yX0_tell cX0_tell 3 none 2 61 0 0 [.ref a0, .ref a1, .int x2] M none o := by
  unfold pX0_tell at h
  obtain ⟨hob, h⟩ := mm_v_some h
  refine ⟨hob, mm_enter (by decide) (Nat.le_of_ble_eq_true rfl) (fun p e s m args below meth c ls X hr hlk hnm I hl => ?_)⟩
  have X : mm_C D dA lo cX0_tell RX0 3 p s m args c := X
  have hl : lv_has ls 3 [(0, .ref a0), (1, .ref a1), (2, .int x2)] := hl
  refine lv_aload_n X.1 X.2.1 dX0_tell_0 rfl (lv_at hl 0 rfl) ?_
  refine lv_iconst (v := 1) X.1 X.2.1 dX0_tell_1 (by decide) ?_
  refine mm_rpz X I fl_X0_40 dX0_tell_2 h (fun M H locs I h => ?_)
  refine lv_aload_n X.1 X.2.1 dX0_tell_5 rfl (lv_at hl 0 rfl) ?_
  refine mm_rgr X I fl_X0_21 dX0_tell_6 h (fun v1 h => ?_)
  refine mm_rgr X I fl_X0_62 dX0_tell_9 h (fun v2 h => ?_)
  refine lv_aload_n X.1 X.2.1 dX0_tell_12 rfl (lv_at hl 1 rfl) ?_
  refine mm_rgr X I fl_X0_62 dX0_tell_13 h (fun v3 h => ?_)
  refine mm_cVv X I hl (As := [.ref v3]) (ci := 5) md_X5_copyFrom mv_X5_copyFrom ml_X0_32 rfl (kX5_copyFrom (n := n)) (by decide) ⟨Nat.le_refl 0, Nat.le_refl 0⟩ rfl rfl (Nat.le_of_ble_eq_true rfl) dX0_tell_16 h (fun M H locs I h => ?_)
  refine lv_aload_n X.1 X.2.1 dX0_tell_19 rfl (lv_at hl 0 rfl) ?_
  refine mm_rgr X I fl_X0_21 dX0_tell_20 h (fun v5 h => ?_)
  refine lv_aload_n X.1 X.2.1 dX0_tell_23 rfl (lv_at hl 1 rfl) ?_
  refine mm_rgi X I fl_X0_65 dX0_tell_24 h (fun v6 h => ?_)
  refine mm_rpi X I fl_X0_65 dX0_tell_27 h (fun M H locs I h => ?_)
  refine lv_aload_n X.1 X.2.1 dX0_tell_30 rfl (lv_at hl 0 rfl) ?_
  refine lv_iload_n X.1 X.2.1 dX0_tell_31 rfl (lv_at hl 2 rfl) ?_
  refine mm_rpi X I fl_X0_47 dX0_tell_32 h (fun M H locs I h => ?_)
  refine lv_aload_n X.1 X.2.1 dX0_tell_35 rfl (lv_at hl 0 rfl) ?_
  refine mm_rgi X I fl_X0_50 dX0_tell_36 h (fun v7 h => ?_)
  refine lv_bipush (v := 9) X.1 X.2.1 dX0_tell_39 (by decide) ?_
  refine mm_kge (tgt := 87) X dX0_tell_41 (by decide) h (fun h => ?_) (fun h => ?_)
  · exact mm_xv X I hr hlk dX0_tell_87 h
  · refine lv_aload_n X.1 X.2.1 dX0_tell_44 rfl (lv_at hl 0 rfl) ?_
    refine mm_rgr X I fl_X0_25 dX0_tell_45 h (fun v8 h => ?_)
    refine lv_aload_n X.1 X.2.1 dX0_tell_48 rfl (lv_at hl 0 rfl) ?_
    refine mm_rgi X I fl_X0_50 dX0_tell_49 h (fun v9 h => ?_)
    refine lv_aload_n X.1 X.2.1 dX0_tell_52 rfl (lv_at hl 1 rfl) ?_
    refine mm_rgi X I fl_X0_65 dX0_tell_53 h (fun v10 h => ?_)
    refine mm_ris X I dX0_tell_56 h (fun M H locs I h => ?_)
    refine lv_aload_n X.1 X.2.1 dX0_tell_57 rfl (lv_at hl 0 rfl) ?_
    refine mm_rgr X I fl_X0_29 dX0_tell_58 h (fun v11 h => ?_)
    refine lv_aload_n X.1 X.2.1 dX0_tell_61 rfl (lv_at hl 0 rfl) ?_
    refine mm_rgi X I fl_X0_50 dX0_tell_62 h (fun v12 h => ?_)
    refine lv_iload_n X.1 X.2.1 dX0_tell_65 rfl (lv_at hl 2 rfl) ?_
    refine mm_ris X I dX0_tell_66 h (fun M H locs I h => ?_)
    refine lv_aload_n X.1 X.2.1 dX0_tell_67 rfl (lv_at hl 0 rfl) ?_
    refine lv_dup X.1 X.2.1 dX0_tell_68 rfl ?_
    refine mm_rgi X I fl_X0_50 dX0_tell_69 h (fun v13 h => ?_)
    refine lv_iconst (v := 1) X.1 X.2.1 dX0_tell_72 (by decide) ?_
    refine lv_iadd X.1 X.2.1 dX0_tell_73 ?_
    refine mm_rpi X I fl_X0_50 dX0_tell_74 h (fun M H locs I h => ?_)
    refine lv_aload_n X.1 X.2.1 dX0_tell_77 rfl (lv_at hl 0 rfl) ?_
    refine lv_dup X.1 X.2.1 dX0_tell_78 rfl ?_
    refine mm_rgi X I fl_X0_53 dX0_tell_79 h (fun v14 h => ?_)
    refine lv_iconst (v := 1) X.1 X.2.1 dX0_tell_82 (by decide) ?_
    refine lv_iadd X.1 X.2.1 dX0_tell_83 ?_
    refine mm_rpi X I fl_X0_53 dX0_tell_84 h (fun M H locs I h => ?_)
    exact mm_xv X I hr hlk dX0_tell_87 h
set_option maxHeartbeats 4000000 in
set_option maxRecDepth 100000 in
theorem wpX5_has_l21 {p : Program} {l : Launch} {e : Env} {s : State} {m : MethodId} {args : Array Value} {below : List Frame} {meth : Method} {c : Code} {D : va_G} {dA : Nat → ClassId} {lo : Nat} (X : mm_C D dA lo cX5_has RX5 4 p s m args c) (hr : meth.sig.returnType = (some .boolean)) (hlk : meth.locks = false) (n : Nat) {o : Int32 × mm_M} (k : Nat) : ∀ (M : mm_M) (a0 : Nat) (a1 : Nat) (x2 : Int32) (x3 : Int32) (H : Heap) (locs : List Loc) (ls : Array Slot), mm_I D dA lo s M H locs → lv_has ls 4 [(0, .ref a0), (1, .ref a1), (2, .int x2), (3, .int x3)] → pX5_has_l21 n k M a0 a1 x2 x3 = some o → W p l e (mm_rm 0 0 0 0) s m args below meth c H locs 0 0 (MQ below (mm_Q D dA lo (some (.int o.1)) o.2) args s 0 0 (mm_fr lo)) (F0 m 21 ls []) := by
  induction k with
  | zero =>
    intro M a0 a1 x2 x3 H locs ls I hl h
    have h : (none : Option (Int32 × mm_M)) = some o := h
    cases h
  | succ k ih =>
    intro M a0 a1 x2 x3 H locs ls I hl h
    have h : pX5_has_l21b n (pX5_has_l21 n k) M a0 a1 x2 x3 = some o := h
    unfold pX5_has_l21b at h
    refine lv_iload_n X.1 X.2.1 dX5_has_21 rfl (lv_at hl 3 rfl) ?_
    refine lv_aload_n X.1 X.2.1 dX5_has_22 rfl (lv_at hl 1 rfl) ?_
    refine mm_rgi X I fl_X5_15 dX5_has_23 h (fun v1 h => ?_)
    refine mm_kge (tgt := 54) X dX5_has_26 (by decide) h (fun h => ?_) (fun h => ?_)
    · refine lv_iconst (v := 1) X.1 X.2.1 dX5_has_54 (by decide) ?_
      exact mm_xz1 X I hr hlk dX5_has_55 h
    · refine lv_aload_n X.1 X.2.1 dX5_has_29 rfl (lv_at hl 0 rfl) ?_
      refine mm_rgr X I fl_X5_9 dX5_has_30 h (fun v2 h => ?_)
      refine lv_iload_n X.1 X.2.1 dX5_has_33 rfl (lv_at hl 2 rfl) ?_
      refine lv_iload_n X.1 X.2.1 dX5_has_34 rfl (lv_at hl 3 rfl) ?_
      refine lv_iadd X.1 X.2.1 dX5_has_35 ?_
      refine mm_ria X I dX5_has_36 h (fun v3 h => ?_)
      refine lv_aload_n X.1 X.2.1 dX5_has_37 rfl (lv_at hl 1 rfl) ?_
      refine mm_rgr X I fl_X5_9 dX5_has_38 h (fun v4 h => ?_)
      refine lv_iload_n X.1 X.2.1 dX5_has_41 rfl (lv_at hl 3 rfl) ?_
      refine mm_ria X I dX5_has_42 h (fun v5 h => ?_)
      refine mm_keq (tgt := 48) X dX5_has_43 (by decide) h (fun h => ?_) (fun h => ?_)
      · refine lv_iinc (v := (x3 + 1)) (lv' := [(3, .int (x3 + 1)), (0, .ref a0), (1, .ref a1), (2, .int x2)]) X.1 X.2.1 dX5_has_48 hl (k := 3) rfl rfl (by decide) rfl (fun ls hl => ?_)
        refine lv_goto (tgt := 21) X.1 X.2.1 dX5_has_51 (by decide) ?_
        exact ih M _ _ _ _ _ _ _ I (lv_sub hl [1, 2, 3, 0] rfl) h
      · refine lv_iconst (v := 0) X.1 X.2.1 dX5_has_46 (by decide) ?_
        exact mm_xz0 X I hr hlk dX5_has_47 h
set_option maxHeartbeats 4000000 in
set_option maxRecDepth 100000 in
theorem kX5_has {l : Launch} {D : va_G} {dA : Nat → ClassId} {lo : Nat} {n : Nat} {M : mm_M} {a0 : Nat} {a1 : Nat} {x2 : Int32} (o : Int32 × mm_M) (h : pX5_has n M a0 a1 x2 = some o) : (∃ fs, M.2 a0 = some (mm_ob 5 fs)) ∧ mm_Met l D dA lo yX5_has cX5_has 4 (some .boolean) 0 0 0 0 [.ref a0, .ref a1, .int x2] M (some (.int o.1)) o.2 := by
  unfold pX5_has at h
  obtain ⟨hob, h⟩ := mm_v_some h
  refine ⟨hob, mm_enter (by decide) (Nat.le_of_ble_eq_true rfl) (fun p e s m args below meth c ls X hr hlk hnm I hl => ?_)⟩
  have X : mm_C D dA lo cX5_has RX5 4 p s m args c := X
  have hl : lv_has ls 4 [(0, .ref a0), (1, .ref a1), (2, .int x2)] := hl
  refine lv_iload_n X.1 X.2.1 dX5_has_0 rfl (lv_at hl 2 rfl) ?_
  refine mm_jlt (tgt := 17) X dX5_has_1 (by decide) h (fun h => ?_) (fun h => ?_)
  · refine lv_iconst (v := 0) X.1 X.2.1 dX5_has_17 (by decide) ?_
    exact mm_xz0 X I hr hlk dX5_has_18 h
  · refine lv_iload_n X.1 X.2.1 dX5_has_4 rfl (lv_at hl 2 rfl) ?_
    refine lv_aload_n X.1 X.2.1 dX5_has_5 rfl (lv_at hl 1 rfl) ?_
    refine mm_rgi X I fl_X5_15 dX5_has_6 h (fun v1 h => ?_)
    refine lv_iadd X.1 X.2.1 dX5_has_9 ?_
    refine lv_aload_n X.1 X.2.1 dX5_has_10 rfl (lv_at hl 0 rfl) ?_
    refine mm_rgi X I fl_X5_15 dX5_has_11 h (fun v2 h => ?_)
    refine mm_kle (tgt := 19) X dX5_has_14 (by decide) h (fun h => ?_) (fun h => ?_)
    · refine lv_iconst (v := 0) X.1 X.2.1 dX5_has_19 (by decide) ?_
      refine lv_istore_n (lv' := [(3, .int 0), (0, .ref a0), (1, .ref a1), (2, .int x2)]) X.1 X.2.1 dX5_has_20 rfl hl (by decide) rfl (fun ls hl => ?_)
      exact wpX5_has_l21 X hr hlk n  n M _ _ _ _ _ _ _ I (lv_sub hl [1, 2, 3, 0] rfl) h
    · refine lv_iconst (v := 0) X.1 X.2.1 dX5_has_17 (by decide) ?_
      exact mm_xz0 X I hr hlk dX5_has_18 h
set_option maxHeartbeats 4000000 in
set_option maxRecDepth 100000 in
theorem wpX5_compare_b80 {p : Program} {l : Launch} {e : Env} {s : State} {m : MethodId} {args : Array Value} {below : List Frame} {meth : Method} {c : Code} {D : va_G} {dA : Nat → ClassId} {lo : Nat} (X : mm_C D dA lo cX5_compare RX5 10 p s m args c) (hr : meth.sig.returnType = (some .int)) (hlk : meth.locks = false) (n : Nat) {o : Int32 × mm_M}  : ∀ (M : mm_M) (x8 : Int32) (x9 : Int32) (H : Heap) (locs : List Loc) (ls : Array Slot), mm_I D dA lo s M H locs → lv_has ls 10 [(8, .int x8), (9, .int x9)] → pX5_compare_b80 n M x8 x9 = some o → W p l e (mm_rm 0 0 0 0) s m args below meth c H locs 0 0 (MQ below (mm_Q D dA lo (some (.int o.1)) o.2) args s 0 0 (mm_fr lo)) (F0 m 80 ls []) := by
  intro M x8 x9 H locs ls I hl h
  unfold pX5_compare_b80 at h
  refine lv_iload X.1 X.2.1 dX5_compare_80 (lv_at hl 0 rfl) ?_
  refine lv_iload X.1 X.2.1 dX5_compare_82 (lv_at hl 1 rfl) ?_
  refine mm_kne (tgt := 91) X dX5_compare_84 (by decide) h (fun h => ?_) (fun h => ?_)
  · refine lv_iload X.1 X.2.1 dX5_compare_91 (lv_at hl 0 rfl) ?_
    refine mm_jeq (tgt := 100) X dX5_compare_93 (by decide) h (fun h => ?_) (fun h => ?_)
    · refine lv_iconst (v := 1) X.1 X.2.1 dX5_compare_100 (by decide) ?_
      exact mm_xi X I hr hlk dX5_compare_101 h
    · refine lv_iconst (v := (-1)) X.1 X.2.1 dX5_compare_96 (by decide) ?_
      refine lv_goto (tgt := 101) X.1 X.2.1 dX5_compare_97 (by decide) ?_
      exact mm_xi X I hr hlk dX5_compare_101 h
  · refine lv_iconst (v := 0) X.1 X.2.1 dX5_compare_87 (by decide) ?_
    refine lv_goto (tgt := 101) X.1 X.2.1 dX5_compare_88 (by decide) ?_
    exact mm_xi X I hr hlk dX5_compare_101 h
set_option maxHeartbeats 4000000 in
set_option maxRecDepth 100000 in
theorem wpX5_compare_b119 {p : Program} {l : Launch} {e : Env} {s : State} {m : MethodId} {args : Array Value} {below : List Frame} {meth : Method} {c : Code} {D : va_G} {dA : Nat → ClassId} {lo : Nat} (X : mm_C D dA lo cX5_compare RX5 10 p s m args c) (hr : meth.sig.returnType = (some .int)) (hlk : meth.locks = false) (n : Nat) {o : Int32 × mm_M}  : ∀ (M : mm_M) (a0 : Nat) (a2 : Nat) (x6 : Int32) (x7 : Int32) (H : Heap) (locs : List Loc) (ls : Array Slot), mm_I D dA lo s M H locs → lv_has ls 10 [(0, .ref a0), (2, .ref a2), (6, .int x6), (7, .int x7)] → pX5_compare_b119 n M a0 a2 x6 x7 = some o → W p l e (mm_rm 0 0 0 0) s m args below meth c H locs 0 0 (MQ below (mm_Q D dA lo (some (.int o.1)) o.2) args s 0 0 (mm_fr lo)) (F0 m 119 ls []) := by
  intro M a0 a2 x6 x7 H locs ls I hl h
  unfold pX5_compare_b119 at h
  refine lv_aload_n X.1 X.2.1 dX5_compare_119 rfl (lv_at hl 0 rfl) ?_
  refine mm_rgr X I fl_X5_9 dX5_compare_120 h (fun v1 h => ?_)
  refine lv_iload X.1 X.2.1 dX5_compare_123 (lv_at hl 2 rfl) ?_
  refine mm_ria X I dX5_compare_125 h (fun v2 h => ?_)
  refine lv_aload_n X.1 X.2.1 dX5_compare_126 rfl (lv_at hl 1 rfl) ?_
  refine mm_rgr X I fl_X5_9 dX5_compare_127 h (fun v3 h => ?_)
  refine lv_iload X.1 X.2.1 dX5_compare_130 (lv_at hl 3 rfl) ?_
  refine mm_ria X I dX5_compare_132 h (fun v4 h => ?_)
  refine mm_kge (tgt := 140) X dX5_compare_133 (by decide) h (fun h => ?_) (fun h => ?_)
  · refine lv_iconst (v := 1) X.1 X.2.1 dX5_compare_140 (by decide) ?_
    exact mm_xi X I hr hlk dX5_compare_141 h
  · refine lv_iconst (v := (-1)) X.1 X.2.1 dX5_compare_136 (by decide) ?_
    refine lv_goto (tgt := 141) X.1 X.2.1 dX5_compare_137 (by decide) ?_
    exact mm_xi X I hr hlk dX5_compare_141 h
set_option maxHeartbeats 4000000 in
set_option maxRecDepth 100000 in
theorem wpX5_compare_b68 {p : Program} {l : Launch} {e : Env} {s : State} {m : MethodId} {args : Array Value} {below : List Frame} {meth : Method} {c : Code} {D : va_G} {dA : Nat → ClassId} {lo : Nat} (X : mm_C D dA lo cX5_compare RX5 10 p s m args c) (hr : meth.sig.returnType = (some .int)) (hlk : meth.locks = false) (n : Nat) {o : Int32 × mm_M} {K3 : mm_M → Nat → Int32 → Nat → Int32 → Int32 → Int32 → Option (Int32 × mm_M)} (k3 : ∀ (M : mm_M) (a0 : Nat) (x1 : Int32) (a2 : Nat) (x3 : Int32) (x4 : Int32) (x5 : Int32) (H : Heap) (locs : List Loc) (ls : Array Slot), mm_I D dA lo s M H locs → lv_has ls 10 [(0, .ref a0), (1, .int x1), (2, .ref a2), (3, .int x3), (4, .int x4), (5, .int x5)] → K3 M a0 x1 a2 x3 x4 x5 = some o → W p l e (mm_rm 0 0 0 0) s m args below meth c H locs 0 0 (MQ below (mm_Q D dA lo (some (.int o.1)) o.2) args s 0 0 (mm_fr lo)) (F0 m 3 ls []))  : ∀ (M : mm_M) (a0 : Nat) (x1 : Int32) (a2 : Nat) (x3 : Int32) (x4 : Int32) (x5 : Int32) (x6 : Int32) (x7 : Int32) (x8 : Int32) (s0 : Int32) (H : Heap) (locs : List Loc) (ls : Array Slot), mm_I D dA lo s M H locs → lv_has ls 10 [(0, .ref a0), (1, .int x1), (2, .ref a2), (3, .int x3), (4, .int x4), (5, .int x5), (6, .int x6), (7, .int x7), (8, .int x8)] → pX5_compare_b68 n K3 M a0 x1 a2 x3 x4 x5 x6 x7 x8 s0 = some o → W p l e (mm_rm 0 0 0 0) s m args below meth c H locs 0 0 (MQ below (mm_Q D dA lo (some (.int o.1)) o.2) args s 0 0 (mm_fr lo)) (F0 m 68 ls [.int s0]) := by
  intro M a0 x1 a2 x3 x4 x5 x6 x7 x8 s0 H locs ls I hl h
  unfold pX5_compare_b68 at h
  refine lv_istore (lv' := [(9, .int s0), (0, .ref a0), (1, .int x1), (2, .ref a2), (3, .int x3), (4, .int x4), (5, .int x5), (6, .int x6), (7, .int x7), (8, .int x8)]) X.1 X.2.1 dX5_compare_68 hl (by decide) rfl (fun ls hl => ?_)
  refine lv_iload X.1 X.2.1 dX5_compare_70 (lv_at hl 9 rfl) ?_
  refine mm_jne (tgt := 80) X dX5_compare_72 (by decide) h (fun h => ?_) (fun h => ?_)
  · exact wpX5_compare_b80 X hr hlk n  M _ _ _ _ _ I (lv_sub hl [9, 0] rfl) h
  · refine lv_iload X.1 X.2.1 dX5_compare_75 (lv_at hl 0 rfl) ?_
    refine mm_jeq (tgt := 102) X dX5_compare_77 (by decide) h (fun h => ?_) (fun h => ?_)
    · refine lv_aload_n X.1 X.2.1 dX5_compare_102 rfl (lv_at hl 1 rfl) ?_
      refine mm_rgr X I fl_X5_9 dX5_compare_103 h (fun v1 h => ?_)
      refine lv_iload X.1 X.2.1 dX5_compare_106 (lv_at hl 7 rfl) ?_
      refine mm_ria X I dX5_compare_108 h (fun v2 h => ?_)
      refine lv_aload_n X.1 X.2.1 dX5_compare_109 rfl (lv_at hl 3 rfl) ?_
      refine mm_rgr X I fl_X5_9 dX5_compare_110 h (fun v3 h => ?_)
      refine lv_iload X.1 X.2.1 dX5_compare_113 (lv_at hl 8 rfl) ?_
      refine mm_ria X I dX5_compare_115 h (fun v4 h => ?_)
      refine mm_keq (tgt := 142) X dX5_compare_116 (by decide) h (fun h => ?_) (fun h => ?_)
      · refine lv_iinc (v := (x5 + 1)) (lv' := [(5, .int (x5 + 1)), (9, .int s0), (0, .ref a0), (1, .int x1), (2, .ref a2), (3, .int x3), (4, .int x4), (6, .int x6), (7, .int x7), (8, .int x8)]) X.1 X.2.1 dX5_compare_142 hl (k := 6) rfl rfl (by decide) rfl (fun ls hl => ?_)
        refine lv_goto (tgt := 3) X.1 X.2.1 dX5_compare_145 (by decide) ?_
        exact k3 M _ _ _ _ _ _ _ _ _ I (lv_sub hl [2, 3, 4, 5, 6, 0] rfl) h
      · exact wpX5_compare_b119 X hr hlk n  M _ _ _ _ _ _ _ I (lv_sub hl [1, 3, 7, 8] rfl) h
    · exact wpX5_compare_b80 X hr hlk n  M _ _ _ _ _ I (lv_sub hl [9, 0] rfl) h
set_option maxHeartbeats 4000000 in
set_option maxRecDepth 100000 in
theorem wpX5_compare_b47 {p : Program} {l : Launch} {e : Env} {s : State} {m : MethodId} {args : Array Value} {below : List Frame} {meth : Method} {c : Code} {D : va_G} {dA : Nat → ClassId} {lo : Nat} (X : mm_C D dA lo cX5_compare RX5 10 p s m args c) (hr : meth.sig.returnType = (some .int)) (hlk : meth.locks = false) (n : Nat) {o : Int32 × mm_M} {K3 : mm_M → Nat → Int32 → Nat → Int32 → Int32 → Int32 → Option (Int32 × mm_M)} (k3 : ∀ (M : mm_M) (a0 : Nat) (x1 : Int32) (a2 : Nat) (x3 : Int32) (x4 : Int32) (x5 : Int32) (H : Heap) (locs : List Loc) (ls : Array Slot), mm_I D dA lo s M H locs → lv_has ls 10 [(0, .ref a0), (1, .int x1), (2, .ref a2), (3, .int x3), (4, .int x4), (5, .int x5)] → K3 M a0 x1 a2 x3 x4 x5 = some o → W p l e (mm_rm 0 0 0 0) s m args below meth c H locs 0 0 (MQ below (mm_Q D dA lo (some (.int o.1)) o.2) args s 0 0 (mm_fr lo)) (F0 m 3 ls []))  : ∀ (M : mm_M) (a0 : Nat) (x1 : Int32) (a2 : Nat) (x3 : Int32) (x4 : Int32) (x5 : Int32) (x6 : Int32) (x7 : Int32) (s0 : Int32) (H : Heap) (locs : List Loc) (ls : Array Slot), mm_I D dA lo s M H locs → lv_has ls 10 [(0, .ref a0), (1, .int x1), (2, .ref a2), (3, .int x3), (4, .int x4), (5, .int x5), (6, .int x6), (7, .int x7)] → pX5_compare_b47 n K3 M a0 x1 a2 x3 x4 x5 x6 x7 s0 = some o → W p l e (mm_rm 0 0 0 0) s m args below meth c H locs 0 0 (MQ below (mm_Q D dA lo (some (.int o.1)) o.2) args s 0 0 (mm_fr lo)) (F0 m 47 ls [.int s0]) := by
  intro M a0 x1 a2 x3 x4 x5 x6 x7 s0 H locs ls I hl h
  unfold pX5_compare_b47 at h
  refine lv_istore (lv' := [(8, .int s0), (0, .ref a0), (1, .int x1), (2, .ref a2), (3, .int x3), (4, .int x4), (5, .int x5), (6, .int x6), (7, .int x7)]) X.1 X.2.1 dX5_compare_47 hl (by decide) rfl (fun ls hl => ?_)
  refine lv_iload X.1 X.2.1 dX5_compare_49 (lv_at hl 8 rfl) ?_
  refine mm_jlt (tgt := 63) X dX5_compare_51 (by decide) h (fun h => ?_) (fun h => ?_)
  · refine lv_iconst (v := 1) X.1 X.2.1 dX5_compare_63 (by decide) ?_
    refine lv_goto (tgt := 68) X.1 X.2.1 dX5_compare_64 (by decide) ?_
    exact wpX5_compare_b68 X hr hlk n k3 M _ _ _ _ _ _ _ _ _ _ _ _ _ I (lv_sub hl [1, 2, 3, 4, 5, 6, 7, 8, 0] rfl) h
  · refine lv_iload X.1 X.2.1 dX5_compare_54 (lv_at hl 8 rfl) ?_
    refine lv_aload_n X.1 X.2.1 dX5_compare_56 rfl (lv_at hl 3 rfl) ?_
    refine mm_rgi X I fl_X5_15 dX5_compare_57 h (fun v1 h => ?_)
    refine mm_klt (tgt := 67) X dX5_compare_60 (by decide) h (fun h => ?_) (fun h => ?_)
    · refine lv_iconst (v := 0) X.1 X.2.1 dX5_compare_67 (by decide) ?_
      exact wpX5_compare_b68 X hr hlk n k3 M _ _ _ _ _ _ _ _ _ _ _ _ _ I (lv_sub hl [1, 2, 3, 4, 5, 6, 7, 8, 0] rfl) h
    · refine lv_iconst (v := 1) X.1 X.2.1 dX5_compare_63 (by decide) ?_
      refine lv_goto (tgt := 68) X.1 X.2.1 dX5_compare_64 (by decide) ?_
      exact wpX5_compare_b68 X hr hlk n k3 M _ _ _ _ _ _ _ _ _ _ _ _ _ I (lv_sub hl [1, 2, 3, 4, 5, 6, 7, 8, 0] rfl) h
set_option maxHeartbeats 4000000 in
set_option maxRecDepth 100000 in
theorem wpX5_compare_l3 {p : Program} {l : Launch} {e : Env} {s : State} {m : MethodId} {args : Array Value} {below : List Frame} {meth : Method} {c : Code} {D : va_G} {dA : Nat → ClassId} {lo : Nat} (X : mm_C D dA lo cX5_compare RX5 10 p s m args c) (hr : meth.sig.returnType = (some .int)) (hlk : meth.locks = false) (n : Nat) {o : Int32 × mm_M} (k : Nat) : ∀ (M : mm_M) (a0 : Nat) (x1 : Int32) (a2 : Nat) (x3 : Int32) (x4 : Int32) (x5 : Int32) (H : Heap) (locs : List Loc) (ls : Array Slot), mm_I D dA lo s M H locs → lv_has ls 10 [(0, .ref a0), (1, .int x1), (2, .ref a2), (3, .int x3), (4, .int x4), (5, .int x5)] → pX5_compare_l3 n k M a0 x1 a2 x3 x4 x5 = some o → W p l e (mm_rm 0 0 0 0) s m args below meth c H locs 0 0 (MQ below (mm_Q D dA lo (some (.int o.1)) o.2) args s 0 0 (mm_fr lo)) (F0 m 3 ls []) := by
  induction k with
  | zero =>
    intro M a0 x1 a2 x3 x4 x5 H locs ls I hl h
    have h : (none : Option (Int32 × mm_M)) = some o := h
    cases h
  | succ k ih =>
    intro M a0 x1 a2 x3 x4 x5 H locs ls I hl h
    have h : pX5_compare_l3b n (pX5_compare_l3 n k) M a0 x1 a2 x3 x4 x5 = some o := h
    unfold pX5_compare_l3b at h
    refine lv_iload X.1 X.2.1 dX5_compare_3 (lv_at hl 5 rfl) ?_
    refine lv_bipush (v := 20) X.1 X.2.1 dX5_compare_5 (by decide) ?_
    refine mm_kgt (tgt := 148) X dX5_compare_7 (by decide) h (fun h => ?_) (fun h => ?_)
    · refine lv_iconst (v := 0) X.1 X.2.1 dX5_compare_148 (by decide) ?_
      exact mm_xi X I hr hlk dX5_compare_149 h
    · refine lv_iload_n X.1 X.2.1 dX5_compare_10 rfl (lv_at hl 1 rfl) ?_
      refine lv_iload X.1 X.2.1 dX5_compare_11 (lv_at hl 5 rfl) ?_
      refine lv_iload X.1 X.2.1 dX5_compare_13 (lv_at hl 4 rfl) ?_
      refine lv_imul X.1 X.2.1 dX5_compare_15 ?_
      refine lv_iadd X.1 X.2.1 dX5_compare_16 ?_
      refine lv_istore (lv' := [(6, .int (x1 + (x5 * x4))), (0, .ref a0), (1, .int x1), (2, .ref a2), (3, .int x3), (4, .int x4), (5, .int x5)]) X.1 X.2.1 dX5_compare_17 hl (by decide) rfl (fun ls hl => ?_)
      refine lv_iload_n X.1 X.2.1 dX5_compare_19 rfl (lv_at hl 4 rfl) ?_
      refine lv_iload X.1 X.2.1 dX5_compare_20 (lv_at hl 6 rfl) ?_
      refine lv_iload X.1 X.2.1 dX5_compare_22 (lv_at hl 5 rfl) ?_
      refine lv_imul X.1 X.2.1 dX5_compare_24 ?_
      refine lv_iadd X.1 X.2.1 dX5_compare_25 ?_
      refine lv_istore (lv' := [(7, .int (x3 + (x5 * x4))), (6, .int (x1 + (x5 * x4))), (0, .ref a0), (1, .int x1), (2, .ref a2), (3, .int x3), (4, .int x4), (5, .int x5)]) X.1 X.2.1 dX5_compare_26 hl (by decide) rfl (fun ls hl => ?_)
      refine lv_iload X.1 X.2.1 dX5_compare_28 (lv_at hl 1 rfl) ?_
      refine mm_jlt (tgt := 42) X dX5_compare_30 (by decide) h (fun h => ?_) (fun h => ?_)
      · refine lv_iconst (v := 1) X.1 X.2.1 dX5_compare_42 (by decide) ?_
        refine lv_goto (tgt := 47) X.1 X.2.1 dX5_compare_43 (by decide) ?_
        exact wpX5_compare_b47 X hr hlk n ih M _ _ _ _ _ _ _ _ _ _ _ _ I (lv_sub hl [2, 3, 4, 5, 6, 7, 1, 0] rfl) h
      · refine lv_iload X.1 X.2.1 dX5_compare_33 (lv_at hl 1 rfl) ?_
        refine lv_aload_n X.1 X.2.1 dX5_compare_35 rfl (lv_at hl 2 rfl) ?_
        refine mm_rgi X I fl_X5_15 dX5_compare_36 h (fun v1 h => ?_)
        refine mm_klt (tgt := 46) X dX5_compare_39 (by decide) h (fun h => ?_) (fun h => ?_)
        · refine lv_iconst (v := 0) X.1 X.2.1 dX5_compare_46 (by decide) ?_
          exact wpX5_compare_b47 X hr hlk n ih M _ _ _ _ _ _ _ _ _ _ _ _ I (lv_sub hl [2, 3, 4, 5, 6, 7, 1, 0] rfl) h
        · refine lv_iconst (v := 1) X.1 X.2.1 dX5_compare_42 (by decide) ?_
          refine lv_goto (tgt := 47) X.1 X.2.1 dX5_compare_43 (by decide) ?_
          exact wpX5_compare_b47 X hr hlk n ih M _ _ _ _ _ _ _ _ _ _ _ _ I (lv_sub hl [2, 3, 4, 5, 6, 7, 1, 0] rfl) h
set_option maxHeartbeats 4000000 in
set_option maxRecDepth 100000 in
theorem kX5_compare {l : Launch} {D : va_G} {dA : Nat → ClassId} {lo : Nat} {n : Nat} {M : mm_M} {a0 : Nat} {x1 : Int32} {a2 : Nat} {x3 : Int32} {x4 : Int32} (o : Int32 × mm_M) (h : pX5_compare n M a0 x1 a2 x3 x4 = some o) : (∃ fs, M.2 a0 = some (mm_ob 5 fs)) ∧ mm_Met l D dA lo yX5_compare cX5_compare 10 (some .int) 0 0 0 0 [.ref a0, .int x1, .ref a2, .int x3, .int x4] M (some (.int o.1)) o.2 := by
  unfold pX5_compare at h
  obtain ⟨hob, h⟩ := mm_v_some h
  refine ⟨hob, mm_enter (by decide) (Nat.le_of_ble_eq_true rfl) (fun p e s m args below meth c ls X hr hlk hnm I hl => ?_)⟩
  have X : mm_C D dA lo cX5_compare RX5 10 p s m args c := X
  have hl : lv_has ls 10 [(0, .ref a0), (1, .int x1), (2, .ref a2), (3, .int x3), (4, .int x4)] := hl
  refine lv_iconst (v := 0) X.1 X.2.1 dX5_compare_0 (by decide) ?_
  refine lv_istore (lv' := [(5, .int 0), (0, .ref a0), (1, .int x1), (2, .ref a2), (3, .int x3), (4, .int x4)]) X.1 X.2.1 dX5_compare_1 hl (by decide) rfl (fun ls hl => ?_)
  exact wpX5_compare_l3 X hr hlk n  n M _ _ _ _ _ _ _ _ _ I (lv_sub hl [1, 2, 3, 4, 5, 0] rfl) h
set_option maxHeartbeats 4000000 in
set_option maxRecDepth 100000 in
theorem wpX2_compare_b63 {p : Program} {l : Launch} {e : Env} {s : State} {m : MethodId} {args : Array Value} {below : List Frame} {meth : Method} {c : Code} {D : va_G} {dA : Nat → ClassId} {lo : Nat} (X : mm_C D dA lo cX2_compare RX2 6 p s m args c) (hr : meth.sig.returnType = (some .int)) (hlk : meth.locks = false) (n : Nat) {o : Int32 × mm_M}  : ∀ (M : mm_M) (x1 : Int32) (x3 : Int32) (x5 : Int32) (H : Heap) (locs : List Loc) (ls : Array Slot), mm_I D dA lo s M H locs → lv_has ls 6 [(1, .int x1), (3, .int x3), (5, .int x5)] → pX2_compare_b63 n M x1 x3 x5 = some o → W p l e (mm_rm 1 29 0 0) s m args below meth c H locs 0 0 (MQ below (mm_Q D dA lo (some (.int o.1)) o.2) args s 0 0 (mm_fr lo)) (F0 m 63 ls []) := by
  intro M x1 x3 x5 H locs ls I hl h
  unfold pX2_compare_b63 at h
  refine lv_iload X.1 X.2.1 dX2_compare_63 (lv_at hl 2 rfl) ?_
  refine mm_jne (tgt := 74) X dX2_compare_65 (by decide) h (fun h => ?_) (fun h => ?_)
  · refine lv_iload X.1 X.2.1 dX2_compare_74 (lv_at hl 2 rfl) ?_
    exact mm_xi X I hr hlk dX2_compare_76 h
  · refine lv_iload_n X.1 X.2.1 dX2_compare_68 rfl (lv_at hl 0 rfl) ?_
    refine lv_iload_n X.1 X.2.1 dX2_compare_69 rfl (lv_at hl 1 rfl) ?_
    refine lv_isub X.1 X.2.1 dX2_compare_70 ?_
    refine lv_goto (tgt := 76) X.1 X.2.1 dX2_compare_71 (by decide) ?_
    exact mm_xi X I hr hlk dX2_compare_76 h
set_option maxHeartbeats 4000000 in
set_option maxRecDepth 100000 in
theorem wpX2_compare_b47 {p : Program} {l : Launch} {e : Env} {s : State} {m : MethodId} {args : Array Value} {below : List Frame} {meth : Method} {c : Code} {D : va_G} {dA : Nat → ClassId} {lo : Nat} (X : mm_C D dA lo cX2_compare RX2 6 p s m args c) (hr : meth.sig.returnType = (some .int)) (hlk : meth.locks = false) (n : Nat) {o : Int32 × mm_M}  : ∀ (M : mm_M) (a0 : Nat) (x1 : Int32) (a2 : Nat) (x3 : Int32) (x5 : Int32) (H : Heap) (locs : List Loc) (ls : Array Slot), mm_I D dA lo s M H locs → lv_has ls 6 [(0, .ref a0), (1, .int x1), (2, .ref a2), (3, .int x3), (5, .int x5)] → pX2_compare_b47 n M a0 x1 a2 x3 x5 = some o → W p l e (mm_rm 1 29 0 0) s m args below meth c H locs 0 0 (MQ below (mm_Q D dA lo (some (.int o.1)) o.2) args s 0 0 (mm_fr lo)) (F0 m 47 ls []) := by
  intro M a0 x1 a2 x3 x5 H locs ls I hl h
  unfold pX2_compare_b47 at h
  refine lv_iload X.1 X.2.1 dX2_compare_47 (lv_at hl 4 rfl) ?_
  refine mm_jne (tgt := 63) X dX2_compare_49 (by decide) h (fun h => ?_) (fun h => ?_)
  · exact wpX2_compare_b63 X hr hlk n  M _ _ _ _ _ _ I (lv_sub hl [1, 3, 4] rfl) h
  · refine lv_aload_n X.1 X.2.1 dX2_compare_52 rfl (lv_at hl 0 rfl) ?_
    refine mm_rgi X I fl_X2_20 dX2_compare_53 h (fun v1 h => ?_)
    refine lv_aload_n X.1 X.2.1 dX2_compare_56 rfl (lv_at hl 2 rfl) ?_
    refine mm_rgi X I fl_X2_20 dX2_compare_57 h (fun v2 h => ?_)
    refine lv_isub X.1 X.2.1 dX2_compare_60 ?_
    refine lv_istore (lv' := [(5, .int (v1 - v2)), (0, .ref a0), (1, .int x1), (2, .ref a2), (3, .int x3)]) X.1 X.2.1 dX2_compare_61 hl (by decide) rfl (fun ls hl => ?_)
    exact wpX2_compare_b63 X hr hlk n  M _ _ _ _ _ _ I (lv_sub hl [2, 4, 0] rfl) h
set_option maxHeartbeats 4000000 in
set_option maxRecDepth 100000 in
theorem kX2_compare {l : Launch} {D : va_G} {dA : Nat → ClassId} {lo : Nat} {n : Nat} {M : mm_M} {a0 : Nat} {x1 : Int32} {a2 : Nat} {x3 : Int32} {x4 : Int32} (o : Int32 × mm_M) (h : pX2_compare n M a0 x1 a2 x3 x4 = some o) : (∃ fs, M.2 a0 = some (mm_ob 2 fs)) ∧ mm_Met l D dA lo yX2_compare cX2_compare 6 (some .int) 1 29 0 0 [.ref a0, .int x1, .ref a2, .int x3, .int x4] M (some (.int o.1)) o.2 := by
  unfold pX2_compare at h
  obtain ⟨hob, h⟩ := mm_v_some h
  refine ⟨hob, mm_enter (by decide) (Nat.le_of_ble_eq_true rfl) (fun p e s m args below meth c ls X hr hlk hnm I hl => ?_)⟩
  have X : mm_C D dA lo cX2_compare RX2 6 p s m args c := X
  have hl : lv_has ls 6 [(0, .ref a0), (1, .int x1), (2, .ref a2), (3, .int x3), (4, .int x4)] := hl
  refine lv_aload_n X.1 X.2.1 dX2_compare_0 rfl (lv_at hl 0 rfl) ?_
  refine mm_rgr X I fl_X2_10 dX2_compare_1 h (fun v1 h => ?_)
  refine lv_iload_n X.1 X.2.1 dX2_compare_4 rfl (lv_at hl 1 rfl) ?_
  refine lv_iload X.1 X.2.1 dX2_compare_5 (lv_at hl 4 rfl) ?_
  refine lv_iadd X.1 X.2.1 dX2_compare_7 ?_
  refine lv_aload_n X.1 X.2.1 dX2_compare_8 rfl (lv_at hl 2 rfl) ?_
  refine mm_rgr X I fl_X2_10 dX2_compare_9 h (fun v2 h => ?_)
  refine lv_iload_n X.1 X.2.1 dX2_compare_12 rfl (lv_at hl 3 rfl) ?_
  refine lv_iload X.1 X.2.1 dX2_compare_13 (lv_at hl 4 rfl) ?_
  refine lv_iadd X.1 X.2.1 dX2_compare_15 ?_
  refine lv_iconst (v := 1) X.1 X.2.1 dX2_compare_16 (by decide) ?_
  refine mm_cVi X I hl (As := [.int (x1 + x4), .ref v2, .int (x3 + x4), .int 1]) (ci := 5) md_X5_compare mv_X5_compare ml_X2_24 rfl (kX5_compare (n := n)) (by decide) ⟨Nat.le_refl 0, Nat.le_refl 0⟩ rfl rfl (Nat.le_of_ble_eq_true rfl) dX2_compare_17 h (fun v3 M H locs I h => ?_)
  refine lv_istore (lv' := [(5, .int v3), (0, .ref a0), (1, .int x1), (2, .ref a2), (3, .int x3), (4, .int x4)]) X.1 X.2.1 dX2_compare_20 hl (by decide) rfl (fun ls hl => ?_)
  refine lv_iload X.1 X.2.1 dX2_compare_22 (lv_at hl 0 rfl) ?_
  refine mm_jne (tgt := 47) X dX2_compare_24 (by decide) h (fun h => ?_) (fun h => ?_)
  · exact wpX2_compare_b47 X hr hlk n  M _ _ _ _ _ _ _ _ I (lv_sub hl [1, 2, 3, 4, 0] rfl) h
  · refine lv_aload_n X.1 X.2.1 dX2_compare_27 rfl (lv_at hl 1 rfl) ?_
    refine mm_rgr X I fl_X2_10 dX2_compare_28 h (fun v4 h => ?_)
    refine lv_iload_n X.1 X.2.1 dX2_compare_31 rfl (lv_at hl 2 rfl) ?_
    refine lv_iconst (v := 1) X.1 X.2.1 dX2_compare_32 (by decide) ?_
    refine lv_isub X.1 X.2.1 dX2_compare_33 ?_
    refine lv_aload_n X.1 X.2.1 dX2_compare_34 rfl (lv_at hl 3 rfl) ?_
    refine mm_rgr X I fl_X2_10 dX2_compare_35 h (fun v5 h => ?_)
    refine lv_iload_n X.1 X.2.1 dX2_compare_38 rfl (lv_at hl 4 rfl) ?_
    refine lv_iconst (v := 1) X.1 X.2.1 dX2_compare_39 (by decide) ?_
    refine lv_isub X.1 X.2.1 dX2_compare_40 ?_
    refine lv_iconst (v := (-1)) X.1 X.2.1 dX2_compare_41 (by decide) ?_
    refine mm_cVi X I hl (As := [.int (x1 - 1), .ref v5, .int (x3 - 1), .int (-1)]) (ci := 5) md_X5_compare mv_X5_compare ml_X2_24 rfl (kX5_compare (n := n)) (by decide) ⟨Nat.le_refl 0, Nat.le_refl 0⟩ rfl rfl (Nat.le_of_ble_eq_true rfl) dX2_compare_42 h (fun v6 M H locs I h => ?_)
    refine lv_istore (lv' := [(5, .int v6), (0, .ref a0), (1, .int x1), (2, .ref a2), (3, .int x3), (4, .int x4)]) X.1 X.2.1 dX2_compare_45 hl (by decide) rfl (fun ls hl => ?_)
    exact wpX2_compare_b47 X hr hlk n  M _ _ _ _ _ _ _ _ I (lv_sub hl [1, 2, 3, 4, 0] rfl) h
set_option maxHeartbeats 4000000 in
set_option maxRecDepth 100000 in
theorem kX0_isAhead {l : Launch} {D : va_G} {dA : Nat → ClassId} {lo : Nat} {n : Nat} {M : mm_M} {a0 : Nat} {a1 : Nat} {x2 : Int32} (o : Int32 × mm_M) (h : pX0_isAhead n M a0 a1 x2 = some o) : (∃ fs, M.2 a0 = some (mm_ob 0 fs)) ∧ mm_Met l D dA lo yX0_isAhead cX0_isAhead 3 (some .boolean) 2 54 0 0 [.ref a0, .ref a1, .int x2] M (some (.int o.1)) o.2 := by
  unfold pX0_isAhead at h
  obtain ⟨hob, h⟩ := mm_v_some h
  refine ⟨hob, mm_enter (by decide) (Nat.le_of_ble_eq_true rfl) (fun p e s m args below meth c ls X hr hlk hnm I hl => ?_)⟩
  have X : mm_C D dA lo cX0_isAhead RX0 3 p s m args c := X
  have hl : lv_has ls 3 [(0, .ref a0), (1, .ref a1), (2, .int x2)] := hl
  refine lv_aload_n X.1 X.2.1 dX0_isAhead_0 rfl (lv_at hl 1 rfl) ?_
  refine mm_rgr X I fl_X0_62 dX0_isAhead_1 h (fun v1 h => ?_)
  refine lv_aload_n X.1 X.2.1 dX0_isAhead_4 rfl (lv_at hl 0 rfl) ?_
  refine mm_rgr X I fl_X0_12 dX0_isAhead_5 h (fun v2 h => ?_)
  refine lv_iload_n X.1 X.2.1 dX0_isAhead_8 rfl (lv_at hl 2 rfl) ?_
  refine mm_cVi X I hl (As := [.ref v2, .int x2]) (ci := 5) md_X5_has mv_X5_has ml_X0_68 rfl (kX5_has (n := n)) (by decide) ⟨Nat.le_refl 0, Nat.le_refl 0⟩ rfl rfl (Nat.le_of_ble_eq_true rfl) dX0_isAhead_9 h (fun v3 M H locs I h => ?_)
  refine mm_jeq (tgt := 49) X dX0_isAhead_12 (by decide) h (fun h => ?_) (fun h => ?_)
  · refine lv_iconst (v := 0) X.1 X.2.1 dX0_isAhead_49 (by decide) ?_
    exact mm_xz0 X I hr hlk dX0_isAhead_50 h
  · refine lv_aload_n X.1 X.2.1 dX0_isAhead_15 rfl (lv_at hl 0 rfl) ?_
    refine mm_rgi X I fl_X0_40 dX0_isAhead_16 h (fun v4 h => ?_)
    refine mm_jeq (tgt := 45) X dX0_isAhead_19 (by decide) h (fun h => ?_) (fun h => ?_)
    · refine lv_iconst (v := 1) X.1 X.2.1 dX0_isAhead_45 (by decide) ?_
      refine lv_goto (tgt := 50) X.1 X.2.1 dX0_isAhead_46 (by decide) ?_
      exact mm_xz1 X I hr hlk dX0_isAhead_50 h
    · refine lv_aload_n X.1 X.2.1 dX0_isAhead_22 rfl (lv_at hl 1 rfl) ?_
      refine lv_iload_n X.1 X.2.1 dX0_isAhead_23 rfl (lv_at hl 2 rfl) ?_
      refine lv_aload_n X.1 X.2.1 dX0_isAhead_24 rfl (lv_at hl 0 rfl) ?_
      refine mm_rgr X I fl_X0_21 dX0_isAhead_25 h (fun v5 h => ?_)
      refine lv_aload_n X.1 X.2.1 dX0_isAhead_28 rfl (lv_at hl 0 rfl) ?_
      refine mm_rgi X I fl_X0_47 dX0_isAhead_29 h (fun v6 h => ?_)
      refine lv_aload_n X.1 X.2.1 dX0_isAhead_32 rfl (lv_at hl 0 rfl) ?_
      refine mm_rgr X I fl_X0_12 dX0_isAhead_33 h (fun v7 h => ?_)
      refine mm_rgi X I fl_X0_72 dX0_isAhead_36 h (fun v8 h => ?_)
      refine mm_cVi X I hl (As := [.int x2, .ref v5, .int v6, .int v8]) (ci := 2) md_X2_compare mv_X2_compare ml_X0_73 rfl (kX2_compare (n := n)) (by decide) ⟨Nat.le_refl 0, Nat.le_refl 0⟩ rfl rfl (Nat.le_of_ble_eq_true rfl) dX0_isAhead_39 h (fun v9 M H locs I h => ?_)
      refine mm_jle (tgt := 49) X dX0_isAhead_42 (by decide) h (fun h => ?_) (fun h => ?_)
      · refine lv_iconst (v := 0) X.1 X.2.1 dX0_isAhead_49 (by decide) ?_
        exact mm_xz0 X I hr hlk dX0_isAhead_50 h
      · refine lv_iconst (v := 1) X.1 X.2.1 dX0_isAhead_45 (by decide) ?_
        refine lv_goto (tgt := 50) X.1 X.2.1 dX0_isAhead_46 (by decide) ?_
        exact mm_xz1 X I hr hlk dX0_isAhead_50 h
set_option maxHeartbeats 4000000 in
set_option maxRecDepth 100000 in
theorem kX1_copyFrom {l : Launch} {D : va_G} {dA : Nat → ClassId} {lo : Nat} {n : Nat} {M : mm_M} {a0 : Nat} {a1 : Nat} (o : mm_M) (h : pX1_copyFrom n M a0 a1 = some o) : (∃ fs, M.2 a0 = some (mm_ob 1 fs)) ∧ mm_Met l D dA lo yX1_copyFrom cX1_copyFrom 2 none 1 40 0 0 [.ref a0, .ref a1] M none o := by
  unfold pX1_copyFrom at h
  obtain ⟨hob, h⟩ := mm_v_some h
  refine ⟨hob, mm_enter (by decide) (Nat.le_of_ble_eq_true rfl) (fun p e s m args below meth c ls X hr hlk hnm I hl => ?_)⟩
  have X : mm_C D dA lo cX1_copyFrom RX1 2 p s m args c := X
  have hl : lv_has ls 2 [(0, .ref a0), (1, .ref a1)] := hl
  refine lv_aload_n X.1 X.2.1 dX1_copyFrom_0 rfl (lv_at hl 1 rfl) ?_
  refine mm_rgr X I fl_X1_9 dX1_copyFrom_1 h (fun v1 h => ?_)
  refine lv_iconst (v := 0) X.1 X.2.1 dX1_copyFrom_4 (by decide) ?_
  refine lv_aload_n X.1 X.2.1 dX1_copyFrom_5 rfl (lv_at hl 0 rfl) ?_
  refine mm_rgr X I fl_X1_9 dX1_copyFrom_6 h (fun v2 h => ?_)
  refine lv_iconst (v := 0) X.1 X.2.1 dX1_copyFrom_9 (by decide) ?_
  refine lv_bipush (v := 60) X.1 X.2.1 dX1_copyFrom_10 (by decide) ?_
  refine mm_rcp X I hl ml_X1_21 (by decide) (Nat.le_of_ble_eq_true rfl) dX1_copyFrom_12 h (fun M H locs I h => ?_)
  refine lv_aload_n X.1 X.2.1 dX1_copyFrom_15 rfl (lv_at hl 1 rfl) ?_
  refine mm_rgr X I fl_X1_15 dX1_copyFrom_16 h (fun v3 h => ?_)
  refine lv_iconst (v := 0) X.1 X.2.1 dX1_copyFrom_19 (by decide) ?_
  refine lv_aload_n X.1 X.2.1 dX1_copyFrom_20 rfl (lv_at hl 0 rfl) ?_
  refine mm_rgr X I fl_X1_15 dX1_copyFrom_21 h (fun v4 h => ?_)
  refine lv_iconst (v := 0) X.1 X.2.1 dX1_copyFrom_24 (by decide) ?_
  refine lv_bipush (v := 60) X.1 X.2.1 dX1_copyFrom_25 (by decide) ?_
  refine mm_rcp X I hl ml_X1_21 (by decide) (Nat.le_of_ble_eq_true rfl) dX1_copyFrom_27 h (fun M H locs I h => ?_)
  refine lv_aload_n X.1 X.2.1 dX1_copyFrom_30 rfl (lv_at hl 1 rfl) ?_
  refine mm_rgr X I fl_X1_18 dX1_copyFrom_31 h (fun v5 h => ?_)
  refine lv_iconst (v := 0) X.1 X.2.1 dX1_copyFrom_34 (by decide) ?_
  refine lv_aload_n X.1 X.2.1 dX1_copyFrom_35 rfl (lv_at hl 0 rfl) ?_
  refine mm_rgr X I fl_X1_18 dX1_copyFrom_36 h (fun v6 h => ?_)
  refine lv_iconst (v := 0) X.1 X.2.1 dX1_copyFrom_39 (by decide) ?_
  refine lv_bipush (v := 60) X.1 X.2.1 dX1_copyFrom_40 (by decide) ?_
  refine mm_rcp X I hl ml_X1_21 (by decide) (Nat.le_of_ble_eq_true rfl) dX1_copyFrom_42 h (fun M H locs I h => ?_)
  refine lv_aload_n X.1 X.2.1 dX1_copyFrom_45 rfl (lv_at hl 0 rfl) ?_
  refine lv_aload_n X.1 X.2.1 dX1_copyFrom_46 rfl (lv_at hl 1 rfl) ?_
  refine mm_rgi X I fl_X1_27 dX1_copyFrom_47 h (fun v7 h => ?_)
  refine mm_rpi X I fl_X1_27 dX1_copyFrom_50 h (fun M H locs I h => ?_)
  exact mm_xv X I hr hlk dX1_copyFrom_53 h
set_option maxHeartbeats 4000000 in
set_option maxRecDepth 100000 in
theorem kX1_size {l : Launch} {D : va_G} {dA : Nat → ClassId} {lo : Nat} {n : Nat} {M : mm_M} {a0 : Nat} (o : Int32 × mm_M) (h : pX1_size n M a0 = some o) : (∃ fs, M.2 a0 = some (mm_ob 1 fs)) ∧ mm_Met l D dA lo yX1_size cX1_size 1 (some .int) 1 30 0 0 [.ref a0] M (some (.int o.1)) o.2 := by
  unfold pX1_size at h
  obtain ⟨hob, h⟩ := mm_v_some h
  refine ⟨hob, mm_enter (by decide) (Nat.le_of_ble_eq_true rfl) (fun p e s m args below meth c ls X hr hlk hnm I hl => ?_)⟩
  have X : mm_C D dA lo cX1_size RX1 1 p s m args c := X
  have hl : lv_has ls 1 [(0, .ref a0)] := hl
  refine lv_bipush (v := 60) X.1 X.2.1 dX1_size_0 (by decide) ?_
  refine lv_aload_n X.1 X.2.1 dX1_size_2 rfl (lv_at hl 0 rfl) ?_
  refine mm_rgi X I fl_X1_27 dX1_size_3 h (fun v1 h => ?_)
  refine mm_rmin X hl ml_X1_31 (by decide) (Nat.le_of_ble_eq_true rfl) (by decide) (by decide) dX1_size_6 ?_
  exact mm_xi X I hr hlk dX1_size_9 h
set_option maxHeartbeats 4000000 in
set_option maxRecDepth 100000 in
theorem kX1_add {l : Launch} {D : va_G} {dA : Nat → ClassId} {lo : Nat} {n : Nat} {M : mm_M} {a0 : Nat} {x1 : Int32} {x2 : Int32} {x3 : Int32} (o : mm_M) (h : pX1_add n M a0 x1 x2 x3 = some o) : (∃ fs, M.2 a0 = some (mm_ob 1 fs)) ∧ mm_Met l D dA lo yX1_add cX1_add 5 none 0 0 0 0 [.ref a0, .int x1, .int x2, .int x3] M none o := by
  unfold pX1_add at h
  obtain ⟨hob, h⟩ := mm_v_some h
  refine ⟨hob, mm_enter (by decide) (Nat.le_of_ble_eq_true rfl) (fun p e s m args below meth c ls X hr hlk hnm I hl => ?_)⟩
  have X : mm_C D dA lo cX1_add RX1 5 p s m args c := X
  have hl : lv_has ls 5 [(0, .ref a0), (1, .int x1), (2, .int x2), (3, .int x3)] := hl
  refine lv_aload_n X.1 X.2.1 dX1_add_0 rfl (lv_at hl 0 rfl) ?_
  refine mm_rgi X I fl_X1_27 dX1_add_1 h (fun v1 h => ?_)
  refine lv_bipush (v := 60) X.1 X.2.1 dX1_add_4 (by decide) ?_
  refine mm_rrem X dX1_add_6 h (fun h => ?_)
  refine lv_istore (lv' := [(4, .int (v1 - v1 / 60 * 60)), (0, .ref a0), (1, .int x1), (2, .int x2), (3, .int x3)]) X.1 X.2.1 dX1_add_7 hl (by decide) rfl (fun ls hl => ?_)
  refine lv_aload_n X.1 X.2.1 dX1_add_9 rfl (lv_at hl 1 rfl) ?_
  refine mm_rgr X I fl_X1_9 dX1_add_10 h (fun v2 h => ?_)
  refine lv_iload X.1 X.2.1 dX1_add_13 (lv_at hl 0 rfl) ?_
  refine lv_iload_n X.1 X.2.1 dX1_add_15 rfl (lv_at hl 2 rfl) ?_
  refine mm_ris X I dX1_add_16 h (fun M H locs I h => ?_)
  refine lv_aload_n X.1 X.2.1 dX1_add_17 rfl (lv_at hl 1 rfl) ?_
  refine mm_rgr X I fl_X1_15 dX1_add_18 h (fun v3 h => ?_)
  refine lv_iload X.1 X.2.1 dX1_add_21 (lv_at hl 0 rfl) ?_
  refine lv_iload_n X.1 X.2.1 dX1_add_23 rfl (lv_at hl 3 rfl) ?_
  refine mm_ris X I dX1_add_24 h (fun M H locs I h => ?_)
  refine lv_aload_n X.1 X.2.1 dX1_add_25 rfl (lv_at hl 1 rfl) ?_
  refine mm_rgr X I fl_X1_18 dX1_add_26 h (fun v4 h => ?_)
  refine lv_iload X.1 X.2.1 dX1_add_29 (lv_at hl 0 rfl) ?_
  refine lv_iload_n X.1 X.2.1 dX1_add_31 rfl (lv_at hl 4 rfl) ?_
  refine mm_ris X I dX1_add_32 h (fun M H locs I h => ?_)
  refine lv_aload_n X.1 X.2.1 dX1_add_33 rfl (lv_at hl 1 rfl) ?_
  refine lv_aload_n X.1 X.2.1 dX1_add_34 rfl (lv_at hl 1 rfl) ?_
  refine mm_rgi X I fl_X1_27 dX1_add_35 h (fun v5 h => ?_)
  refine lv_iconst (v := 1) X.1 X.2.1 dX1_add_38 (by decide) ?_
  refine lv_iadd X.1 X.2.1 dX1_add_39 ?_
  refine lv_bipush (v := 120) X.1 X.2.1 dX1_add_40 (by decide) ?_
  refine mm_kne (tgt := 50) X dX1_add_42 (by decide) h (fun h => ?_) (fun h => ?_)
  · refine lv_aload_n X.1 X.2.1 dX1_add_50 rfl (lv_at hl 1 rfl) ?_
    refine mm_rgi X I fl_X1_27 dX1_add_51 h (fun v6 h => ?_)
    refine lv_iconst (v := 1) X.1 X.2.1 dX1_add_54 (by decide) ?_
    refine lv_iadd X.1 X.2.1 dX1_add_55 ?_
    refine mm_rpi X I fl_X1_27 dX1_add_56 h (fun M H locs I h => ?_)
    exact mm_xv X I hr hlk dX1_add_59 h
  · refine lv_bipush (v := 60) X.1 X.2.1 dX1_add_45 (by decide) ?_
    refine lv_goto (tgt := 56) X.1 X.2.1 dX1_add_47 (by decide) ?_
    refine mm_rpi X I fl_X1_27 dX1_add_56 h (fun M H locs I h => ?_)
    exact mm_xv X I hr hlk dX1_add_59 h
set_option maxHeartbeats 4000000 in
set_option maxRecDepth 100000 in
theorem kX1_entry {l : Launch} {D : va_G} {dA : Nat → ClassId} {lo : Nat} {n : Nat} {M : mm_M} {a0 : Nat} {x1 : Int32} {x2 : Int32} (o : Int32 × mm_M) (h : pX1_entry n M a0 x1 x2 = some o) : (∃ fs, M.2 a0 = some (mm_ob 1 fs)) ∧ mm_Met l D dA lo yX1_entry cX1_entry 4 (some .int) 2 50 0 0 [.ref a0, .int x1, .int x2] M (some (.int o.1)) o.2 := by
  unfold pX1_entry at h
  obtain ⟨hob, h⟩ := mm_v_some h
  refine ⟨hob, mm_enter (by decide) (Nat.le_of_ble_eq_true rfl) (fun p e s m args below meth c ls X hr hlk hnm I hl => ?_)⟩
  have X : mm_C D dA lo cX1_entry RX1 4 p s m args c := X
  have hl : lv_has ls 4 [(0, .ref a0), (1, .int x1), (2, .int x2)] := hl
  refine lv_iload_n X.1 X.2.1 dX1_entry_0 rfl (lv_at hl 1 rfl) ?_
  refine mm_jlt (tgt := 12) X dX1_entry_1 (by decide) h (fun h => ?_) (fun h => ?_)
  · refine lv_ldc (v := (-1000000)) X.1 X.2.1 X.2.2.2.1 (X.2.2.2.2.1 _ cn_X1_41) dX1_entry_12 ?_
    exact mm_xi X I hr hlk dX1_entry_14 h
  · refine lv_iload_n X.1 X.2.1 dX1_entry_4 rfl (lv_at hl 1 rfl) ?_
    refine lv_aload_n X.1 X.2.1 dX1_entry_5 rfl (lv_at hl 0 rfl) ?_
    refine mm_cVi X I hl (As := []) (ci := 1) md_X1_size mv_X1_size ml_X1_37 rfl (kX1_size (n := n)) (by decide) ⟨Nat.le_refl 0, Nat.le_refl 0⟩ rfl rfl (Nat.le_of_ble_eq_true rfl) dX1_entry_6 h (fun v1 M H locs I h => ?_)
    refine mm_klt (tgt := 15) X dX1_entry_9 (by decide) h (fun h => ?_) (fun h => ?_)
    · refine lv_aload_n X.1 X.2.1 dX1_entry_15 rfl (lv_at hl 0 rfl) ?_
      refine mm_rgi X I fl_X1_27 dX1_entry_16 h (fun v2 h => ?_)
      refine lv_iconst (v := 1) X.1 X.2.1 dX1_entry_19 (by decide) ?_
      refine lv_isub X.1 X.2.1 dX1_entry_20 ?_
      refine lv_iload_n X.1 X.2.1 dX1_entry_21 rfl (lv_at hl 1 rfl) ?_
      refine lv_isub X.1 X.2.1 dX1_entry_22 ?_
      refine lv_bipush (v := 60) X.1 X.2.1 dX1_entry_23 (by decide) ?_
      refine mm_rrem X dX1_entry_25 h (fun h => ?_)
      refine lv_istore_n (lv' := [(3, .int (((v2 - 1) - x1) - ((v2 - 1) - x1) / 60 * 60)), (0, .ref a0), (1, .int x1), (2, .int x2)]) X.1 X.2.1 dX1_entry_26 rfl hl (by decide) rfl (fun ls hl => ?_)
      refine lv_iload_n X.1 X.2.1 dX1_entry_27 rfl (lv_at hl 3 rfl) ?_
      by_cases z3_0 : x2 = 0
      · have h := mm_t z3_0 h
        refine lv_tableIn (tgt := 56) (off := 28) X.1 X.2.1 dX1_entry_28 (by rw [z3_0]; decide) (by rw [z3_0]; decide) (by rw [z3_0]; rfl) (by decide) ?_
        refine lv_aload_n X.1 X.2.1 dX1_entry_56 rfl (lv_at hl 1 rfl) ?_
        refine mm_rgr X I fl_X1_9 dX1_entry_57 h (fun v4 h => ?_)
        refine lv_iload_n X.1 X.2.1 dX1_entry_60 rfl (lv_at hl 0 rfl) ?_
        refine mm_ria X I dX1_entry_61 h (fun v5 h => ?_)
        exact mm_xi X I hr hlk dX1_entry_62 h
      · have h := mm_f z3_0 h
        by_cases z3_1 : x2 = 1
        · have h := mm_t z3_1 h
          refine lv_tableIn (tgt := 63) (off := 35) X.1 X.2.1 dX1_entry_28 (by rw [z3_1]; decide) (by rw [z3_1]; decide) (by rw [z3_1]; rfl) (by decide) ?_
          refine lv_aload_n X.1 X.2.1 dX1_entry_63 rfl (lv_at hl 1 rfl) ?_
          refine mm_rgr X I fl_X1_15 dX1_entry_64 h (fun v6 h => ?_)
          refine lv_iload_n X.1 X.2.1 dX1_entry_67 rfl (lv_at hl 0 rfl) ?_
          refine mm_ria X I dX1_entry_68 h (fun v7 h => ?_)
          exact mm_xi X I hr hlk dX1_entry_69 h
        · have h := mm_f z3_1 h
          by_cases z3_2 : x2 = 2
          · have h := mm_t z3_2 h
            refine lv_tableIn (tgt := 70) (off := 42) X.1 X.2.1 dX1_entry_28 (by rw [z3_2]; decide) (by rw [z3_2]; decide) (by rw [z3_2]; rfl) (by decide) ?_
            refine lv_aload_n X.1 X.2.1 dX1_entry_70 rfl (lv_at hl 1 rfl) ?_
            refine mm_rgr X I fl_X1_18 dX1_entry_71 h (fun v8 h => ?_)
            refine lv_iload_n X.1 X.2.1 dX1_entry_74 rfl (lv_at hl 0 rfl) ?_
            refine mm_ria X I dX1_entry_75 h (fun v9 h => ?_)
            exact mm_xi X I hr hlk dX1_entry_76 h
          · have h := mm_f z3_2 h
            have z3_q0 : ¬ Int32.toInt x2 = 0 := fun q => z3_0 (Int32.toInt_inj.mp q)
            have z3_q1 : ¬ Int32.toInt x2 = 1 := fun q => z3_1 (Int32.toInt_inj.mp q)
            have z3_q2 : ¬ Int32.toInt x2 = 2 := fun q => z3_2 (Int32.toInt_inj.mp q)
            refine mm_tdef (tgt := 77) X dX1_entry_28 (by decide) (fun i hi hq => ?_) (by decide) ?_
            · rcases (show i = 0 ∨ i = 1 ∨ i = 2 by simp at hi; omega) with rfl | rfl | rfl
              · exact absurd hq (by omega)
              · exact absurd hq (by omega)
              · exact absurd hq (by omega)
            · refine lv_ldc (v := (-1000000)) X.1 X.2.1 X.2.2.2.1 (X.2.2.2.2.1 _ cn_X1_41) dX1_entry_77 ?_
              exact mm_xi X I hr hlk dX1_entry_79 h
    · refine lv_ldc (v := (-1000000)) X.1 X.2.1 X.2.2.2.1 (X.2.2.2.2.1 _ cn_X1_41) dX1_entry_12 ?_
      exact mm_xi X I hr hlk dX1_entry_14 h
set_option maxHeartbeats 4000000 in
set_option maxRecDepth 100000 in
theorem kX3_lineOf {l : Launch} {D : va_G} {dA : Nat → ClassId} {lo : Nat} {n : Nat} {M : mm_M} {a0 : Nat} {x1 : Int32} (o : Int32 × mm_M) (h : pX3_lineOf n M a0 x1 = some o) : (∃ fs, M.2 a0 = some (mm_ob 3 fs)) ∧ mm_Met l D dA lo yX3_lineOf cX3_lineOf 2 (some .int) 0 0 0 0 [.ref a0, .int x1] M (some (.int o.1)) o.2 := by
  unfold pX3_lineOf at h
  obtain ⟨hob, h⟩ := mm_v_some h
  refine ⟨hob, mm_enter (by decide) (Nat.le_of_ble_eq_true rfl) (fun p e s m args below meth c ls X hr hlk hnm I hl => ?_)⟩
  have X : mm_C D dA lo cX3_lineOf RX3 2 p s m args c := X
  have hl : lv_has ls 2 [(0, .ref a0), (1, .int x1)] := hl
  refine lv_aload_n X.1 X.2.1 dX3_lineOf_0 rfl (lv_at hl 0 rfl) ?_
  refine mm_rgr X I fl_X3_9 dX3_lineOf_1 h (fun v1 h => ?_)
  refine lv_iload_n X.1 X.2.1 dX3_lineOf_4 rfl (lv_at hl 1 rfl) ?_
  refine mm_ria X I dX3_lineOf_5 h (fun v2 h => ?_)
  refine lv_bipush (v := 20) X.1 X.2.1 dX3_lineOf_6 (by decide) ?_
  refine mm_rdiv X dX3_lineOf_8 h (fun h => ?_)
  exact mm_xi X I hr hlk dX3_lineOf_9 h
set_option maxHeartbeats 4000000 in
set_option maxRecDepth 100000 in
theorem kX3_placeOf {l : Launch} {D : va_G} {dA : Nat → ClassId} {lo : Nat} {n : Nat} {M : mm_M} {a0 : Nat} {x1 : Int32} (o : Int32 × mm_M) (h : pX3_placeOf n M a0 x1 = some o) : (∃ fs, M.2 a0 = some (mm_ob 3 fs)) ∧ mm_Met l D dA lo yX3_placeOf cX3_placeOf 2 (some .int) 0 0 0 0 [.ref a0, .int x1] M (some (.int o.1)) o.2 := by
  unfold pX3_placeOf at h
  obtain ⟨hob, h⟩ := mm_v_some h
  refine ⟨hob, mm_enter (by decide) (Nat.le_of_ble_eq_true rfl) (fun p e s m args below meth c ls X hr hlk hnm I hl => ?_)⟩
  have X : mm_C D dA lo cX3_placeOf RX3 2 p s m args c := X
  have hl : lv_has ls 2 [(0, .ref a0), (1, .int x1)] := hl
  refine lv_aload_n X.1 X.2.1 dX3_placeOf_0 rfl (lv_at hl 0 rfl) ?_
  refine mm_rgr X I fl_X3_9 dX3_placeOf_1 h (fun v1 h => ?_)
  refine lv_iload_n X.1 X.2.1 dX3_placeOf_4 rfl (lv_at hl 1 rfl) ?_
  refine mm_ria X I dX3_placeOf_5 h (fun v2 h => ?_)
  refine lv_bipush (v := 20) X.1 X.2.1 dX3_placeOf_6 (by decide) ?_
  refine mm_rrem X dX3_placeOf_8 h (fun h => ?_)
  exact mm_xi X I hr hlk dX3_placeOf_9 h
set_option maxHeartbeats 4000000 in
set_option maxRecDepth 100000 in
theorem wpX3_insert_b111 {p : Program} {l : Launch} {e : Env} {s : State} {m : MethodId} {args : Array Value} {below : List Frame} {meth : Method} {c : Code} {D : va_G} {dA : Nat → ClassId} {lo : Nat} (X : mm_C D dA lo cX3_insert RX3 9 p s m args c) (hr : meth.sig.returnType = none) (hlk : meth.locks = false) (n : Nat) {o : mm_M}  : ∀ (M : mm_M) (a0 : Nat) (x1 : Int32) (x2 : Int32) (x4 : Int32) (H : Heap) (locs : List Loc) (ls : Array Slot), mm_I D dA lo s M H locs → lv_has ls 9 [(0, .ref a0), (1, .int x1), (2, .int x2), (4, .int x4)] → pX3_insert_b111 n M a0 x1 x2 x4 = some o → W p l e (mm_rm 2 54 0 0) s m args below meth c H locs 0 0 (MQ below (mm_Q D dA lo none o) args s 0 0 (mm_fr lo)) (F0 m 111 ls []) := by
  intro M a0 x1 x2 x4 H locs ls I hl h
  unfold pX3_insert_b111 at h
  refine lv_aload_n X.1 X.2.1 dX3_insert_111 rfl (lv_at hl 0 rfl) ?_
  refine mm_rgr X I fl_X3_9 dX3_insert_112 h (fun v1 h => ?_)
  refine lv_iload X.1 X.2.1 dX3_insert_115 (lv_at hl 3 rfl) ?_
  refine lv_aload_n X.1 X.2.1 dX3_insert_117 rfl (lv_at hl 0 rfl) ?_
  refine mm_rgr X I fl_X3_9 dX3_insert_118 h (fun v2 h => ?_)
  refine lv_iload X.1 X.2.1 dX3_insert_121 (lv_at hl 3 rfl) ?_
  refine lv_iconst (v := 1) X.1 X.2.1 dX3_insert_123 (by decide) ?_
  refine lv_iadd X.1 X.2.1 dX3_insert_124 ?_
  refine lv_aload_n X.1 X.2.1 dX3_insert_125 rfl (lv_at hl 0 rfl) ?_
  refine mm_rgi X I fl_X3_48 dX3_insert_126 h (fun v3 h => ?_)
  refine lv_iload X.1 X.2.1 dX3_insert_129 (lv_at hl 3 rfl) ?_
  refine lv_isub X.1 X.2.1 dX3_insert_131 ?_
  refine mm_rcp X I hl ml_X3_60 (by decide) (Nat.le_of_ble_eq_true rfl) dX3_insert_132 h (fun M H locs I h => ?_)
  refine lv_aload_n X.1 X.2.1 dX3_insert_135 rfl (lv_at hl 0 rfl) ?_
  refine mm_rgr X I fl_X3_9 dX3_insert_136 h (fun v4 h => ?_)
  refine lv_iload X.1 X.2.1 dX3_insert_139 (lv_at hl 3 rfl) ?_
  refine lv_iload_n X.1 X.2.1 dX3_insert_141 rfl (lv_at hl 1 rfl) ?_
  refine lv_bipush (v := 20) X.1 X.2.1 dX3_insert_142 (by decide) ?_
  refine lv_imul X.1 X.2.1 dX3_insert_144 ?_
  refine lv_iload_n X.1 X.2.1 dX3_insert_145 rfl (lv_at hl 2 rfl) ?_
  refine lv_iadd X.1 X.2.1 dX3_insert_146 ?_
  refine mm_ris X I dX3_insert_147 h (fun M H locs I h => ?_)
  refine lv_aload_n X.1 X.2.1 dX3_insert_148 rfl (lv_at hl 0 rfl) ?_
  refine lv_dup X.1 X.2.1 dX3_insert_149 rfl ?_
  refine mm_rgi X I fl_X3_48 dX3_insert_150 h (fun v5 h => ?_)
  refine lv_iconst (v := 1) X.1 X.2.1 dX3_insert_153 (by decide) ?_
  refine lv_iadd X.1 X.2.1 dX3_insert_154 ?_
  refine mm_rpi X I fl_X3_48 dX3_insert_155 h (fun M H locs I h => ?_)
  exact mm_xv X I hr hlk dX3_insert_158 h
set_option maxHeartbeats 4000000 in
set_option maxRecDepth 100000 in
theorem wpX3_insert_l25 {p : Program} {l : Launch} {e : Env} {s : State} {m : MethodId} {args : Array Value} {below : List Frame} {meth : Method} {c : Code} {D : va_G} {dA : Nat → ClassId} {lo : Nat} (X : mm_C D dA lo cX3_insert RX3 9 p s m args c) (hr : meth.sig.returnType = none) (hlk : meth.locks = false) (n : Nat) {o : mm_M} (k : Nat) : ∀ (M : mm_M) (a0 : Nat) (x1 : Int32) (x2 : Int32) (x3 : Int32) (x4 : Int32) (x5 : Int32) (x6 : Int32) (H : Heap) (locs : List Loc) (ls : Array Slot), mm_I D dA lo s M H locs → lv_has ls 9 [(0, .ref a0), (1, .int x1), (2, .int x2), (3, .int x3), (4, .int x4), (5, .int x5), (6, .int x6)] → pX3_insert_l25 n k M a0 x1 x2 x3 x4 x5 x6 = some o → W p l e (mm_rm 2 54 0 0) s m args below meth c H locs 0 0 (MQ below (mm_Q D dA lo none o) args s 0 0 (mm_fr lo)) (F0 m 25 ls []) := by
  induction k with
  | zero =>
    intro M a0 x1 x2 x3 x4 x5 x6 H locs ls I hl h
    have h : (none : Option (mm_M)) = some o := h
    cases h
  | succ k ih =>
    intro M a0 x1 x2 x3 x4 x5 x6 H locs ls I hl h
    have h : pX3_insert_l25b n (pX3_insert_l25 n k) M a0 x1 x2 x3 x4 x5 x6 = some o := h
    unfold pX3_insert_l25b at h
    refine lv_iload X.1 X.2.1 dX3_insert_25 (lv_at hl 6 rfl) ?_
    refine lv_aload_n X.1 X.2.1 dX3_insert_27 rfl (lv_at hl 0 rfl) ?_
    refine mm_rgr X I fl_X3_9 dX3_insert_28 h (fun v1 h => ?_)
    refine mm_rlen X I dX3_insert_31 h (fun v2 h => ?_)
    refine mm_kge (tgt := 111) X dX3_insert_32 (by decide) h (fun h => ?_) (fun h => ?_)
    · exact wpX3_insert_b111 X hr hlk n  M _ _ _ _ _ _ _ I (lv_sub hl [0, 1, 2, 4] rfl) h
    · refine lv_iload X.1 X.2.1 dX3_insert_35 (lv_at hl 4 rfl) ?_
      refine lv_iload X.1 X.2.1 dX3_insert_37 (lv_at hl 5 rfl) ?_
      refine mm_kge (tgt := 111) X dX3_insert_39 (by decide) h (fun h => ?_) (fun h => ?_)
      · exact wpX3_insert_b111 X hr hlk n  M _ _ _ _ _ _ _ I (lv_sub hl [0, 1, 2, 4] rfl) h
      · refine lv_iload X.1 X.2.1 dX3_insert_42 (lv_at hl 4 rfl) ?_
        refine lv_iload X.1 X.2.1 dX3_insert_44 (lv_at hl 5 rfl) ?_
        refine lv_iadd X.1 X.2.1 dX3_insert_46 ?_
        refine lv_iconst (v := 2) X.1 X.2.1 dX3_insert_47 (by decide) ?_
        refine mm_rdiv X dX3_insert_48 h (fun h => ?_)
        refine lv_istore (lv' := [(7, .int ((x4 + x5) / 2)), (0, .ref a0), (1, .int x1), (2, .int x2), (3, .int x3), (4, .int x4), (5, .int x5), (6, .int x6)]) X.1 X.2.1 dX3_insert_49 hl (by decide) rfl (fun ls hl => ?_)
        refine lv_aload_n X.1 X.2.1 dX3_insert_51 rfl (lv_at hl 1 rfl) ?_
        refine mm_rgr X I fl_X3_15 dX3_insert_52 h (fun v3 h => ?_)
        refine mm_rgr X I fl_X3_25 dX3_insert_55 h (fun v4 h => ?_)
        refine lv_aload_n X.1 X.2.1 dX3_insert_58 rfl (lv_at hl 1 rfl) ?_
        refine lv_iload X.1 X.2.1 dX3_insert_59 (lv_at hl 0 rfl) ?_
        refine mm_cVi X I hl (As := [.int ((x4 + x5) / 2)]) (ci := 3) md_X3_lineOf mv_X3_lineOf ml_X3_49 rfl (kX3_lineOf (n := n)) (by decide) ⟨Nat.le_refl 0, Nat.le_refl 0⟩ rfl rfl (Nat.le_of_ble_eq_true rfl) dX3_insert_61 h (fun v5 M H locs I h => ?_)
        refine mm_rra X I dX3_insert_64 h (fun v6 h => ?_)
        refine lv_astore (lv' := [(8, .ref v6), (7, .int ((x4 + x5) / 2)), (0, .ref a0), (1, .int x1), (2, .int x2), (3, .int x3), (4, .int x4), (5, .int x5), (6, .int x6)]) X.1 X.2.1 dX3_insert_65 hl (by decide) rfl (fun ls hl => ?_)
        refine lv_aload X.1 X.2.1 dX3_insert_67 (lv_at hl 0 rfl) ?_
        refine lv_aload_n X.1 X.2.1 dX3_insert_69 rfl (lv_at hl 2 rfl) ?_
        refine lv_iload X.1 X.2.1 dX3_insert_70 (lv_at hl 1 rfl) ?_
        refine mm_cVi X I hl (As := [.int ((x4 + x5) / 2)]) (ci := 3) md_X3_placeOf mv_X3_placeOf ml_X3_53 rfl (kX3_placeOf (n := n)) (by decide) ⟨Nat.le_refl 0, Nat.le_refl 0⟩ rfl rfl (Nat.le_of_ble_eq_true rfl) dX3_insert_72 h (fun v7 M H locs I h => ?_)
        refine lv_aload_n X.1 X.2.1 dX3_insert_75 rfl (lv_at hl 2 rfl) ?_
        refine mm_rgr X I fl_X3_15 dX3_insert_76 h (fun v8 h => ?_)
        refine mm_rgr X I fl_X3_25 dX3_insert_79 h (fun v9 h => ?_)
        refine lv_iload_n X.1 X.2.1 dX3_insert_82 rfl (lv_at hl 3 rfl) ?_
        refine mm_rra X I dX3_insert_83 h (fun v10 h => ?_)
        refine lv_iload_n X.1 X.2.1 dX3_insert_84 rfl (lv_at hl 4 rfl) ?_
        refine lv_iload_n X.1 X.2.1 dX3_insert_85 rfl (lv_at hl 5 rfl) ?_
        refine mm_cVi X I hl (As := [.int v7, .ref v10, .int x2, .int x3]) (ci := 2) md_X2_compare mv_X2_compare ml_X3_56 rfl (kX2_compare (n := n)) (by decide) ⟨Nat.le_refl 0, Nat.le_refl 0⟩ rfl rfl (Nat.le_of_ble_eq_true rfl) dX3_insert_86 h (fun v11 M H locs I h => ?_)
        refine mm_jge (tgt := 101) X dX3_insert_89 (by decide) h (fun h => ?_) (fun h => ?_)
        · refine lv_iload X.1 X.2.1 dX3_insert_101 (lv_at hl 1 rfl) ?_
          refine lv_istore (lv' := [(5, .int ((x4 + x5) / 2)), (8, .ref v6), (7, .int ((x4 + x5) / 2)), (0, .ref a0), (1, .int x1), (2, .int x2), (3, .int x3), (4, .int x4), (6, .int x6)]) X.1 X.2.1 dX3_insert_103 hl (by decide) rfl (fun ls hl => ?_)
          refine lv_iinc (v := (x6 + 1)) (lv' := [(6, .int (x6 + 1)), (5, .int ((x4 + x5) / 2)), (8, .ref v6), (7, .int ((x4 + x5) / 2)), (0, .ref a0), (1, .int x1), (2, .int x2), (3, .int x3), (4, .int x4)]) X.1 X.2.1 dX3_insert_105 hl (k := 8) rfl rfl (by decide) rfl (fun ls hl => ?_)
          refine lv_goto (tgt := 25) X.1 X.2.1 dX3_insert_108 (by decide) ?_
          exact ih M _ _ _ _ _ _ _ _ _ _ I (lv_sub hl [4, 5, 6, 7, 8, 1, 0] rfl) h
        · refine lv_iload X.1 X.2.1 dX3_insert_92 (lv_at hl 1 rfl) ?_
          refine lv_iconst (v := 1) X.1 X.2.1 dX3_insert_94 (by decide) ?_
          refine lv_iadd X.1 X.2.1 dX3_insert_95 ?_
          refine lv_istore (lv' := [(4, .int (((x4 + x5) / 2) + 1)), (8, .ref v6), (7, .int ((x4 + x5) / 2)), (0, .ref a0), (1, .int x1), (2, .int x2), (3, .int x3), (5, .int x5), (6, .int x6)]) X.1 X.2.1 dX3_insert_96 hl (by decide) rfl (fun ls hl => ?_)
          refine lv_goto (tgt := 105) X.1 X.2.1 dX3_insert_98 (by decide) ?_
          refine lv_iinc (v := (x6 + 1)) (lv' := [(6, .int (x6 + 1)), (4, .int (((x4 + x5) / 2) + 1)), (8, .ref v6), (7, .int ((x4 + x5) / 2)), (0, .ref a0), (1, .int x1), (2, .int x2), (3, .int x3), (5, .int x5)]) X.1 X.2.1 dX3_insert_105 hl (k := 8) rfl rfl (by decide) rfl (fun ls hl => ?_)
          refine lv_goto (tgt := 25) X.1 X.2.1 dX3_insert_108 (by decide) ?_
          exact ih M _ _ _ _ _ _ _ _ _ _ I (lv_sub hl [4, 5, 6, 7, 1, 8, 0] rfl) h
set_option maxHeartbeats 4000000 in
set_option maxRecDepth 100000 in
theorem kX3_insert {l : Launch} {D : va_G} {dA : Nat → ClassId} {lo : Nat} {n : Nat} {M : mm_M} {a0 : Nat} {x1 : Int32} {x2 : Int32} {x3 : Int32} (o : mm_M) (h : pX3_insert n M a0 x1 x2 x3 = some o) : (∃ fs, M.2 a0 = some (mm_ob 3 fs)) ∧ mm_Met l D dA lo yX3_insert cX3_insert 9 none 2 54 0 0 [.ref a0, .int x1, .int x2, .int x3] M none o := by
  unfold pX3_insert at h
  obtain ⟨hob, h⟩ := mm_v_some h
  refine ⟨hob, mm_enter (by decide) (Nat.le_of_ble_eq_true rfl) (fun p e s m args below meth c ls X hr hlk hnm I hl => ?_)⟩
  have X : mm_C D dA lo cX3_insert RX3 9 p s m args c := X
  have hl : lv_has ls 9 [(0, .ref a0), (1, .int x1), (2, .int x2), (3, .int x3)] := hl
  refine lv_aload_n X.1 X.2.1 dX3_insert_0 rfl (lv_at hl 0 rfl) ?_
  refine mm_rgi X I fl_X3_48 dX3_insert_1 h (fun v1 h => ?_)
  refine lv_aload_n X.1 X.2.1 dX3_insert_4 rfl (lv_at hl 0 rfl) ?_
  refine mm_rgr X I fl_X3_9 dX3_insert_5 h (fun v2 h => ?_)
  refine mm_rlen X I dX3_insert_8 h (fun v3 h => ?_)
  refine mm_klt (tgt := 13) X dX3_insert_9 (by decide) h (fun h => ?_) (fun h => ?_)
  · refine lv_iconst (v := 0) X.1 X.2.1 dX3_insert_13 (by decide) ?_
    refine lv_istore (lv' := [(4, .int 0), (0, .ref a0), (1, .int x1), (2, .int x2), (3, .int x3)]) X.1 X.2.1 dX3_insert_14 hl (by decide) rfl (fun ls hl => ?_)
    refine lv_aload_n X.1 X.2.1 dX3_insert_16 rfl (lv_at hl 1 rfl) ?_
    refine mm_rgi X I fl_X3_48 dX3_insert_17 h (fun v4 h => ?_)
    refine lv_istore (lv' := [(5, .int v4), (4, .int 0), (0, .ref a0), (1, .int x1), (2, .int x2), (3, .int x3)]) X.1 X.2.1 dX3_insert_20 hl (by decide) rfl (fun ls hl => ?_)
    refine lv_iconst (v := 0) X.1 X.2.1 dX3_insert_22 (by decide) ?_
    refine lv_istore (lv' := [(6, .int 0), (5, .int v4), (4, .int 0), (0, .ref a0), (1, .int x1), (2, .int x2), (3, .int x3)]) X.1 X.2.1 dX3_insert_23 hl (by decide) rfl (fun ls hl => ?_)
    exact wpX3_insert_l25 X hr hlk n  n M _ _ _ _ _ _ _ _ _ _ I (lv_sub hl [3, 4, 5, 6, 2, 1, 0] rfl) h
  · exact mm_xv X I hr hlk dX3_insert_12 h
set_option maxHeartbeats 4000000 in
set_option maxRecDepth 100000 in
theorem wpX3_fill_l29 {p : Program} {l : Launch} {e : Env} {s : State} {m : MethodId} {args : Array Value} {below : List Frame} {meth : Method} {c : Code} {D : va_G} {dA : Nat → ClassId} {lo : Nat} (X : mm_C D dA lo cX3_fill RX3 5 p s m args c) (hr : meth.sig.returnType = none) (hlk : meth.locks = false) (n : Nat) {o : mm_M} {K2 : mm_M → Nat → Nat → Int32 → Option (mm_M)} (k2 : ∀ (M : mm_M) (a0 : Nat) (a1 : Nat) (x2 : Int32) (H : Heap) (locs : List Loc) (ls : Array Slot), mm_I D dA lo s M H locs → lv_has ls 5 [(0, .ref a0), (1, .ref a1), (2, .int x2)] → K2 M a0 a1 x2 = some o → W p l e (mm_rm 3 82 0 0) s m args below meth c H locs 0 0 (MQ below (mm_Q D dA lo none o) args s 0 0 (mm_fr lo)) (F0 m 2 ls [])) (k : Nat) : ∀ (M : mm_M) (a0 : Nat) (a1 : Nat) (x2 : Int32) (a3 : Nat) (x4 : Int32) (H : Heap) (locs : List Loc) (ls : Array Slot), mm_I D dA lo s M H locs → lv_has ls 5 [(0, .ref a0), (1, .ref a1), (2, .int x2), (3, .ref a3), (4, .int x4)] → pX3_fill_l29 n K2 k M a0 a1 x2 a3 x4 = some o → W p l e (mm_rm 3 82 0 0) s m args below meth c H locs 0 0 (MQ below (mm_Q D dA lo none o) args s 0 0 (mm_fr lo)) (F0 m 29 ls []) := by
  induction k with
  | zero =>
    intro M a0 a1 x2 a3 x4 H locs ls I hl h
    have h : (none : Option (mm_M)) = some o := h
    cases h
  | succ k ih =>
    intro M a0 a1 x2 a3 x4 H locs ls I hl h
    have h : pX3_fill_l29b n K2 (pX3_fill_l29 n K2 k) M a0 a1 x2 a3 x4 = some o := h
    unfold pX3_fill_l29b at h
    refine lv_iload X.1 X.2.1 dX3_fill_29 (lv_at hl 4 rfl) ?_
    refine lv_aload_n X.1 X.2.1 dX3_fill_31 rfl (lv_at hl 3 rfl) ?_
    refine mm_rgi X I fl_X3_35 dX3_fill_32 h (fun v1 h => ?_)
    refine mm_kge (tgt := 65) X dX3_fill_35 (by decide) h (fun h => ?_) (fun h => ?_)
    · refine lv_iinc (v := (x2 + 1)) (lv' := [(2, .int (x2 + 1)), (0, .ref a0), (1, .ref a1), (3, .ref a3), (4, .int x4)]) X.1 X.2.1 dX3_fill_65 hl (k := 2) rfl rfl (by decide) rfl (fun ls hl => ?_)
      refine lv_goto (tgt := 2) X.1 X.2.1 dX3_fill_68 (by decide) ?_
      exact k2 M _ _ _ _ _ _ I (lv_sub hl [1, 2, 0] rfl) h
    · refine lv_aload_n X.1 X.2.1 dX3_fill_38 rfl (lv_at hl 3 rfl) ?_
      refine lv_aload_n X.1 X.2.1 dX3_fill_39 rfl (lv_at hl 1 rfl) ?_
      refine lv_iload X.1 X.2.1 dX3_fill_40 (lv_at hl 4 rfl) ?_
      refine mm_cVi X I hl (As := [.ref a1, .int x4]) (ci := 5) md_X5_has mv_X5_has ml_X3_40 rfl (kX5_has (n := n)) (by decide) ⟨Nat.le_refl 0, Nat.le_refl 0⟩ rfl rfl (Nat.le_of_ble_eq_true rfl) dX3_fill_42 h (fun v2 M H locs I h => ?_)
      refine mm_jeq (tgt := 59) X dX3_fill_45 (by decide) h (fun h => ?_) (fun h => ?_)
      · refine lv_iinc (v := (x4 + 1)) (lv' := [(4, .int (x4 + 1)), (0, .ref a0), (1, .ref a1), (2, .int x2), (3, .ref a3)]) X.1 X.2.1 dX3_fill_59 hl (k := 4) rfl rfl (by decide) rfl (fun ls hl => ?_)
        refine lv_goto (tgt := 29) X.1 X.2.1 dX3_fill_62 (by decide) ?_
        exact ih M _ _ _ _ _ _ _ _ I (lv_sub hl [1, 2, 3, 4, 0] rfl) h
      · refine lv_aload_n X.1 X.2.1 dX3_fill_48 rfl (lv_at hl 0 rfl) ?_
        refine lv_iload_n X.1 X.2.1 dX3_fill_49 rfl (lv_at hl 2 rfl) ?_
        refine lv_iload X.1 X.2.1 dX3_fill_50 (lv_at hl 4 rfl) ?_
        refine lv_aload_n X.1 X.2.1 dX3_fill_52 rfl (lv_at hl 1 rfl) ?_
        refine mm_rgi X I fl_X3_35 dX3_fill_53 h (fun v3 h => ?_)
        refine mm_cVv X I hl (As := [.int x2, .int x4, .int v3]) (ci := 3) md_X3_insert mv_X3_insert ml_X3_44 rfl (kX3_insert (n := n)) (by decide) ⟨Nat.le_refl 0, Nat.le_refl 0⟩ rfl rfl (Nat.le_of_ble_eq_true rfl) dX3_fill_56 h (fun M H locs I h => ?_)
        refine lv_iinc (v := (x4 + 1)) (lv' := [(4, .int (x4 + 1)), (0, .ref a0), (1, .ref a1), (2, .int x2), (3, .ref a3)]) X.1 X.2.1 dX3_fill_59 hl (k := 4) rfl rfl (by decide) rfl (fun ls hl => ?_)
        refine lv_goto (tgt := 29) X.1 X.2.1 dX3_fill_62 (by decide) ?_
        exact ih M _ _ _ _ _ _ _ _ I (lv_sub hl [1, 2, 3, 4, 0] rfl) h
set_option maxHeartbeats 4000000 in
set_option maxRecDepth 100000 in
theorem wpX3_fill_l2 {p : Program} {l : Launch} {e : Env} {s : State} {m : MethodId} {args : Array Value} {below : List Frame} {meth : Method} {c : Code} {D : va_G} {dA : Nat → ClassId} {lo : Nat} (X : mm_C D dA lo cX3_fill RX3 5 p s m args c) (hr : meth.sig.returnType = none) (hlk : meth.locks = false) (n : Nat) {o : mm_M} (k : Nat) : ∀ (M : mm_M) (a0 : Nat) (a1 : Nat) (x2 : Int32) (H : Heap) (locs : List Loc) (ls : Array Slot), mm_I D dA lo s M H locs → lv_has ls 5 [(0, .ref a0), (1, .ref a1), (2, .int x2)] → pX3_fill_l2 n k M a0 a1 x2 = some o → W p l e (mm_rm 3 82 0 0) s m args below meth c H locs 0 0 (MQ below (mm_Q D dA lo none o) args s 0 0 (mm_fr lo)) (F0 m 2 ls []) := by
  induction k with
  | zero =>
    intro M a0 a1 x2 H locs ls I hl h
    have h : (none : Option (mm_M)) = some o := h
    cases h
  | succ k ih =>
    intro M a0 a1 x2 H locs ls I hl h
    have h : pX3_fill_l2b n (pX3_fill_l2 n k) M a0 a1 x2 = some o := h
    unfold pX3_fill_l2b at h
    refine lv_iload_n X.1 X.2.1 dX3_fill_2 rfl (lv_at hl 2 rfl) ?_
    refine lv_aload_n X.1 X.2.1 dX3_fill_3 rfl (lv_at hl 0 rfl) ?_
    refine mm_rgr X I fl_X3_15 dX3_fill_4 h (fun v1 h => ?_)
    refine mm_rgi X I fl_X3_19 dX3_fill_7 h (fun v2 h => ?_)
    refine mm_kge (tgt := 71) X dX3_fill_10 (by decide) h (fun h => ?_) (fun h => ?_)
    · exact mm_xv X I hr hlk dX3_fill_71 h
    · refine lv_aload_n X.1 X.2.1 dX3_fill_13 rfl (lv_at hl 0 rfl) ?_
      refine mm_rgr X I fl_X3_15 dX3_fill_14 h (fun v3 h => ?_)
      refine mm_rgr X I fl_X3_25 dX3_fill_17 h (fun v4 h => ?_)
      refine lv_iload_n X.1 X.2.1 dX3_fill_20 rfl (lv_at hl 2 rfl) ?_
      refine mm_rra X I dX3_fill_21 h (fun v5 h => ?_)
      refine mm_rgr X I fl_X3_29 dX3_fill_22 h (fun v6 h => ?_)
      refine lv_astore_n (lv' := [(3, .ref v6), (0, .ref a0), (1, .ref a1), (2, .int x2)]) X.1 X.2.1 dX3_fill_25 rfl hl (by decide) rfl (fun ls hl => ?_)
      refine lv_iconst (v := 0) X.1 X.2.1 dX3_fill_26 (by decide) ?_
      refine lv_istore (lv' := [(4, .int 0), (3, .ref v6), (0, .ref a0), (1, .ref a1), (2, .int x2)]) X.1 X.2.1 dX3_fill_27 hl (by decide) rfl (fun ls hl => ?_)
      exact wpX3_fill_l29 X hr hlk n ih n M _ _ _ _ _ _ _ _ I (lv_sub hl [2, 3, 4, 1, 0] rfl) h
set_option maxHeartbeats 4000000 in
set_option maxRecDepth 100000 in
theorem kX3_fill {l : Launch} {D : va_G} {dA : Nat → ClassId} {lo : Nat} {n : Nat} {M : mm_M} {a0 : Nat} {a1 : Nat} (o : mm_M) (h : pX3_fill n M a0 a1 = some o) : (∃ fs, M.2 a0 = some (mm_ob 3 fs)) ∧ mm_Met l D dA lo yX3_fill cX3_fill 5 none 3 82 0 0 [.ref a0, .ref a1] M none o := by
  unfold pX3_fill at h
  obtain ⟨hob, h⟩ := mm_v_some h
  refine ⟨hob, mm_enter (by decide) (Nat.le_of_ble_eq_true rfl) (fun p e s m args below meth c ls X hr hlk hnm I hl => ?_)⟩
  have X : mm_C D dA lo cX3_fill RX3 5 p s m args c := X
  have hl : lv_has ls 5 [(0, .ref a0), (1, .ref a1)] := hl
  refine lv_iconst (v := 0) X.1 X.2.1 dX3_fill_0 (by decide) ?_
  refine lv_istore_n (lv' := [(2, .int 0), (0, .ref a0), (1, .ref a1)]) X.1 X.2.1 dX3_fill_1 rfl hl (by decide) rfl (fun ls hl => ?_)
  exact wpX3_fill_l2 X hr hlk n  n M _ _ _ _ _ _ I (lv_sub hl [1, 2, 0] rfl) h
set_option maxHeartbeats 4000000 in
set_option maxRecDepth 100000 in
theorem kX3_has {l : Launch} {D : va_G} {dA : Nat → ClassId} {lo : Nat} {n : Nat} {M : mm_M} {a0 : Nat} {x1 : Int32} (o : Int32 × mm_M) (h : pX3_has n M a0 x1 = some o) : (∃ fs, M.2 a0 = some (mm_ob 3 fs)) ∧ mm_Met l D dA lo yX3_has cX3_has 2 (some .boolean) 0 0 0 0 [.ref a0, .int x1] M (some (.int o.1)) o.2 := by
  unfold pX3_has at h
  obtain ⟨hob, h⟩ := mm_v_some h
  refine ⟨hob, mm_enter (by decide) (Nat.le_of_ble_eq_true rfl) (fun p e s m args below meth c ls X hr hlk hnm I hl => ?_)⟩
  have X : mm_C D dA lo cX3_has RX3 2 p s m args c := X
  have hl : lv_has ls 2 [(0, .ref a0), (1, .int x1)] := hl
  refine lv_iload_n X.1 X.2.1 dX3_has_0 rfl (lv_at hl 1 rfl) ?_
  refine mm_jlt (tgt := 16) X dX3_has_1 (by decide) h (fun h => ?_) (fun h => ?_)
  · refine lv_iconst (v := 0) X.1 X.2.1 dX3_has_16 (by decide) ?_
    exact mm_xz0 X I hr hlk dX3_has_17 h
  · refine lv_iload_n X.1 X.2.1 dX3_has_4 rfl (lv_at hl 1 rfl) ?_
    refine lv_aload_n X.1 X.2.1 dX3_has_5 rfl (lv_at hl 0 rfl) ?_
    refine mm_rgi X I fl_X3_48 dX3_has_6 h (fun v1 h => ?_)
    refine mm_kge (tgt := 16) X dX3_has_9 (by decide) h (fun h => ?_) (fun h => ?_)
    · refine lv_iconst (v := 0) X.1 X.2.1 dX3_has_16 (by decide) ?_
      exact mm_xz0 X I hr hlk dX3_has_17 h
    · refine lv_iconst (v := 1) X.1 X.2.1 dX3_has_12 (by decide) ?_
      refine lv_goto (tgt := 17) X.1 X.2.1 dX3_has_13 (by decide) ?_
      exact mm_xz1 X I hr hlk dX3_has_17 h
set_option maxHeartbeats 4000000 in
set_option maxRecDepth 100000 in
theorem kX3_signsFrom {l : Launch} {D : va_G} {dA : Nat → ClassId} {lo : Nat} {n : Nat} {M : mm_M} {a0 : Nat} {x1 : Int32} (o : Int32 × mm_M) (h : pX3_signsFrom n M a0 x1 = some o) : (∃ fs, M.2 a0 = some (mm_ob 3 fs)) ∧ mm_Met l D dA lo yX3_signsFrom cX3_signsFrom 2 (some .int) 1 21 0 0 [.ref a0, .int x1] M (some (.int o.1)) o.2 := by
  unfold pX3_signsFrom at h
  obtain ⟨hob, h⟩ := mm_v_some h
  refine ⟨hob, mm_enter (by decide) (Nat.le_of_ble_eq_true rfl) (fun p e s m args below meth c ls X hr hlk hnm I hl => ?_)⟩
  have X : mm_C D dA lo cX3_signsFrom RX3 2 p s m args c := X
  have hl : lv_has ls 2 [(0, .ref a0), (1, .int x1)] := hl
  refine lv_aload_n X.1 X.2.1 dX3_signsFrom_0 rfl (lv_at hl 0 rfl) ?_
  refine mm_rgr X I fl_X3_15 dX3_signsFrom_1 h (fun v1 h => ?_)
  refine mm_rgr X I fl_X3_25 dX3_signsFrom_4 h (fun v2 h => ?_)
  refine lv_aload_n X.1 X.2.1 dX3_signsFrom_7 rfl (lv_at hl 0 rfl) ?_
  refine lv_iload_n X.1 X.2.1 dX3_signsFrom_8 rfl (lv_at hl 1 rfl) ?_
  refine mm_cVi X I hl (As := [.int x1]) (ci := 3) md_X3_lineOf mv_X3_lineOf ml_X3_49 rfl (kX3_lineOf (n := n)) (by decide) ⟨Nat.le_refl 0, Nat.le_refl 0⟩ rfl rfl (Nat.le_of_ble_eq_true rfl) dX3_signsFrom_9 h (fun v3 M H locs I h => ?_)
  refine mm_rra X I dX3_signsFrom_12 h (fun v4 h => ?_)
  refine mm_rgr X I fl_X3_29 dX3_signsFrom_13 h (fun v5 h => ?_)
  refine mm_rgi X I fl_X3_35 dX3_signsFrom_16 h (fun v6 h => ?_)
  refine lv_aload_n X.1 X.2.1 dX3_signsFrom_19 rfl (lv_at hl 0 rfl) ?_
  refine lv_iload_n X.1 X.2.1 dX3_signsFrom_20 rfl (lv_at hl 1 rfl) ?_
  refine mm_cVi X I hl (As := [.int x1]) (ci := 3) md_X3_placeOf mv_X3_placeOf ml_X3_53 rfl (kX3_placeOf (n := n)) (by decide) ⟨Nat.le_refl 0, Nat.le_refl 0⟩ rfl rfl (Nat.le_of_ble_eq_true rfl) dX3_signsFrom_21 h (fun v7 M H locs I h => ?_)
  refine lv_isub X.1 X.2.1 dX3_signsFrom_24 ?_
  exact mm_xi X I hr hlk dX3_signsFrom_25 h
set_option maxHeartbeats 4000000 in
set_option maxRecDepth 100000 in
theorem wpX3_find_l2 {p : Program} {l : Launch} {e : Env} {s : State} {m : MethodId} {args : Array Value} {below : List Frame} {meth : Method} {c : Code} {D : va_G} {dA : Nat → ClassId} {lo : Nat} (X : mm_C D dA lo cX3_find RX3 4 p s m args c) (hr : meth.sig.returnType = (some .int)) (hlk : meth.locks = false) (n : Nat) {o : Int32 × mm_M} (k : Nat) : ∀ (M : mm_M) (a0 : Nat) (x1 : Int32) (x2 : Int32) (x3 : Int32) (H : Heap) (locs : List Loc) (ls : Array Slot), mm_I D dA lo s M H locs → lv_has ls 4 [(0, .ref a0), (1, .int x1), (2, .int x2), (3, .int x3)] → pX3_find_l2 n k M a0 x1 x2 x3 = some o → W p l e (mm_rm 1 21 0 0) s m args below meth c H locs 0 0 (MQ below (mm_Q D dA lo (some (.int o.1)) o.2) args s 0 0 (mm_fr lo)) (F0 m 2 ls []) := by
  induction k with
  | zero =>
    intro M a0 x1 x2 x3 H locs ls I hl h
    have h : (none : Option (Int32 × mm_M)) = some o := h
    cases h
  | succ k ih =>
    intro M a0 x1 x2 x3 H locs ls I hl h
    have h : pX3_find_l2b n (pX3_find_l2 n k) M a0 x1 x2 x3 = some o := h
    unfold pX3_find_l2b at h
    refine lv_iload_n X.1 X.2.1 dX3_find_2 rfl (lv_at hl 3 rfl) ?_
    refine lv_aload_n X.1 X.2.1 dX3_find_3 rfl (lv_at hl 0 rfl) ?_
    refine mm_rgi X I fl_X3_48 dX3_find_4 h (fun v1 h => ?_)
    refine mm_kge (tgt := 36) X dX3_find_7 (by decide) h (fun h => ?_) (fun h => ?_)
    · refine lv_iconst (v := (-1)) X.1 X.2.1 dX3_find_36 (by decide) ?_
      exact mm_xi X I hr hlk dX3_find_37 h
    · refine lv_aload_n X.1 X.2.1 dX3_find_10 rfl (lv_at hl 0 rfl) ?_
      refine lv_iload_n X.1 X.2.1 dX3_find_11 rfl (lv_at hl 3 rfl) ?_
      refine mm_cVi X I hl (As := [.int x3]) (ci := 3) md_X3_lineOf mv_X3_lineOf ml_X3_49 rfl (kX3_lineOf (n := n)) (by decide) ⟨Nat.le_refl 0, Nat.le_refl 0⟩ rfl rfl (Nat.le_of_ble_eq_true rfl) dX3_find_12 h (fun v2 M H locs I h => ?_)
      refine lv_iload_n X.1 X.2.1 dX3_find_15 rfl (lv_at hl 1 rfl) ?_
      refine mm_kne (tgt := 30) X dX3_find_16 (by decide) h (fun h => ?_) (fun h => ?_)
      · refine lv_iinc (v := (x3 + 1)) (lv' := [(3, .int (x3 + 1)), (0, .ref a0), (1, .int x1), (2, .int x2)]) X.1 X.2.1 dX3_find_30 hl (k := 3) rfl rfl (by decide) rfl (fun ls hl => ?_)
        refine lv_goto (tgt := 2) X.1 X.2.1 dX3_find_33 (by decide) ?_
        exact ih M _ _ _ _ _ _ _ I (lv_sub hl [1, 2, 3, 0] rfl) h
      · refine lv_aload_n X.1 X.2.1 dX3_find_19 rfl (lv_at hl 0 rfl) ?_
        refine lv_iload_n X.1 X.2.1 dX3_find_20 rfl (lv_at hl 3 rfl) ?_
        refine mm_cVi X I hl (As := [.int x3]) (ci := 3) md_X3_placeOf mv_X3_placeOf ml_X3_53 rfl (kX3_placeOf (n := n)) (by decide) ⟨Nat.le_refl 0, Nat.le_refl 0⟩ rfl rfl (Nat.le_of_ble_eq_true rfl) dX3_find_21 h (fun v3 M H locs I h => ?_)
        refine lv_iload_n X.1 X.2.1 dX3_find_24 rfl (lv_at hl 2 rfl) ?_
        refine mm_kne (tgt := 30) X dX3_find_25 (by decide) h (fun h => ?_) (fun h => ?_)
        · refine lv_iinc (v := (x3 + 1)) (lv' := [(3, .int (x3 + 1)), (0, .ref a0), (1, .int x1), (2, .int x2)]) X.1 X.2.1 dX3_find_30 hl (k := 3) rfl rfl (by decide) rfl (fun ls hl => ?_)
          refine lv_goto (tgt := 2) X.1 X.2.1 dX3_find_33 (by decide) ?_
          exact ih M _ _ _ _ _ _ _ I (lv_sub hl [1, 2, 3, 0] rfl) h
        · refine lv_iload_n X.1 X.2.1 dX3_find_28 rfl (lv_at hl 3 rfl) ?_
          exact mm_xi X I hr hlk dX3_find_29 h
set_option maxHeartbeats 4000000 in
set_option maxRecDepth 100000 in
theorem kX3_find {l : Launch} {D : va_G} {dA : Nat → ClassId} {lo : Nat} {n : Nat} {M : mm_M} {a0 : Nat} {x1 : Int32} {x2 : Int32} (o : Int32 × mm_M) (h : pX3_find n M a0 x1 x2 = some o) : (∃ fs, M.2 a0 = some (mm_ob 3 fs)) ∧ mm_Met l D dA lo yX3_find cX3_find 4 (some .int) 1 21 0 0 [.ref a0, .int x1, .int x2] M (some (.int o.1)) o.2 := by
  unfold pX3_find at h
  obtain ⟨hob, h⟩ := mm_v_some h
  refine ⟨hob, mm_enter (by decide) (Nat.le_of_ble_eq_true rfl) (fun p e s m args below meth c ls X hr hlk hnm I hl => ?_)⟩
  have X : mm_C D dA lo cX3_find RX3 4 p s m args c := X
  have hl : lv_has ls 4 [(0, .ref a0), (1, .int x1), (2, .int x2)] := hl
  refine lv_iconst (v := 0) X.1 X.2.1 dX3_find_0 (by decide) ?_
  refine lv_istore_n (lv' := [(3, .int 0), (0, .ref a0), (1, .int x1), (2, .int x2)]) X.1 X.2.1 dX3_find_1 rfl hl (by decide) rfl (fun ls hl => ?_)
  exact wpX3_find_l2 X hr hlk n  n M _ _ _ _ _ _ _ I (lv_sub hl [1, 2, 3, 0] rfl) h
set_option maxHeartbeats 4000000 in
set_option maxRecDepth 100000 in
theorem kX5_at {l : Launch} {D : va_G} {dA : Nat → ClassId} {lo : Nat} {n : Nat} {M : mm_M} {a0 : Nat} {x1 : Int32} (o : Int32 × mm_M) (h : pX5_at n M a0 x1 = some o) : (∃ fs, M.2 a0 = some (mm_ob 5 fs)) ∧ mm_Met l D dA lo yX5_at cX5_at 2 (some .int) 0 0 0 0 [.ref a0, .int x1] M (some (.int o.1)) o.2 := by
  unfold pX5_at at h
  obtain ⟨hob, h⟩ := mm_v_some h
  refine ⟨hob, mm_enter (by decide) (Nat.le_of_ble_eq_true rfl) (fun p e s m args below meth c ls X hr hlk hnm I hl => ?_)⟩
  have X : mm_C D dA lo cX5_at RX5 2 p s m args c := X
  have hl : lv_has ls 2 [(0, .ref a0), (1, .int x1)] := hl
  refine lv_iload_n X.1 X.2.1 dX5_at_0 rfl (lv_at hl 1 rfl) ?_
  refine mm_jlt (tgt := 12) X dX5_at_1 (by decide) h (fun h => ?_) (fun h => ?_)
  · refine lv_iconst (v := (-1)) X.1 X.2.1 dX5_at_12 (by decide) ?_
    refine lv_goto (tgt := 22) X.1 X.2.1 dX5_at_13 (by decide) ?_
    exact mm_xi X I hr hlk dX5_at_22 h
  · refine lv_iload_n X.1 X.2.1 dX5_at_4 rfl (lv_at hl 1 rfl) ?_
    refine lv_aload_n X.1 X.2.1 dX5_at_5 rfl (lv_at hl 0 rfl) ?_
    refine mm_rgi X I fl_X5_15 dX5_at_6 h (fun v1 h => ?_)
    refine mm_klt (tgt := 16) X dX5_at_9 (by decide) h (fun h => ?_) (fun h => ?_)
    · refine lv_aload_n X.1 X.2.1 dX5_at_16 rfl (lv_at hl 0 rfl) ?_
      refine mm_rgr X I fl_X5_9 dX5_at_17 h (fun v2 h => ?_)
      refine lv_iload_n X.1 X.2.1 dX5_at_20 rfl (lv_at hl 1 rfl) ?_
      refine mm_ria X I dX5_at_21 h (fun v3 h => ?_)
      exact mm_xi X I hr hlk dX5_at_22 h
    · refine lv_iconst (v := (-1)) X.1 X.2.1 dX5_at_12 (by decide) ?_
      refine lv_goto (tgt := 22) X.1 X.2.1 dX5_at_13 (by decide) ?_
      exact mm_xi X I hr hlk dX5_at_22 h
set_option maxHeartbeats 4000000 in
set_option maxRecDepth 100000 in
theorem wpX5_shared_l3 {p : Program} {l : Launch} {e : Env} {s : State} {m : MethodId} {args : Array Value} {below : List Frame} {meth : Method} {c : Code} {D : va_G} {dA : Nat → ClassId} {lo : Nat} (X : mm_C D dA lo cX5_shared RX5 5 p s m args c) (hr : meth.sig.returnType = (some .int)) (hlk : meth.locks = false) (n : Nat) {o : Int32 × mm_M} (k : Nat) : ∀ (M : mm_M) (a0 : Nat) (x1 : Int32) (a2 : Nat) (x3 : Int32) (x4 : Int32) (H : Heap) (locs : List Loc) (ls : Array Slot), mm_I D dA lo s M H locs → lv_has ls 5 [(0, .ref a0), (1, .int x1), (2, .ref a2), (3, .int x3), (4, .int x4)] → pX5_shared_l3 n k M a0 x1 a2 x3 x4 = some o → W p l e (mm_rm 1 21 0 0) s m args below meth c H locs 0 0 (MQ below (mm_Q D dA lo (some (.int o.1)) o.2) args s 0 0 (mm_fr lo)) (F0 m 3 ls []) := by
  induction k with
  | zero =>
    intro M a0 x1 a2 x3 x4 H locs ls I hl h
    have h : (none : Option (Int32 × mm_M)) = some o := h
    cases h
  | succ k ih =>
    intro M a0 x1 a2 x3 x4 H locs ls I hl h
    have h : pX5_shared_l3b n (pX5_shared_l3 n k) M a0 x1 a2 x3 x4 = some o := h
    unfold pX5_shared_l3b at h
    refine lv_iload X.1 X.2.1 dX5_shared_3 (lv_at hl 4 rfl) ?_
    refine lv_bipush (v := 20) X.1 X.2.1 dX5_shared_5 (by decide) ?_
    refine mm_kge (tgt := 47) X dX5_shared_7 (by decide) h (fun h => ?_) (fun h => ?_)
    · refine lv_iload X.1 X.2.1 dX5_shared_47 (lv_at hl 4 rfl) ?_
      exact mm_xi X I hr hlk dX5_shared_49 h
    · refine lv_aload_n X.1 X.2.1 dX5_shared_10 rfl (lv_at hl 0 rfl) ?_
      refine lv_iload_n X.1 X.2.1 dX5_shared_11 rfl (lv_at hl 1 rfl) ?_
      refine lv_iload X.1 X.2.1 dX5_shared_12 (lv_at hl 4 rfl) ?_
      refine lv_iadd X.1 X.2.1 dX5_shared_14 ?_
      refine mm_cVi X I hl (As := [.int (x1 + x4)]) (ci := 5) md_X5_at mv_X5_at ml_X5_29 rfl (kX5_at (n := n)) (by decide) ⟨Nat.le_refl 0, Nat.le_refl 0⟩ rfl rfl (Nat.le_of_ble_eq_true rfl) dX5_shared_15 h (fun v1 M H locs I h => ?_)
      refine lv_iconst (v := (-1)) X.1 X.2.1 dX5_shared_18 (by decide) ?_
      refine mm_keq (tgt := 47) X dX5_shared_19 (by decide) h (fun h => ?_) (fun h => ?_)
      · refine lv_iload X.1 X.2.1 dX5_shared_47 (lv_at hl 4 rfl) ?_
        exact mm_xi X I hr hlk dX5_shared_49 h
      · refine lv_aload_n X.1 X.2.1 dX5_shared_22 rfl (lv_at hl 0 rfl) ?_
        refine lv_iload_n X.1 X.2.1 dX5_shared_23 rfl (lv_at hl 1 rfl) ?_
        refine lv_iload X.1 X.2.1 dX5_shared_24 (lv_at hl 4 rfl) ?_
        refine lv_iadd X.1 X.2.1 dX5_shared_26 ?_
        refine mm_cVi X I hl (As := [.int (x1 + x4)]) (ci := 5) md_X5_at mv_X5_at ml_X5_29 rfl (kX5_at (n := n)) (by decide) ⟨Nat.le_refl 0, Nat.le_refl 0⟩ rfl rfl (Nat.le_of_ble_eq_true rfl) dX5_shared_27 h (fun v2 M H locs I h => ?_)
        refine lv_aload_n X.1 X.2.1 dX5_shared_30 rfl (lv_at hl 2 rfl) ?_
        refine lv_iload_n X.1 X.2.1 dX5_shared_31 rfl (lv_at hl 3 rfl) ?_
        refine lv_iload X.1 X.2.1 dX5_shared_32 (lv_at hl 4 rfl) ?_
        refine lv_iadd X.1 X.2.1 dX5_shared_34 ?_
        refine mm_cVi X I hl (As := [.int (x3 + x4)]) (ci := 5) md_X5_at mv_X5_at ml_X5_29 rfl (kX5_at (n := n)) (by decide) ⟨Nat.le_refl 0, Nat.le_refl 0⟩ rfl rfl (Nat.le_of_ble_eq_true rfl) dX5_shared_35 h (fun v3 M H locs I h => ?_)
        refine mm_kne (tgt := 47) X dX5_shared_38 (by decide) h (fun h => ?_) (fun h => ?_)
        · refine lv_iload X.1 X.2.1 dX5_shared_47 (lv_at hl 4 rfl) ?_
          exact mm_xi X I hr hlk dX5_shared_49 h
        · refine lv_iinc (v := (x4 + 1)) (lv' := [(4, .int (x4 + 1)), (0, .ref a0), (1, .int x1), (2, .ref a2), (3, .int x3)]) X.1 X.2.1 dX5_shared_41 hl (k := 4) rfl rfl (by decide) rfl (fun ls hl => ?_)
          refine lv_goto (tgt := 3) X.1 X.2.1 dX5_shared_44 (by decide) ?_
          exact ih M _ _ _ _ _ _ _ _ I (lv_sub hl [1, 2, 3, 4, 0] rfl) h
set_option maxHeartbeats 4000000 in
set_option maxRecDepth 100000 in
theorem kX5_shared {l : Launch} {D : va_G} {dA : Nat → ClassId} {lo : Nat} {n : Nat} {M : mm_M} {a0 : Nat} {x1 : Int32} {a2 : Nat} {x3 : Int32} (o : Int32 × mm_M) (h : pX5_shared n M a0 x1 a2 x3 = some o) : (∃ fs, M.2 a0 = some (mm_ob 5 fs)) ∧ mm_Met l D dA lo yX5_shared cX5_shared 5 (some .int) 1 21 0 0 [.ref a0, .int x1, .ref a2, .int x3] M (some (.int o.1)) o.2 := by
  unfold pX5_shared at h
  obtain ⟨hob, h⟩ := mm_v_some h
  refine ⟨hob, mm_enter (by decide) (Nat.le_of_ble_eq_true rfl) (fun p e s m args below meth c ls X hr hlk hnm I hl => ?_)⟩
  have X : mm_C D dA lo cX5_shared RX5 5 p s m args c := X
  have hl : lv_has ls 5 [(0, .ref a0), (1, .int x1), (2, .ref a2), (3, .int x3)] := hl
  refine lv_iconst (v := 0) X.1 X.2.1 dX5_shared_0 (by decide) ?_
  refine lv_istore (lv' := [(4, .int 0), (0, .ref a0), (1, .int x1), (2, .ref a2), (3, .int x3)]) X.1 X.2.1 dX5_shared_1 hl (by decide) rfl (fun ls hl => ?_)
  exact wpX5_shared_l3 X hr hlk n  n M _ _ _ _ _ _ _ _ I (lv_sub hl [1, 2, 3, 4, 0] rfl) h
set_option maxHeartbeats 4000000 in
set_option maxRecDepth 100000 in
theorem kX3_shared {l : Launch} {D : va_G} {dA : Nat → ClassId} {lo : Nat} {n : Nat} {M : mm_M} {a0 : Nat} {x1 : Int32} (o : Int32 × mm_M) (h : pX3_shared n M a0 x1 = some o) : (∃ fs, M.2 a0 = some (mm_ob 3 fs)) ∧ mm_Met l D dA lo yX3_shared cX3_shared 3 (some .int) 2 45 0 0 [.ref a0, .int x1] M (some (.int o.1)) o.2 := by
  unfold pX3_shared at h
  obtain ⟨hob, h⟩ := mm_v_some h
  refine ⟨hob, mm_enter (by decide) (Nat.le_of_ble_eq_true rfl) (fun p e s m args below meth c ls X hr hlk hnm I hl => ?_)⟩
  have X : mm_C D dA lo cX3_shared RX3 3 p s m args c := X
  have hl : lv_has ls 3 [(0, .ref a0), (1, .int x1)] := hl
  refine lv_aload_n X.1 X.2.1 dX3_shared_0 rfl (lv_at hl 0 rfl) ?_
  refine lv_iload_n X.1 X.2.1 dX3_shared_1 rfl (lv_at hl 1 rfl) ?_
  refine mm_cVi X I hl (As := [.int x1]) (ci := 3) md_X3_has mv_X3_has ml_X3_66 rfl (kX3_has (n := n)) (by decide) ⟨Nat.le_refl 0, Nat.le_refl 0⟩ rfl rfl (Nat.le_of_ble_eq_true rfl) dX3_shared_2 h (fun v1 M H locs I h => ?_)
  refine mm_jeq (tgt := 18) X dX3_shared_5 (by decide) h (fun h => ?_) (fun h => ?_)
  · refine lv_iconst (v := (-1)) X.1 X.2.1 dX3_shared_18 (by decide) ?_
    exact mm_xi X I hr hlk dX3_shared_19 h
  · refine lv_aload_n X.1 X.2.1 dX3_shared_8 rfl (lv_at hl 0 rfl) ?_
    refine lv_iload_n X.1 X.2.1 dX3_shared_9 rfl (lv_at hl 1 rfl) ?_
    refine lv_iconst (v := 1) X.1 X.2.1 dX3_shared_10 (by decide) ?_
    refine lv_iadd X.1 X.2.1 dX3_shared_11 ?_
    refine mm_cVi X I hl (As := [.int (x1 + 1)]) (ci := 3) md_X3_has mv_X3_has ml_X3_66 rfl (kX3_has (n := n)) (by decide) ⟨Nat.le_refl 0, Nat.le_refl 0⟩ rfl rfl (Nat.le_of_ble_eq_true rfl) dX3_shared_12 h (fun v2 M H locs I h => ?_)
    refine mm_jne (tgt := 20) X dX3_shared_15 (by decide) h (fun h => ?_) (fun h => ?_)
    · refine lv_aload_n X.1 X.2.1 dX3_shared_20 rfl (lv_at hl 0 rfl) ?_
      refine mm_rgr X I fl_X3_15 dX3_shared_21 h (fun v3 h => ?_)
      refine mm_rgr X I fl_X3_25 dX3_shared_24 h (fun v4 h => ?_)
      refine lv_aload_n X.1 X.2.1 dX3_shared_27 rfl (lv_at hl 0 rfl) ?_
      refine lv_iload_n X.1 X.2.1 dX3_shared_28 rfl (lv_at hl 1 rfl) ?_
      refine lv_iconst (v := 1) X.1 X.2.1 dX3_shared_29 (by decide) ?_
      refine lv_iadd X.1 X.2.1 dX3_shared_30 ?_
      refine mm_cVi X I hl (As := [.int (x1 + 1)]) (ci := 3) md_X3_lineOf mv_X3_lineOf ml_X3_49 rfl (kX3_lineOf (n := n)) (by decide) ⟨Nat.le_refl 0, Nat.le_refl 0⟩ rfl rfl (Nat.le_of_ble_eq_true rfl) dX3_shared_31 h (fun v5 M H locs I h => ?_)
      refine mm_rra X I dX3_shared_34 h (fun v6 h => ?_)
      refine mm_rgr X I fl_X3_29 dX3_shared_35 h (fun v7 h => ?_)
      refine lv_astore_n (lv' := [(2, .ref v7), (0, .ref a0), (1, .int x1)]) X.1 X.2.1 dX3_shared_38 rfl hl (by decide) rfl (fun ls hl => ?_)
      refine lv_aload_n X.1 X.2.1 dX3_shared_39 rfl (lv_at hl 1 rfl) ?_
      refine mm_rgr X I fl_X3_15 dX3_shared_40 h (fun v8 h => ?_)
      refine mm_rgr X I fl_X3_25 dX3_shared_43 h (fun v9 h => ?_)
      refine lv_aload_n X.1 X.2.1 dX3_shared_46 rfl (lv_at hl 1 rfl) ?_
      refine lv_iload_n X.1 X.2.1 dX3_shared_47 rfl (lv_at hl 2 rfl) ?_
      refine mm_cVi X I hl (As := [.int x1]) (ci := 3) md_X3_lineOf mv_X3_lineOf ml_X3_49 rfl (kX3_lineOf (n := n)) (by decide) ⟨Nat.le_refl 0, Nat.le_refl 0⟩ rfl rfl (Nat.le_of_ble_eq_true rfl) dX3_shared_48 h (fun v10 M H locs I h => ?_)
      refine mm_rra X I dX3_shared_51 h (fun v11 h => ?_)
      refine mm_rgr X I fl_X3_29 dX3_shared_52 h (fun v12 h => ?_)
      refine lv_aload_n X.1 X.2.1 dX3_shared_55 rfl (lv_at hl 1 rfl) ?_
      refine lv_iload_n X.1 X.2.1 dX3_shared_56 rfl (lv_at hl 2 rfl) ?_
      refine mm_cVi X I hl (As := [.int x1]) (ci := 3) md_X3_placeOf mv_X3_placeOf ml_X3_53 rfl (kX3_placeOf (n := n)) (by decide) ⟨Nat.le_refl 0, Nat.le_refl 0⟩ rfl rfl (Nat.le_of_ble_eq_true rfl) dX3_shared_57 h (fun v13 M H locs I h => ?_)
      refine lv_aload_n X.1 X.2.1 dX3_shared_60 rfl (lv_at hl 0 rfl) ?_
      refine lv_aload_n X.1 X.2.1 dX3_shared_61 rfl (lv_at hl 1 rfl) ?_
      refine lv_iload_n X.1 X.2.1 dX3_shared_62 rfl (lv_at hl 2 rfl) ?_
      refine lv_iconst (v := 1) X.1 X.2.1 dX3_shared_63 (by decide) ?_
      refine lv_iadd X.1 X.2.1 dX3_shared_64 ?_
      refine mm_cVi X I hl (As := [.int (x1 + 1)]) (ci := 3) md_X3_placeOf mv_X3_placeOf ml_X3_53 rfl (kX3_placeOf (n := n)) (by decide) ⟨Nat.le_refl 0, Nat.le_refl 0⟩ rfl rfl (Nat.le_of_ble_eq_true rfl) dX3_shared_65 h (fun v14 M H locs I h => ?_)
      refine mm_cVi X I hl (As := [.int v13, .ref v7, .int v14]) (ci := 5) md_X5_shared mv_X5_shared ml_X3_69 rfl (kX5_shared (n := n)) (by decide) ⟨Nat.le_refl 0, Nat.le_refl 0⟩ rfl rfl (Nat.le_of_ble_eq_true rfl) dX3_shared_68 h (fun v15 M H locs I h => ?_)
      exact mm_xi X I hr hlk dX3_shared_71 h
    · refine lv_iconst (v := (-1)) X.1 X.2.1 dX3_shared_18 (by decide) ?_
      exact mm_xi X I hr hlk dX3_shared_19 h
set_option maxHeartbeats 4000000 in
set_option maxRecDepth 100000 in
theorem wpX3_mostShared_l6 {p : Program} {l : Launch} {e : Env} {s : State} {m : MethodId} {args : Array Value} {below : List Frame} {meth : Method} {c : Code} {D : va_G} {dA : Nat → ClassId} {lo : Nat} (X : mm_C D dA lo cX3_mostShared RX3 5 p s m args c) (hr : meth.sig.returnType = (some .int)) (hlk : meth.locks = false) (n : Nat) {o : Int32 × mm_M} (k : Nat) : ∀ (M : mm_M) (a0 : Nat) (x1 : Int32) (x2 : Int32) (x3 : Int32) (H : Heap) (locs : List Loc) (ls : Array Slot), mm_I D dA lo s M H locs → lv_has ls 5 [(0, .ref a0), (1, .int x1), (2, .int x2), (3, .int x3)] → pX3_mostShared_l6 n k M a0 x1 x2 x3 = some o → W p l e (mm_rm 3 67 0 0) s m args below meth c H locs 0 0 (MQ below (mm_Q D dA lo (some (.int o.1)) o.2) args s 0 0 (mm_fr lo)) (F0 m 6 ls []) := by
  induction k with
  | zero =>
    intro M a0 x1 x2 x3 H locs ls I hl h
    have h : (none : Option (Int32 × mm_M)) = some o := h
    cases h
  | succ k ih =>
    intro M a0 x1 x2 x3 H locs ls I hl h
    have h : pX3_mostShared_l6b n (pX3_mostShared_l6 n k) M a0 x1 x2 x3 = some o := h
    unfold pX3_mostShared_l6b at h
    refine lv_iload_n X.1 X.2.1 dX3_mostShared_6 rfl (lv_at hl 3 rfl) ?_
    refine lv_aload_n X.1 X.2.1 dX3_mostShared_7 rfl (lv_at hl 0 rfl) ?_
    refine mm_rgi X I fl_X3_48 dX3_mostShared_8 h (fun v1 h => ?_)
    refine mm_kge (tgt := 38) X dX3_mostShared_11 (by decide) h (fun h => ?_) (fun h => ?_)
    · refine lv_iload_n X.1 X.2.1 dX3_mostShared_38 rfl (lv_at hl 1 rfl) ?_
      exact mm_xi X I hr hlk dX3_mostShared_39 h
    · refine lv_aload_n X.1 X.2.1 dX3_mostShared_14 rfl (lv_at hl 0 rfl) ?_
      refine lv_iload_n X.1 X.2.1 dX3_mostShared_15 rfl (lv_at hl 3 rfl) ?_
      refine mm_cVi X I hl (As := [.int x3]) (ci := 3) md_X3_shared mv_X3_shared ml_X3_73 rfl (kX3_shared (n := n)) (by decide) ⟨Nat.le_refl 0, Nat.le_refl 0⟩ rfl rfl (Nat.le_of_ble_eq_true rfl) dX3_mostShared_16 h (fun v2 M H locs I h => ?_)
      refine lv_istore (lv' := [(4, .int v2), (0, .ref a0), (1, .int x1), (2, .int x2), (3, .int x3)]) X.1 X.2.1 dX3_mostShared_19 hl (by decide) rfl (fun ls hl => ?_)
      refine lv_iload X.1 X.2.1 dX3_mostShared_21 (lv_at hl 0 rfl) ?_
      refine lv_iload_n X.1 X.2.1 dX3_mostShared_23 rfl (lv_at hl 3 rfl) ?_
      refine mm_kle (tgt := 32) X dX3_mostShared_24 (by decide) h (fun h => ?_) (fun h => ?_)
      · refine lv_iinc (v := (x3 + 1)) (lv' := [(3, .int (x3 + 1)), (4, .int v2), (0, .ref a0), (1, .int x1), (2, .int x2)]) X.1 X.2.1 dX3_mostShared_32 hl (k := 4) rfl rfl (by decide) rfl (fun ls hl => ?_)
        refine lv_goto (tgt := 6) X.1 X.2.1 dX3_mostShared_35 (by decide) ?_
        exact ih M _ _ _ _ _ _ _ I (lv_sub hl [2, 3, 4, 0] rfl) h
      · refine lv_iload X.1 X.2.1 dX3_mostShared_27 (lv_at hl 0 rfl) ?_
        refine lv_istore_n (lv' := [(2, .int v2), (4, .int v2), (0, .ref a0), (1, .int x1), (3, .int x3)]) X.1 X.2.1 dX3_mostShared_29 rfl hl (by decide) rfl (fun ls hl => ?_)
        refine lv_iload_n X.1 X.2.1 dX3_mostShared_30 rfl (lv_at hl 4 rfl) ?_
        refine lv_istore_n (lv' := [(1, .int x3), (2, .int v2), (4, .int v2), (0, .ref a0), (3, .int x3)]) X.1 X.2.1 dX3_mostShared_31 rfl hl (by decide) rfl (fun ls hl => ?_)
        refine lv_iinc (v := (x3 + 1)) (lv' := [(3, .int (x3 + 1)), (1, .int x3), (2, .int v2), (4, .int v2), (0, .ref a0)]) X.1 X.2.1 dX3_mostShared_32 hl (k := 4) rfl rfl (by decide) rfl (fun ls hl => ?_)
        refine lv_goto (tgt := 6) X.1 X.2.1 dX3_mostShared_35 (by decide) ?_
        exact ih M _ _ _ _ _ _ _ I (lv_sub hl [4, 1, 2, 0] rfl) h
set_option maxHeartbeats 4000000 in
set_option maxRecDepth 100000 in
theorem kX3_mostShared {l : Launch} {D : va_G} {dA : Nat → ClassId} {lo : Nat} {n : Nat} {M : mm_M} {a0 : Nat} (o : Int32 × mm_M) (h : pX3_mostShared n M a0 = some o) : (∃ fs, M.2 a0 = some (mm_ob 3 fs)) ∧ mm_Met l D dA lo yX3_mostShared cX3_mostShared 5 (some .int) 3 67 0 0 [.ref a0] M (some (.int o.1)) o.2 := by
  unfold pX3_mostShared at h
  obtain ⟨hob, h⟩ := mm_v_some h
  refine ⟨hob, mm_enter (by decide) (Nat.le_of_ble_eq_true rfl) (fun p e s m args below meth c ls X hr hlk hnm I hl => ?_)⟩
  have X : mm_C D dA lo cX3_mostShared RX3 5 p s m args c := X
  have hl : lv_has ls 5 [(0, .ref a0)] := hl
  refine lv_iconst (v := (-1)) X.1 X.2.1 dX3_mostShared_0 (by decide) ?_
  refine lv_istore_n (lv' := [(1, .int (-1)), (0, .ref a0)]) X.1 X.2.1 dX3_mostShared_1 rfl hl (by decide) rfl (fun ls hl => ?_)
  refine lv_iconst (v := 0) X.1 X.2.1 dX3_mostShared_2 (by decide) ?_
  refine lv_istore_n (lv' := [(2, .int 0), (1, .int (-1)), (0, .ref a0)]) X.1 X.2.1 dX3_mostShared_3 rfl hl (by decide) rfl (fun ls hl => ?_)
  refine lv_iconst (v := 0) X.1 X.2.1 dX3_mostShared_4 (by decide) ?_
  refine lv_istore_n (lv' := [(3, .int 0), (2, .int 0), (1, .int (-1)), (0, .ref a0)]) X.1 X.2.1 dX3_mostShared_5 rfl hl (by decide) rfl (fun ls hl => ?_)
  exact wpX3_mostShared_l6 X hr hlk n  n M _ _ _ _ _ _ _ I (lv_sub hl [3, 2, 1, 0] rfl) h
set_option maxHeartbeats 4000000 in
set_option maxRecDepth 100000 in
theorem kX3_opensWord {l : Launch} {D : va_G} {dA : Nat → ClassId} {lo : Nat} {n : Nat} {M : mm_M} {a0 : Nat} {x1 : Int32} {x2 : Int32} (o : Int32 × mm_M) (h : pX3_opensWord n M a0 x1 x2 = some o) : (∃ fs, M.2 a0 = some (mm_ob 3 fs)) ∧ mm_Met l D dA lo yX3_opensWord cX3_opensWord 3 (some .boolean) 3 67 0 0 [.ref a0, .int x1, .int x2] M (some (.int o.1)) o.2 := by
  unfold pX3_opensWord at h
  obtain ⟨hob, h⟩ := mm_v_some h
  refine ⟨hob, mm_enter (by decide) (Nat.le_of_ble_eq_true rfl) (fun p e s m args below meth c ls X hr hlk hnm I hl => ?_)⟩
  have X : mm_C D dA lo cX3_opensWord RX3 3 p s m args c := X
  have hl : lv_has ls 3 [(0, .ref a0), (1, .int x1), (2, .int x2)] := hl
  refine lv_aload_n X.1 X.2.1 dX3_opensWord_0 rfl (lv_at hl 0 rfl) ?_
  refine lv_iload_n X.1 X.2.1 dX3_opensWord_1 rfl (lv_at hl 1 rfl) ?_
  refine mm_cVi X I hl (As := [.int x1]) (ci := 3) md_X3_signsFrom mv_X3_signsFrom ml_X3_75 rfl (kX3_signsFrom (n := n)) (by decide) ⟨Nat.le_refl 0, Nat.le_refl 0⟩ rfl rfl (Nat.le_of_ble_eq_true rfl) dX3_opensWord_2 h (fun v1 M H locs I h => ?_)
  refine lv_iload_n X.1 X.2.1 dX3_opensWord_5 rfl (lv_at hl 2 rfl) ?_
  refine mm_klt (tgt := 24) X dX3_opensWord_6 (by decide) h (fun h => ?_) (fun h => ?_)
  · refine lv_iconst (v := 0) X.1 X.2.1 dX3_opensWord_24 (by decide) ?_
    exact mm_xz0 X I hr hlk dX3_opensWord_25 h
  · refine lv_aload_n X.1 X.2.1 dX3_opensWord_9 rfl (lv_at hl 0 rfl) ?_
    refine lv_iload_n X.1 X.2.1 dX3_opensWord_10 rfl (lv_at hl 1 rfl) ?_
    refine lv_iconst (v := 1) X.1 X.2.1 dX3_opensWord_11 (by decide) ?_
    refine lv_isub X.1 X.2.1 dX3_opensWord_12 ?_
    refine mm_cVi X I hl (As := [.int (x1 - 1)]) (ci := 3) md_X3_shared mv_X3_shared ml_X3_73 rfl (kX3_shared (n := n)) (by decide) ⟨Nat.le_refl 0, Nat.le_refl 0⟩ rfl rfl (Nat.le_of_ble_eq_true rfl) dX3_opensWord_13 h (fun v2 M H locs I h => ?_)
    refine lv_iload_n X.1 X.2.1 dX3_opensWord_16 rfl (lv_at hl 2 rfl) ?_
    refine mm_kge (tgt := 24) X dX3_opensWord_17 (by decide) h (fun h => ?_) (fun h => ?_)
    · refine lv_iconst (v := 0) X.1 X.2.1 dX3_opensWord_24 (by decide) ?_
      exact mm_xz0 X I hr hlk dX3_opensWord_25 h
    · refine lv_iconst (v := 1) X.1 X.2.1 dX3_opensWord_20 (by decide) ?_
      refine lv_goto (tgt := 25) X.1 X.2.1 dX3_opensWord_21 (by decide) ?_
      exact mm_xz1 X I hr hlk dX3_opensWord_25 h
set_option maxHeartbeats 4000000 in
set_option maxRecDepth 100000 in
theorem wpX3_wordHits_l2 {p : Program} {l : Launch} {e : Env} {s : State} {m : MethodId} {args : Array Value} {below : List Frame} {meth : Method} {c : Code} {D : va_G} {dA : Nat → ClassId} {lo : Nat} (X : mm_C D dA lo cX3_wordHits RX3 4 p s m args c) (hr : meth.sig.returnType = (some .int)) (hlk : meth.locks = false) (n : Nat) {o : Int32 × mm_M} (k : Nat) : ∀ (M : mm_M) (a0 : Nat) (x1 : Int32) (x2 : Int32) (x3 : Int32) (H : Heap) (locs : List Loc) (ls : Array Slot), mm_I D dA lo s M H locs → lv_has ls 4 [(0, .ref a0), (1, .int x1), (2, .int x2), (3, .int x3)] → pX3_wordHits_l2 n k M a0 x1 x2 x3 = some o → W p l e (mm_rm 3 67 0 0) s m args below meth c H locs 0 0 (MQ below (mm_Q D dA lo (some (.int o.1)) o.2) args s 0 0 (mm_fr lo)) (F0 m 2 ls []) := by
  induction k with
  | zero =>
    intro M a0 x1 x2 x3 H locs ls I hl h
    have h : (none : Option (Int32 × mm_M)) = some o := h
    cases h
  | succ k ih =>
    intro M a0 x1 x2 x3 H locs ls I hl h
    have h : pX3_wordHits_l2b n (pX3_wordHits_l2 n k) M a0 x1 x2 x3 = some o := h
    unfold pX3_wordHits_l2b at h
    refine lv_iload_n X.1 X.2.1 dX3_wordHits_2 rfl (lv_at hl 1 rfl) ?_
    refine lv_iload_n X.1 X.2.1 dX3_wordHits_3 rfl (lv_at hl 3 rfl) ?_
    refine lv_iadd X.1 X.2.1 dX3_wordHits_4 ?_
    refine lv_aload_n X.1 X.2.1 dX3_wordHits_5 rfl (lv_at hl 0 rfl) ?_
    refine mm_rgi X I fl_X3_48 dX3_wordHits_6 h (fun v1 h => ?_)
    refine mm_kge (tgt := 31) X dX3_wordHits_9 (by decide) h (fun h => ?_) (fun h => ?_)
    · refine lv_iload_n X.1 X.2.1 dX3_wordHits_31 rfl (lv_at hl 3 rfl) ?_
      exact mm_xi X I hr hlk dX3_wordHits_32 h
    · refine lv_aload_n X.1 X.2.1 dX3_wordHits_12 rfl (lv_at hl 0 rfl) ?_
      refine lv_iload_n X.1 X.2.1 dX3_wordHits_13 rfl (lv_at hl 1 rfl) ?_
      refine lv_iload_n X.1 X.2.1 dX3_wordHits_14 rfl (lv_at hl 3 rfl) ?_
      refine lv_iadd X.1 X.2.1 dX3_wordHits_15 ?_
      refine lv_iconst (v := 1) X.1 X.2.1 dX3_wordHits_16 (by decide) ?_
      refine lv_isub X.1 X.2.1 dX3_wordHits_17 ?_
      refine mm_cVi X I hl (As := [.int ((x1 + x3) - 1)]) (ci := 3) md_X3_shared mv_X3_shared ml_X3_73 rfl (kX3_shared (n := n)) (by decide) ⟨Nat.le_refl 0, Nat.le_refl 0⟩ rfl rfl (Nat.le_of_ble_eq_true rfl) dX3_wordHits_18 h (fun v2 M H locs I h => ?_)
      refine lv_iload_n X.1 X.2.1 dX3_wordHits_21 rfl (lv_at hl 2 rfl) ?_
      refine mm_klt (tgt := 31) X dX3_wordHits_22 (by decide) h (fun h => ?_) (fun h => ?_)
      · refine lv_iload_n X.1 X.2.1 dX3_wordHits_31 rfl (lv_at hl 3 rfl) ?_
        exact mm_xi X I hr hlk dX3_wordHits_32 h
      · refine lv_iinc (v := (x3 + 1)) (lv' := [(3, .int (x3 + 1)), (0, .ref a0), (1, .int x1), (2, .int x2)]) X.1 X.2.1 dX3_wordHits_25 hl (k := 3) rfl rfl (by decide) rfl (fun ls hl => ?_)
        refine lv_goto (tgt := 2) X.1 X.2.1 dX3_wordHits_28 (by decide) ?_
        exact ih M _ _ _ _ _ _ _ I (lv_sub hl [1, 2, 3, 0] rfl) h
set_option maxHeartbeats 4000000 in
set_option maxRecDepth 100000 in
theorem kX3_wordHits {l : Launch} {D : va_G} {dA : Nat → ClassId} {lo : Nat} {n : Nat} {M : mm_M} {a0 : Nat} {x1 : Int32} {x2 : Int32} (o : Int32 × mm_M) (h : pX3_wordHits n M a0 x1 x2 = some o) : (∃ fs, M.2 a0 = some (mm_ob 3 fs)) ∧ mm_Met l D dA lo yX3_wordHits cX3_wordHits 4 (some .int) 3 67 0 0 [.ref a0, .int x1, .int x2] M (some (.int o.1)) o.2 := by
  unfold pX3_wordHits at h
  obtain ⟨hob, h⟩ := mm_v_some h
  refine ⟨hob, mm_enter (by decide) (Nat.le_of_ble_eq_true rfl) (fun p e s m args below meth c ls X hr hlk hnm I hl => ?_)⟩
  have X : mm_C D dA lo cX3_wordHits RX3 4 p s m args c := X
  have hl : lv_has ls 4 [(0, .ref a0), (1, .int x1), (2, .int x2)] := hl
  refine lv_iconst (v := 1) X.1 X.2.1 dX3_wordHits_0 (by decide) ?_
  refine lv_istore_n (lv' := [(3, .int 1), (0, .ref a0), (1, .int x1), (2, .int x2)]) X.1 X.2.1 dX3_wordHits_1 rfl hl (by decide) rfl (fun ls hl => ?_)
  exact wpX3_wordHits_l2 X hr hlk n  n M _ _ _ _ _ _ _ I (lv_sub hl [1, 2, 3, 0] rfl) h
set_option maxHeartbeats 4000000 in
set_option maxRecDepth 100000 in
theorem wpX3_mostFrequent_b37 {p : Program} {l : Launch} {e : Env} {s : State} {m : MethodId} {args : Array Value} {below : List Frame} {meth : Method} {c : Code} {D : va_G} {dA : Nat → ClassId} {lo : Nat} (X : mm_C D dA lo cX3_mostFrequent RX3 6 p s m args c) (hr : meth.sig.returnType = (some .int)) (hlk : meth.locks = false) (n : Nat) {o : Int32 × mm_M} {K7 : mm_M → Nat → Int32 → Int32 → Int32 → Int32 → Option (Int32 × mm_M)} (k7 : ∀ (M : mm_M) (a0 : Nat) (x1 : Int32) (x2 : Int32) (x3 : Int32) (x4 : Int32) (H : Heap) (locs : List Loc) (ls : Array Slot), mm_I D dA lo s M H locs → lv_has ls 6 [(0, .ref a0), (1, .int x1), (2, .int x2), (3, .int x3), (4, .int x4)] → K7 M a0 x1 x2 x3 x4 = some o → W p l e (mm_rm 4 90 0 0) s m args below meth c H locs 0 0 (MQ below (mm_Q D dA lo (some (.int o.1)) o.2) args s 0 0 (mm_fr lo)) (F0 m 7 ls []))  : ∀ (M : mm_M) (a0 : Nat) (x1 : Int32) (x2 : Int32) (x3 : Int32) (x4 : Int32) (s0 : Int32) (H : Heap) (locs : List Loc) (ls : Array Slot), mm_I D dA lo s M H locs → lv_has ls 6 [(0, .ref a0), (1, .int x1), (2, .int x2), (3, .int x3), (4, .int x4)] → pX3_mostFrequent_b37 n K7 M a0 x1 x2 x3 x4 s0 = some o → W p l e (mm_rm 4 90 0 0) s m args below meth c H locs 0 0 (MQ below (mm_Q D dA lo (some (.int o.1)) o.2) args s 0 0 (mm_fr lo)) (F0 m 37 ls [.int s0]) := by
  intro M a0 x1 x2 x3 x4 s0 H locs ls I hl h
  unfold pX3_mostFrequent_b37 at h
  refine lv_istore (lv' := [(5, .int s0), (0, .ref a0), (1, .int x1), (2, .int x2), (3, .int x3), (4, .int x4)]) X.1 X.2.1 dX3_mostFrequent_37 hl (by decide) rfl (fun ls hl => ?_)
  refine lv_iload X.1 X.2.1 dX3_mostFrequent_39 (lv_at hl 0 rfl) ?_
  refine lv_iload_n X.1 X.2.1 dX3_mostFrequent_41 rfl (lv_at hl 4 rfl) ?_
  refine mm_kle (tgt := 51) X dX3_mostFrequent_42 (by decide) h (fun h => ?_) (fun h => ?_)
  · refine lv_iinc (v := (x4 + 1)) (lv' := [(4, .int (x4 + 1)), (5, .int s0), (0, .ref a0), (1, .int x1), (2, .int x2), (3, .int x3)]) X.1 X.2.1 dX3_mostFrequent_51 hl (k := 5) rfl rfl (by decide) rfl (fun ls hl => ?_)
    refine lv_goto (tgt := 7) X.1 X.2.1 dX3_mostFrequent_54 (by decide) ?_
    exact k7 M _ _ _ _ _ _ _ _ I (lv_sub hl [2, 3, 4, 5, 0] rfl) h
  · refine lv_iload X.1 X.2.1 dX3_mostFrequent_45 (lv_at hl 0 rfl) ?_
    refine lv_istore_n (lv' := [(3, .int s0), (5, .int s0), (0, .ref a0), (1, .int x1), (2, .int x2), (4, .int x4)]) X.1 X.2.1 dX3_mostFrequent_47 rfl hl (by decide) rfl (fun ls hl => ?_)
    refine lv_iload X.1 X.2.1 dX3_mostFrequent_48 (lv_at hl 5 rfl) ?_
    refine lv_istore_n (lv' := [(2, .int x4), (3, .int s0), (5, .int s0), (0, .ref a0), (1, .int x1), (4, .int x4)]) X.1 X.2.1 dX3_mostFrequent_50 rfl hl (by decide) rfl (fun ls hl => ?_)
    refine lv_iinc (v := (x4 + 1)) (lv' := [(4, .int (x4 + 1)), (2, .int x4), (3, .int s0), (5, .int s0), (0, .ref a0), (1, .int x1)]) X.1 X.2.1 dX3_mostFrequent_51 hl (k := 5) rfl rfl (by decide) rfl (fun ls hl => ?_)
    refine lv_goto (tgt := 7) X.1 X.2.1 dX3_mostFrequent_54 (by decide) ?_
    exact k7 M _ _ _ _ _ _ _ _ I (lv_sub hl [4, 5, 1, 2, 0] rfl) h
set_option maxHeartbeats 4000000 in
set_option maxRecDepth 100000 in
theorem wpX3_mostFrequent_l7 {p : Program} {l : Launch} {e : Env} {s : State} {m : MethodId} {args : Array Value} {below : List Frame} {meth : Method} {c : Code} {D : va_G} {dA : Nat → ClassId} {lo : Nat} (X : mm_C D dA lo cX3_mostFrequent RX3 6 p s m args c) (hr : meth.sig.returnType = (some .int)) (hlk : meth.locks = false) (n : Nat) {o : Int32 × mm_M} (k : Nat) : ∀ (M : mm_M) (a0 : Nat) (x1 : Int32) (x2 : Int32) (x3 : Int32) (x4 : Int32) (H : Heap) (locs : List Loc) (ls : Array Slot), mm_I D dA lo s M H locs → lv_has ls 6 [(0, .ref a0), (1, .int x1), (2, .int x2), (3, .int x3), (4, .int x4)] → pX3_mostFrequent_l7 n k M a0 x1 x2 x3 x4 = some o → W p l e (mm_rm 4 90 0 0) s m args below meth c H locs 0 0 (MQ below (mm_Q D dA lo (some (.int o.1)) o.2) args s 0 0 (mm_fr lo)) (F0 m 7 ls []) := by
  induction k with
  | zero =>
    intro M a0 x1 x2 x3 x4 H locs ls I hl h
    have h : (none : Option (Int32 × mm_M)) = some o := h
    cases h
  | succ k ih =>
    intro M a0 x1 x2 x3 x4 H locs ls I hl h
    have h : pX3_mostFrequent_l7b n (pX3_mostFrequent_l7 n k) M a0 x1 x2 x3 x4 = some o := h
    unfold pX3_mostFrequent_l7b at h
    refine lv_iload X.1 X.2.1 dX3_mostFrequent_7 (lv_at hl 4 rfl) ?_
    refine lv_aload_n X.1 X.2.1 dX3_mostFrequent_9 rfl (lv_at hl 0 rfl) ?_
    refine mm_rgi X I fl_X3_48 dX3_mostFrequent_10 h (fun v1 h => ?_)
    refine mm_kge (tgt := 57) X dX3_mostFrequent_13 (by decide) h (fun h => ?_) (fun h => ?_)
    · refine lv_iload_n X.1 X.2.1 dX3_mostFrequent_57 rfl (lv_at hl 2 rfl) ?_
      exact mm_xi X I hr hlk dX3_mostFrequent_58 h
    · refine lv_aload_n X.1 X.2.1 dX3_mostFrequent_16 rfl (lv_at hl 0 rfl) ?_
      refine lv_iload X.1 X.2.1 dX3_mostFrequent_17 (lv_at hl 4 rfl) ?_
      refine lv_iload_n X.1 X.2.1 dX3_mostFrequent_19 rfl (lv_at hl 1 rfl) ?_
      refine mm_cVi X I hl (As := [.int x4, .int x1]) (ci := 3) md_X3_opensWord mv_X3_opensWord ml_X3_78 rfl (kX3_opensWord (n := n)) (by decide) ⟨Nat.le_refl 0, Nat.le_refl 0⟩ rfl rfl (Nat.le_of_ble_eq_true rfl) dX3_mostFrequent_20 h (fun v2 M H locs I h => ?_)
      refine mm_jeq (tgt := 36) X dX3_mostFrequent_23 (by decide) h (fun h => ?_) (fun h => ?_)
      · refine lv_iconst (v := 0) X.1 X.2.1 dX3_mostFrequent_36 (by decide) ?_
        exact wpX3_mostFrequent_b37 X hr hlk n ih M _ _ _ _ _ _ _ _ _ I (lv_sub hl [0, 1, 2, 3, 4] rfl) h
      · refine lv_aload_n X.1 X.2.1 dX3_mostFrequent_26 rfl (lv_at hl 0 rfl) ?_
        refine lv_iload X.1 X.2.1 dX3_mostFrequent_27 (lv_at hl 4 rfl) ?_
        refine lv_iload_n X.1 X.2.1 dX3_mostFrequent_29 rfl (lv_at hl 1 rfl) ?_
        refine mm_cVi X I hl (As := [.int x4, .int x1]) (ci := 3) md_X3_wordHits mv_X3_wordHits ml_X3_82 rfl (kX3_wordHits (n := n)) (by decide) ⟨Nat.le_refl 0, Nat.le_refl 0⟩ rfl rfl (Nat.le_of_ble_eq_true rfl) dX3_mostFrequent_30 h (fun v3 M H locs I h => ?_)
        refine lv_goto (tgt := 37) X.1 X.2.1 dX3_mostFrequent_33 (by decide) ?_
        exact wpX3_mostFrequent_b37 X hr hlk n ih M _ _ _ _ _ _ _ _ _ I (lv_sub hl [0, 1, 2, 3, 4] rfl) h
set_option maxHeartbeats 4000000 in
set_option maxRecDepth 100000 in
theorem kX3_mostFrequent {l : Launch} {D : va_G} {dA : Nat → ClassId} {lo : Nat} {n : Nat} {M : mm_M} {a0 : Nat} {x1 : Int32} (o : Int32 × mm_M) (h : pX3_mostFrequent n M a0 x1 = some o) : (∃ fs, M.2 a0 = some (mm_ob 3 fs)) ∧ mm_Met l D dA lo yX3_mostFrequent cX3_mostFrequent 6 (some .int) 4 90 0 0 [.ref a0, .int x1] M (some (.int o.1)) o.2 := by
  unfold pX3_mostFrequent at h
  obtain ⟨hob, h⟩ := mm_v_some h
  refine ⟨hob, mm_enter (by decide) (Nat.le_of_ble_eq_true rfl) (fun p e s m args below meth c ls X hr hlk hnm I hl => ?_)⟩
  have X : mm_C D dA lo cX3_mostFrequent RX3 6 p s m args c := X
  have hl : lv_has ls 6 [(0, .ref a0), (1, .int x1)] := hl
  refine lv_iconst (v := (-1)) X.1 X.2.1 dX3_mostFrequent_0 (by decide) ?_
  refine lv_istore_n (lv' := [(2, .int (-1)), (0, .ref a0), (1, .int x1)]) X.1 X.2.1 dX3_mostFrequent_1 rfl hl (by decide) rfl (fun ls hl => ?_)
  refine lv_iconst (v := 0) X.1 X.2.1 dX3_mostFrequent_2 (by decide) ?_
  refine lv_istore_n (lv' := [(3, .int 0), (2, .int (-1)), (0, .ref a0), (1, .int x1)]) X.1 X.2.1 dX3_mostFrequent_3 rfl hl (by decide) rfl (fun ls hl => ?_)
  refine lv_iconst (v := 0) X.1 X.2.1 dX3_mostFrequent_4 (by decide) ?_
  refine lv_istore (lv' := [(4, .int 0), (3, .int 0), (2, .int (-1)), (0, .ref a0), (1, .int x1)]) X.1 X.2.1 dX3_mostFrequent_5 hl (by decide) rfl (fun ls hl => ?_)
  exact wpX3_mostFrequent_l7 X hr hlk n  n M _ _ _ _ _ _ _ _ I (lv_sub hl [3, 4, 2, 1, 0] rfl) h
set_option maxHeartbeats 4000000 in
set_option maxRecDepth 100000 in
theorem kX5_add {l : Launch} {D : va_G} {dA : Nat → ClassId} {lo : Nat} {n : Nat} {M : mm_M} {a0 : Nat} {x1 : Int32} (o : mm_M) (h : pX5_add n M a0 x1 = some o) : (∃ fs, M.2 a0 = some (mm_ob 5 fs)) ∧ mm_Met l D dA lo yX5_add cX5_add 2 none 0 0 0 0 [.ref a0, .int x1] M none o := by
  unfold pX5_add at h
  obtain ⟨hob, h⟩ := mm_v_some h
  refine ⟨hob, mm_enter (by decide) (Nat.le_of_ble_eq_true rfl) (fun p e s m args below meth c ls X hr hlk hnm I hl => ?_)⟩
  have X : mm_C D dA lo cX5_add RX5 2 p s m args c := X
  have hl : lv_has ls 2 [(0, .ref a0), (1, .int x1)] := hl
  refine lv_aload_n X.1 X.2.1 dX5_add_0 rfl (lv_at hl 0 rfl) ?_
  refine mm_rgi X I fl_X5_15 dX5_add_1 h (fun v1 h => ?_)
  refine lv_aload_n X.1 X.2.1 dX5_add_4 rfl (lv_at hl 0 rfl) ?_
  refine mm_rgr X I fl_X5_9 dX5_add_5 h (fun v2 h => ?_)
  refine mm_rlen X I dX5_add_8 h (fun v3 h => ?_)
  refine mm_kge (tgt := 32) X dX5_add_9 (by decide) h (fun h => ?_) (fun h => ?_)
  · exact mm_xv X I hr hlk dX5_add_32 h
  · refine lv_aload_n X.1 X.2.1 dX5_add_12 rfl (lv_at hl 0 rfl) ?_
    refine mm_rgr X I fl_X5_9 dX5_add_13 h (fun v4 h => ?_)
    refine lv_aload_n X.1 X.2.1 dX5_add_16 rfl (lv_at hl 0 rfl) ?_
    refine mm_rgi X I fl_X5_15 dX5_add_17 h (fun v5 h => ?_)
    refine lv_iload_n X.1 X.2.1 dX5_add_20 rfl (lv_at hl 1 rfl) ?_
    refine mm_ris X I dX5_add_21 h (fun M H locs I h => ?_)
    refine lv_aload_n X.1 X.2.1 dX5_add_22 rfl (lv_at hl 0 rfl) ?_
    refine lv_dup X.1 X.2.1 dX5_add_23 rfl ?_
    refine mm_rgi X I fl_X5_15 dX5_add_24 h (fun v6 h => ?_)
    refine lv_iconst (v := 1) X.1 X.2.1 dX5_add_27 (by decide) ?_
    refine lv_iadd X.1 X.2.1 dX5_add_28 ?_
    refine mm_rpi X I fl_X5_15 dX5_add_29 h (fun M H locs I h => ?_)
    exact mm_xv X I hr hlk dX5_add_32 h
set_option maxHeartbeats 4000000 in
set_option maxRecDepth 100000 in
theorem wpX5_hits_l4 {p : Program} {l : Launch} {e : Env} {s : State} {m : MethodId} {args : Array Value} {below : List Frame} {meth : Method} {c : Code} {D : va_G} {dA : Nat → ClassId} {lo : Nat} (X : mm_C D dA lo cX5_hits RX5 4 p s m args c) (hr : meth.sig.returnType = (some .int)) (hlk : meth.locks = false) (n : Nat) {o : Int32 × mm_M} (k : Nat) : ∀ (M : mm_M) (a0 : Nat) (a1 : Nat) (x2 : Int32) (x3 : Int32) (H : Heap) (locs : List Loc) (ls : Array Slot), mm_I D dA lo s M H locs → lv_has ls 4 [(0, .ref a0), (1, .ref a1), (2, .int x2), (3, .int x3)] → pX5_hits_l4 n k M a0 a1 x2 x3 = some o → W p l e (mm_rm 1 23 0 0) s m args below meth c H locs 0 0 (MQ below (mm_Q D dA lo (some (.int o.1)) o.2) args s 0 0 (mm_fr lo)) (F0 m 4 ls []) := by
  induction k with
  | zero =>
    intro M a0 a1 x2 x3 H locs ls I hl h
    have h : (none : Option (Int32 × mm_M)) = some o := h
    cases h
  | succ k ih =>
    intro M a0 a1 x2 x3 H locs ls I hl h
    have h : pX5_hits_l4b n (pX5_hits_l4 n k) M a0 a1 x2 x3 = some o := h
    unfold pX5_hits_l4b at h
    refine lv_iload_n X.1 X.2.1 dX5_hits_4 rfl (lv_at hl 3 rfl) ?_
    refine lv_aload_n X.1 X.2.1 dX5_hits_5 rfl (lv_at hl 0 rfl) ?_
    refine mm_rgi X I fl_X5_15 dX5_hits_6 h (fun v1 h => ?_)
    refine mm_kge (tgt := 30) X dX5_hits_9 (by decide) h (fun h => ?_) (fun h => ?_)
    · refine lv_iload_n X.1 X.2.1 dX5_hits_30 rfl (lv_at hl 2 rfl) ?_
      exact mm_xi X I hr hlk dX5_hits_31 h
    · refine lv_aload_n X.1 X.2.1 dX5_hits_12 rfl (lv_at hl 0 rfl) ?_
      refine lv_aload_n X.1 X.2.1 dX5_hits_13 rfl (lv_at hl 1 rfl) ?_
      refine lv_iload_n X.1 X.2.1 dX5_hits_14 rfl (lv_at hl 3 rfl) ?_
      refine mm_cVi X I hl (As := [.ref a1, .int x3]) (ci := 5) md_X5_has mv_X5_has ml_X5_25 rfl (kX5_has (n := n)) (by decide) ⟨Nat.le_refl 0, Nat.le_refl 0⟩ rfl rfl (Nat.le_of_ble_eq_true rfl) dX5_hits_15 h (fun v2 M H locs I h => ?_)
      refine mm_jeq (tgt := 24) X dX5_hits_18 (by decide) h (fun h => ?_) (fun h => ?_)
      · refine lv_iinc (v := (x3 + 1)) (lv' := [(3, .int (x3 + 1)), (0, .ref a0), (1, .ref a1), (2, .int x2)]) X.1 X.2.1 dX5_hits_24 hl (k := 3) rfl rfl (by decide) rfl (fun ls hl => ?_)
        refine lv_goto (tgt := 4) X.1 X.2.1 dX5_hits_27 (by decide) ?_
        exact ih M _ _ _ _ _ _ _ I (lv_sub hl [1, 2, 3, 0] rfl) h
      · refine lv_iinc (v := (x2 + 1)) (lv' := [(2, .int (x2 + 1)), (0, .ref a0), (1, .ref a1), (3, .int x3)]) X.1 X.2.1 dX5_hits_21 hl (k := 2) rfl rfl (by decide) rfl (fun ls hl => ?_)
        refine lv_iinc (v := (x3 + 1)) (lv' := [(3, .int (x3 + 1)), (2, .int (x2 + 1)), (0, .ref a0), (1, .ref a1)]) X.1 X.2.1 dX5_hits_24 hl (k := 3) rfl rfl (by decide) rfl (fun ls hl => ?_)
        refine lv_goto (tgt := 4) X.1 X.2.1 dX5_hits_27 (by decide) ?_
        exact ih M _ _ _ _ _ _ _ I (lv_sub hl [2, 3, 1, 0] rfl) h
set_option maxHeartbeats 4000000 in
set_option maxRecDepth 100000 in
theorem kX5_hits {l : Launch} {D : va_G} {dA : Nat → ClassId} {lo : Nat} {n : Nat} {M : mm_M} {a0 : Nat} {a1 : Nat} (o : Int32 × mm_M) (h : pX5_hits n M a0 a1 = some o) : (∃ fs, M.2 a0 = some (mm_ob 5 fs)) ∧ mm_Met l D dA lo yX5_hits cX5_hits 4 (some .int) 1 23 0 0 [.ref a0, .ref a1] M (some (.int o.1)) o.2 := by
  unfold pX5_hits at h
  obtain ⟨hob, h⟩ := mm_v_some h
  refine ⟨hob, mm_enter (by decide) (Nat.le_of_ble_eq_true rfl) (fun p e s m args below meth c ls X hr hlk hnm I hl => ?_)⟩
  have X : mm_C D dA lo cX5_hits RX5 4 p s m args c := X
  have hl : lv_has ls 4 [(0, .ref a0), (1, .ref a1)] := hl
  refine lv_iconst (v := 0) X.1 X.2.1 dX5_hits_0 (by decide) ?_
  refine lv_istore_n (lv' := [(2, .int 0), (0, .ref a0), (1, .ref a1)]) X.1 X.2.1 dX5_hits_1 rfl hl (by decide) rfl (fun ls hl => ?_)
  refine lv_iconst (v := 0) X.1 X.2.1 dX5_hits_2 (by decide) ?_
  refine lv_istore_n (lv' := [(3, .int 0), (2, .int 0), (0, .ref a0), (1, .ref a1)]) X.1 X.2.1 dX5_hits_3 rfl hl (by decide) rfl (fun ls hl => ?_)
  exact wpX5_hits_l4 X hr hlk n  n M _ _ _ _ _ _ _ I (lv_sub hl [2, 3, 1, 0] rfl) h
set_option maxHeartbeats 4000000 in
set_option maxRecDepth 100000 in
theorem kX5_isLike {l : Launch} {D : va_G} {dA : Nat → ClassId} {lo : Nat} {n : Nat} {M : mm_M} {a0 : Nat} {a1 : Nat} (o : Int32 × mm_M) (h : pX5_isLike n M a0 a1 = some o) : (∃ fs, M.2 a0 = some (mm_ob 5 fs)) ∧ mm_Met l D dA lo yX5_isLike cX5_isLike 2 (some .boolean) 1 23 0 0 [.ref a0, .ref a1] M (some (.int o.1)) o.2 := by
  unfold pX5_isLike at h
  obtain ⟨hob, h⟩ := mm_v_some h
  refine ⟨hob, mm_enter (by decide) (Nat.le_of_ble_eq_true rfl) (fun p e s m args below meth c ls X hr hlk hnm I hl => ?_)⟩
  have X : mm_C D dA lo cX5_isLike RX5 2 p s m args c := X
  have hl : lv_has ls 2 [(0, .ref a0), (1, .ref a1)] := hl
  refine lv_aload_n X.1 X.2.1 dX5_isLike_0 rfl (lv_at hl 0 rfl) ?_
  refine mm_rgi X I fl_X5_15 dX5_isLike_1 h (fun v1 h => ?_)
  refine lv_aload_n X.1 X.2.1 dX5_isLike_4 rfl (lv_at hl 1 rfl) ?_
  refine mm_rgi X I fl_X5_15 dX5_isLike_5 h (fun v2 h => ?_)
  refine mm_kne (tgt := 24) X dX5_isLike_8 (by decide) h (fun h => ?_) (fun h => ?_)
  · refine lv_iconst (v := 0) X.1 X.2.1 dX5_isLike_24 (by decide) ?_
    exact mm_xz0 X I hr hlk dX5_isLike_25 h
  · refine lv_aload_n X.1 X.2.1 dX5_isLike_11 rfl (lv_at hl 0 rfl) ?_
    refine lv_aload_n X.1 X.2.1 dX5_isLike_12 rfl (lv_at hl 1 rfl) ?_
    refine lv_iconst (v := 0) X.1 X.2.1 dX5_isLike_13 (by decide) ?_
    refine mm_cVi X I hl (As := [.ref a1, .int 0]) (ci := 5) md_X5_has mv_X5_has ml_X5_25 rfl (kX5_has (n := n)) (by decide) ⟨Nat.le_refl 0, Nat.le_refl 0⟩ rfl rfl (Nat.le_of_ble_eq_true rfl) dX5_isLike_14 h (fun v3 M H locs I h => ?_)
    refine mm_jeq (tgt := 24) X dX5_isLike_17 (by decide) h (fun h => ?_) (fun h => ?_)
    · refine lv_iconst (v := 0) X.1 X.2.1 dX5_isLike_24 (by decide) ?_
      exact mm_xz0 X I hr hlk dX5_isLike_25 h
    · refine lv_iconst (v := 1) X.1 X.2.1 dX5_isLike_20 (by decide) ?_
      refine lv_goto (tgt := 25) X.1 X.2.1 dX5_isLike_21 (by decide) ?_
      exact mm_xz1 X I hr hlk dX5_isLike_25 h
set_option maxHeartbeats 4000000 in
set_option maxRecDepth 100000 in
theorem wpX6_copyFrom_l49 {p : Program} {l : Launch} {e : Env} {s : State} {m : MethodId} {args : Array Value} {below : List Frame} {meth : Method} {c : Code} {D : va_G} {dA : Nat → ClassId} {lo : Nat} (X : mm_C D dA lo cX6_copyFrom RX6 3 p s m args c) (hr : meth.sig.returnType = none) (hlk : meth.locks = false) (n : Nat) {o : mm_M} (k : Nat) : ∀ (M : mm_M) (a0 : Nat) (a1 : Nat) (x2 : Int32) (H : Heap) (locs : List Loc) (ls : Array Slot), mm_I D dA lo s M H locs → lv_has ls 3 [(0, .ref a0), (1, .ref a1), (2, .int x2)] → pX6_copyFrom_l49 n k M a0 a1 x2 = some o → W p l e (mm_rm 4 103 0 0) s m args below meth c H locs 0 0 (MQ below (mm_Q D dA lo none o) args s 0 0 (mm_fr lo)) (F0 m 49 ls []) := by
  induction k with
  | zero =>
    intro M a0 a1 x2 H locs ls I hl h
    have h : (none : Option (mm_M)) = some o := h
    cases h
  | succ k ih =>
    intro M a0 a1 x2 H locs ls I hl h
    have h : pX6_copyFrom_l49b n (pX6_copyFrom_l49 n k) M a0 a1 x2 = some o := h
    unfold pX6_copyFrom_l49b at h
    refine lv_iload_n X.1 X.2.1 dX6_copyFrom_49 rfl (lv_at hl 2 rfl) ?_
    refine lv_aload_n X.1 X.2.1 dX6_copyFrom_50 rfl (lv_at hl 0 rfl) ?_
    refine mm_rgr X I fl_X6_19 dX6_copyFrom_51 h (fun v1 h => ?_)
    refine mm_rlen X I dX6_copyFrom_54 h (fun v2 h => ?_)
    refine mm_kge (tgt := 79) X dX6_copyFrom_55 (by decide) h (fun h => ?_) (fun h => ?_)
    · refine lv_aload_n X.1 X.2.1 dX6_copyFrom_79 rfl (lv_at hl 0 rfl) ?_
      refine mm_rgr X I fl_X6_26 dX6_copyFrom_80 h (fun v3 h => ?_)
      refine lv_aload_n X.1 X.2.1 dX6_copyFrom_83 rfl (lv_at hl 1 rfl) ?_
      refine mm_rgr X I fl_X6_26 dX6_copyFrom_84 h (fun v4 h => ?_)
      refine mm_cVv X I hl (As := [.ref v4]) (ci := 1) md_X1_copyFrom mv_X1_copyFrom ml_X6_50 rfl (kX1_copyFrom (n := n)) (by decide) ⟨Nat.le_refl 0, Nat.le_refl 0⟩ rfl rfl (Nat.le_of_ble_eq_true rfl) dX6_copyFrom_87 h (fun M H locs I h => ?_)
      exact mm_xv X I hr hlk dX6_copyFrom_90 h
    · refine lv_aload_n X.1 X.2.1 dX6_copyFrom_58 rfl (lv_at hl 0 rfl) ?_
      refine mm_rgr X I fl_X6_19 dX6_copyFrom_59 h (fun v6 h => ?_)
      refine lv_iload_n X.1 X.2.1 dX6_copyFrom_62 rfl (lv_at hl 2 rfl) ?_
      refine mm_rra X I dX6_copyFrom_63 h (fun v7 h => ?_)
      refine lv_aload_n X.1 X.2.1 dX6_copyFrom_64 rfl (lv_at hl 1 rfl) ?_
      refine mm_rgr X I fl_X6_19 dX6_copyFrom_65 h (fun v8 h => ?_)
      refine lv_iload_n X.1 X.2.1 dX6_copyFrom_68 rfl (lv_at hl 2 rfl) ?_
      refine mm_rra X I dX6_copyFrom_69 h (fun v9 h => ?_)
      refine mm_cVv X I hl (As := [.ref v9]) (ci := 0) md_X0_copyFrom mv_X0_copyFrom ml_X6_47 rfl (kX0_copyFrom (n := n)) (by decide) ⟨Nat.le_refl 0, Nat.le_refl 0⟩ rfl rfl (Nat.le_of_ble_eq_true rfl) dX6_copyFrom_70 h (fun M H locs I h => ?_)
      refine lv_iinc (v := (x2 + 1)) (lv' := [(2, .int (x2 + 1)), (0, .ref a0), (1, .ref a1)]) X.1 X.2.1 dX6_copyFrom_73 hl (k := 2) rfl rfl (by decide) rfl (fun ls hl => ?_)
      refine lv_goto (tgt := 49) X.1 X.2.1 dX6_copyFrom_76 (by decide) ?_
      exact ih M _ _ _ _ _ _ I (lv_sub hl [1, 2, 0] rfl) h
set_option maxHeartbeats 4000000 in
set_option maxRecDepth 100000 in
theorem wpX6_copyFrom_b31 {p : Program} {l : Launch} {e : Env} {s : State} {m : MethodId} {args : Array Value} {below : List Frame} {meth : Method} {c : Code} {D : va_G} {dA : Nat → ClassId} {lo : Nat} (X : mm_C D dA lo cX6_copyFrom RX6 3 p s m args c) (hr : meth.sig.returnType = none) (hlk : meth.locks = false) (n : Nat) {o : mm_M}  : ∀ (M : mm_M) (a0 : Nat) (a1 : Nat) (H : Heap) (locs : List Loc) (ls : Array Slot), mm_I D dA lo s M H locs → lv_has ls 3 [(0, .ref a0), (1, .ref a1)] → pX6_copyFrom_b31 n M a0 a1 = some o → W p l e (mm_rm 4 103 0 0) s m args below meth c H locs 0 0 (MQ below (mm_Q D dA lo none o) args s 0 0 (mm_fr lo)) (F0 m 31 ls []) := by
  intro M a0 a1 H locs ls I hl h
  unfold pX6_copyFrom_b31 at h
  refine lv_aload_n X.1 X.2.1 dX6_copyFrom_31 rfl (lv_at hl 0 rfl) ?_
  refine lv_aload_n X.1 X.2.1 dX6_copyFrom_32 rfl (lv_at hl 1 rfl) ?_
  refine mm_rgi X I fl_X6_36 dX6_copyFrom_33 h (fun v1 h => ?_)
  refine mm_rpi X I fl_X6_36 dX6_copyFrom_36 h (fun M H locs I h => ?_)
  refine lv_aload_n X.1 X.2.1 dX6_copyFrom_39 rfl (lv_at hl 0 rfl) ?_
  refine lv_aload_n X.1 X.2.1 dX6_copyFrom_40 rfl (lv_at hl 1 rfl) ?_
  refine mm_rgi X I fl_X6_44 dX6_copyFrom_41 h (fun v2 h => ?_)
  refine mm_rpi X I fl_X6_44 dX6_copyFrom_44 h (fun M H locs I h => ?_)
  refine lv_iconst (v := 0) X.1 X.2.1 dX6_copyFrom_47 (by decide) ?_
  refine lv_istore_n (lv' := [(2, .int 0), (0, .ref a0), (1, .ref a1)]) X.1 X.2.1 dX6_copyFrom_48 rfl hl (by decide) rfl (fun ls hl => ?_)
  exact wpX6_copyFrom_l49 X hr hlk n  n M _ _ _ _ _ _ I (lv_sub hl [1, 2, 0] rfl) h
set_option maxHeartbeats 4000000 in
set_option maxRecDepth 100000 in
theorem wpX6_copyFrom_l2 {p : Program} {l : Launch} {e : Env} {s : State} {m : MethodId} {args : Array Value} {below : List Frame} {meth : Method} {c : Code} {D : va_G} {dA : Nat → ClassId} {lo : Nat} (X : mm_C D dA lo cX6_copyFrom RX6 3 p s m args c) (hr : meth.sig.returnType = none) (hlk : meth.locks = false) (n : Nat) {o : mm_M} (k : Nat) : ∀ (M : mm_M) (a0 : Nat) (a1 : Nat) (x2 : Int32) (H : Heap) (locs : List Loc) (ls : Array Slot), mm_I D dA lo s M H locs → lv_has ls 3 [(0, .ref a0), (1, .ref a1), (2, .int x2)] → pX6_copyFrom_l2 n k M a0 a1 x2 = some o → W p l e (mm_rm 4 103 0 0) s m args below meth c H locs 0 0 (MQ below (mm_Q D dA lo none o) args s 0 0 (mm_fr lo)) (F0 m 2 ls []) := by
  induction k with
  | zero =>
    intro M a0 a1 x2 H locs ls I hl h
    have h : (none : Option (mm_M)) = some o := h
    cases h
  | succ k ih =>
    intro M a0 a1 x2 H locs ls I hl h
    have h : pX6_copyFrom_l2b n (pX6_copyFrom_l2 n k) M a0 a1 x2 = some o := h
    unfold pX6_copyFrom_l2b at h
    refine lv_iload_n X.1 X.2.1 dX6_copyFrom_2 rfl (lv_at hl 2 rfl) ?_
    refine lv_aload_n X.1 X.2.1 dX6_copyFrom_3 rfl (lv_at hl 1 rfl) ?_
    refine mm_rgi X I fl_X6_36 dX6_copyFrom_4 h (fun v1 h => ?_)
    refine mm_kge (tgt := 31) X dX6_copyFrom_7 (by decide) h (fun h => ?_) (fun h => ?_)
    · exact wpX6_copyFrom_b31 X hr hlk n  M _ _ _ _ _ I (lv_sub hl [0, 1] rfl) h
    · refine lv_aload_n X.1 X.2.1 dX6_copyFrom_10 rfl (lv_at hl 0 rfl) ?_
      refine mm_rgr X I fl_X6_11 dX6_copyFrom_11 h (fun v2 h => ?_)
      refine lv_iload_n X.1 X.2.1 dX6_copyFrom_14 rfl (lv_at hl 2 rfl) ?_
      refine mm_rra X I dX6_copyFrom_15 h (fun v3 h => ?_)
      refine lv_aload_n X.1 X.2.1 dX6_copyFrom_16 rfl (lv_at hl 1 rfl) ?_
      refine mm_rgr X I fl_X6_11 dX6_copyFrom_17 h (fun v4 h => ?_)
      refine lv_iload_n X.1 X.2.1 dX6_copyFrom_20 rfl (lv_at hl 2 rfl) ?_
      refine mm_rra X I dX6_copyFrom_21 h (fun v5 h => ?_)
      refine mm_cVv X I hl (As := [.ref v5]) (ci := 2) md_X2_copyFrom mv_X2_copyFrom ml_X6_40 rfl (kX2_copyFrom (n := n)) (by decide) ⟨Nat.le_refl 0, Nat.le_refl 0⟩ rfl rfl (Nat.le_of_ble_eq_true rfl) dX6_copyFrom_22 h (fun M H locs I h => ?_)
      refine lv_iinc (v := (x2 + 1)) (lv' := [(2, .int (x2 + 1)), (0, .ref a0), (1, .ref a1)]) X.1 X.2.1 dX6_copyFrom_25 hl (k := 2) rfl rfl (by decide) rfl (fun ls hl => ?_)
      refine lv_goto (tgt := 2) X.1 X.2.1 dX6_copyFrom_28 (by decide) ?_
      exact ih M _ _ _ _ _ _ I (lv_sub hl [1, 2, 0] rfl) h
set_option maxHeartbeats 4000000 in
set_option maxRecDepth 100000 in
theorem kX6_copyFrom {l : Launch} {D : va_G} {dA : Nat → ClassId} {lo : Nat} {n : Nat} {M : mm_M} {a0 : Nat} {a1 : Nat} (o : mm_M) (h : pX6_copyFrom n M a0 a1 = some o) : (∃ fs, M.2 a0 = some (mm_ob 6 fs)) ∧ mm_Met l D dA lo yX6_copyFrom cX6_copyFrom 3 none 4 103 0 0 [.ref a0, .ref a1] M none o := by
  unfold pX6_copyFrom at h
  obtain ⟨hob, h⟩ := mm_v_some h
  refine ⟨hob, mm_enter (by decide) (Nat.le_of_ble_eq_true rfl) (fun p e s m args below meth c ls X hr hlk hnm I hl => ?_)⟩
  have X : mm_C D dA lo cX6_copyFrom RX6 3 p s m args c := X
  have hl : lv_has ls 3 [(0, .ref a0), (1, .ref a1)] := hl
  refine lv_iconst (v := 0) X.1 X.2.1 dX6_copyFrom_0 (by decide) ?_
  refine lv_istore_n (lv' := [(2, .int 0), (0, .ref a0), (1, .ref a1)]) X.1 X.2.1 dX6_copyFrom_1 rfl hl (by decide) rfl (fun ls hl => ?_)
  exact wpX6_copyFrom_l2 X hr hlk n  n M _ _ _ _ _ _ I (lv_sub hl [1, 2, 0] rfl) h
set_option maxHeartbeats 4000000 in
set_option maxRecDepth 100000 in
theorem wpX6_empty_l12 {p : Program} {l : Launch} {e : Env} {s : State} {m : MethodId} {args : Array Value} {below : List Frame} {meth : Method} {c : Code} {D : va_G} {dA : Nat → ClassId} {lo : Nat} (X : mm_C D dA lo cX6_empty RX6 2 p s m args c) (hr : meth.sig.returnType = none) (hlk : meth.locks = false) (n : Nat) {o : mm_M} (k : Nat) : ∀ (M : mm_M) (a0 : Nat) (x1 : Int32) (H : Heap) (locs : List Loc) (ls : Array Slot), mm_I D dA lo s M H locs → lv_has ls 2 [(0, .ref a0), (1, .int x1)] → pX6_empty_l12 n k M a0 x1 = some o → W p l e (mm_rm 1 20 0 0) s m args below meth c H locs 0 0 (MQ below (mm_Q D dA lo none o) args s 0 0 (mm_fr lo)) (F0 m 12 ls []) := by
  induction k with
  | zero =>
    intro M a0 x1 H locs ls I hl h
    have h : (none : Option (mm_M)) = some o := h
    cases h
  | succ k ih =>
    intro M a0 x1 H locs ls I hl h
    have h : pX6_empty_l12b n (pX6_empty_l12 n k) M a0 x1 = some o := h
    unfold pX6_empty_l12b at h
    refine lv_iload_n X.1 X.2.1 dX6_empty_12 rfl (lv_at hl 1 rfl) ?_
    refine lv_aload_n X.1 X.2.1 dX6_empty_13 rfl (lv_at hl 0 rfl) ?_
    refine mm_rgr X I fl_X6_19 dX6_empty_14 h (fun v1 h => ?_)
    refine mm_rlen X I dX6_empty_17 h (fun v2 h => ?_)
    refine mm_kge (tgt := 46) X dX6_empty_18 (by decide) h (fun h => ?_) (fun h => ?_)
    · refine lv_aload_n X.1 X.2.1 dX6_empty_46 rfl (lv_at hl 0 rfl) ?_
      refine mm_rgr X I fl_X6_26 dX6_empty_47 h (fun v3 h => ?_)
      refine lv_iconst (v := 0) X.1 X.2.1 dX6_empty_50 (by decide) ?_
      refine mm_rpi X I fl_X6_59 dX6_empty_51 h (fun M H locs I h => ?_)
      exact mm_xv X I hr hlk dX6_empty_54 h
    · refine lv_aload_n X.1 X.2.1 dX6_empty_21 rfl (lv_at hl 0 rfl) ?_
      refine mm_rgr X I fl_X6_19 dX6_empty_22 h (fun v4 h => ?_)
      refine lv_iload_n X.1 X.2.1 dX6_empty_25 rfl (lv_at hl 1 rfl) ?_
      refine mm_rra X I dX6_empty_26 h (fun v5 h => ?_)
      refine lv_iconst (v := 0) X.1 X.2.1 dX6_empty_27 (by decide) ?_
      refine mm_rpi X I fl_X6_53 dX6_empty_28 h (fun M H locs I h => ?_)
      refine lv_aload_n X.1 X.2.1 dX6_empty_31 rfl (lv_at hl 0 rfl) ?_
      refine mm_rgr X I fl_X6_19 dX6_empty_32 h (fun v6 h => ?_)
      refine lv_iload_n X.1 X.2.1 dX6_empty_35 rfl (lv_at hl 1 rfl) ?_
      refine mm_rra X I dX6_empty_36 h (fun v7 h => ?_)
      refine mm_cVv X I hl (As := []) (ci := 0) md_X0_unmark mv_X0_unmark ml_X6_56 rfl (kX0_unmark (n := n)) (by decide) ⟨Nat.le_refl 0, Nat.le_refl 0⟩ rfl rfl (Nat.le_of_ble_eq_true rfl) dX6_empty_37 h (fun M H locs I h => ?_)
      refine lv_iinc (v := (x1 + 1)) (lv' := [(1, .int (x1 + 1)), (0, .ref a0)]) X.1 X.2.1 dX6_empty_40 hl (k := 1) rfl rfl (by decide) rfl (fun ls hl => ?_)
      refine lv_goto (tgt := 12) X.1 X.2.1 dX6_empty_43 (by decide) ?_
      exact ih M _ _ _ _ _ I (lv_sub hl [1, 0] rfl) h
set_option maxHeartbeats 4000000 in
set_option maxRecDepth 100000 in
theorem kX6_empty {l : Launch} {D : va_G} {dA : Nat → ClassId} {lo : Nat} {n : Nat} {M : mm_M} {a0 : Nat} (o : mm_M) (h : pX6_empty n M a0 = some o) : (∃ fs, M.2 a0 = some (mm_ob 6 fs)) ∧ mm_Met l D dA lo yX6_empty cX6_empty 2 none 1 20 0 0 [.ref a0] M none o := by
  unfold pX6_empty at h
  obtain ⟨hob, h⟩ := mm_v_some h
  refine ⟨hob, mm_enter (by decide) (Nat.le_of_ble_eq_true rfl) (fun p e s m args below meth c ls X hr hlk hnm I hl => ?_)⟩
  have X : mm_C D dA lo cX6_empty RX6 2 p s m args c := X
  have hl : lv_has ls 2 [(0, .ref a0)] := hl
  refine lv_aload_n X.1 X.2.1 dX6_empty_0 rfl (lv_at hl 0 rfl) ?_
  refine lv_iconst (v := 0) X.1 X.2.1 dX6_empty_1 (by decide) ?_
  refine mm_rpi X I fl_X6_36 dX6_empty_2 h (fun M H locs I h => ?_)
  refine lv_aload_n X.1 X.2.1 dX6_empty_5 rfl (lv_at hl 0 rfl) ?_
  refine lv_iconst (v := 0) X.1 X.2.1 dX6_empty_6 (by decide) ?_
  refine mm_rpi X I fl_X6_44 dX6_empty_7 h (fun M H locs I h => ?_)
  refine lv_iconst (v := 0) X.1 X.2.1 dX6_empty_10 (by decide) ?_
  refine lv_istore_n (lv' := [(1, .int 0), (0, .ref a0)]) X.1 X.2.1 dX6_empty_11 rfl hl (by decide) rfl (fun ls hl => ?_)
  exact wpX6_empty_l12 X hr hlk n  n M _ _ _ _ _ I (lv_sub hl [1, 0] rfl) h
set_option maxHeartbeats 4000000 in
set_option maxRecDepth 100000 in
theorem kX6_hasLine {l : Launch} {D : va_G} {dA : Nat → ClassId} {lo : Nat} {n : Nat} {M : mm_M} {a0 : Nat} {x1 : Int32} (o : Int32 × mm_M) (h : pX6_hasLine n M a0 x1 = some o) : (∃ fs, M.2 a0 = some (mm_ob 6 fs)) ∧ mm_Met l D dA lo yX6_hasLine cX6_hasLine 2 (some .boolean) 0 0 0 0 [.ref a0, .int x1] M (some (.int o.1)) o.2 := by
  unfold pX6_hasLine at h
  obtain ⟨hob, h⟩ := mm_v_some h
  refine ⟨hob, mm_enter (by decide) (Nat.le_of_ble_eq_true rfl) (fun p e s m args below meth c ls X hr hlk hnm I hl => ?_)⟩
  have X : mm_C D dA lo cX6_hasLine RX6 2 p s m args c := X
  have hl : lv_has ls 2 [(0, .ref a0), (1, .int x1)] := hl
  refine lv_iload_n X.1 X.2.1 dX6_hasLine_0 rfl (lv_at hl 1 rfl) ?_
  refine mm_jlt (tgt := 16) X dX6_hasLine_1 (by decide) h (fun h => ?_) (fun h => ?_)
  · refine lv_iconst (v := 0) X.1 X.2.1 dX6_hasLine_16 (by decide) ?_
    exact mm_xz0 X I hr hlk dX6_hasLine_17 h
  · refine lv_iload_n X.1 X.2.1 dX6_hasLine_4 rfl (lv_at hl 1 rfl) ?_
    refine lv_aload_n X.1 X.2.1 dX6_hasLine_5 rfl (lv_at hl 0 rfl) ?_
    refine mm_rgi X I fl_X6_36 dX6_hasLine_6 h (fun v1 h => ?_)
    refine mm_kge (tgt := 16) X dX6_hasLine_9 (by decide) h (fun h => ?_) (fun h => ?_)
    · refine lv_iconst (v := 0) X.1 X.2.1 dX6_hasLine_16 (by decide) ?_
      exact mm_xz0 X I hr hlk dX6_hasLine_17 h
    · refine lv_iconst (v := 1) X.1 X.2.1 dX6_hasLine_12 (by decide) ?_
      refine lv_goto (tgt := 17) X.1 X.2.1 dX6_hasLine_13 (by decide) ?_
      exact mm_xz1 X I hr hlk dX6_hasLine_17 h
set_option maxHeartbeats 4000000 in
set_option maxRecDepth 100000 in
theorem kX6_hasCursor {l : Launch} {D : va_G} {dA : Nat → ClassId} {lo : Nat} {n : Nat} {M : mm_M} {a0 : Nat} {x1 : Int32} (o : Int32 × mm_M) (h : pX6_hasCursor n M a0 x1 = some o) : (∃ fs, M.2 a0 = some (mm_ob 6 fs)) ∧ mm_Met l D dA lo yX6_hasCursor cX6_hasCursor 2 (some .boolean) 0 0 0 0 [.ref a0, .int x1] M (some (.int o.1)) o.2 := by
  unfold pX6_hasCursor at h
  obtain ⟨hob, h⟩ := mm_v_some h
  refine ⟨hob, mm_enter (by decide) (Nat.le_of_ble_eq_true rfl) (fun p e s m args below meth c ls X hr hlk hnm I hl => ?_)⟩
  have X : mm_C D dA lo cX6_hasCursor RX6 2 p s m args c := X
  have hl : lv_has ls 2 [(0, .ref a0), (1, .int x1)] := hl
  refine lv_iload_n X.1 X.2.1 dX6_hasCursor_0 rfl (lv_at hl 1 rfl) ?_
  refine mm_jlt (tgt := 29) X dX6_hasCursor_1 (by decide) h (fun h => ?_) (fun h => ?_)
  · refine lv_iconst (v := 0) X.1 X.2.1 dX6_hasCursor_29 (by decide) ?_
    exact mm_xz0 X I hr hlk dX6_hasCursor_30 h
  · refine lv_iload_n X.1 X.2.1 dX6_hasCursor_4 rfl (lv_at hl 1 rfl) ?_
    refine lv_aload_n X.1 X.2.1 dX6_hasCursor_5 rfl (lv_at hl 0 rfl) ?_
    refine mm_rgr X I fl_X6_19 dX6_hasCursor_6 h (fun v1 h => ?_)
    refine mm_rlen X I dX6_hasCursor_9 h (fun v2 h => ?_)
    refine mm_kge (tgt := 29) X dX6_hasCursor_10 (by decide) h (fun h => ?_) (fun h => ?_)
    · refine lv_iconst (v := 0) X.1 X.2.1 dX6_hasCursor_29 (by decide) ?_
      exact mm_xz0 X I hr hlk dX6_hasCursor_30 h
    · refine lv_aload_n X.1 X.2.1 dX6_hasCursor_13 rfl (lv_at hl 0 rfl) ?_
      refine mm_rgr X I fl_X6_19 dX6_hasCursor_14 h (fun v3 h => ?_)
      refine lv_iload_n X.1 X.2.1 dX6_hasCursor_17 rfl (lv_at hl 1 rfl) ?_
      refine mm_rra X I dX6_hasCursor_18 h (fun v4 h => ?_)
      refine mm_rgi X I fl_X6_53 dX6_hasCursor_19 h (fun v5 h => ?_)
      refine mm_jle (tgt := 29) X dX6_hasCursor_22 (by decide) h (fun h => ?_) (fun h => ?_)
      · refine lv_iconst (v := 0) X.1 X.2.1 dX6_hasCursor_29 (by decide) ?_
        exact mm_xz0 X I hr hlk dX6_hasCursor_30 h
      · refine lv_iconst (v := 1) X.1 X.2.1 dX6_hasCursor_25 (by decide) ?_
        refine lv_goto (tgt := 30) X.1 X.2.1 dX6_hasCursor_26 (by decide) ?_
        exact mm_xz1 X I hr hlk dX6_hasCursor_30 h
set_option maxHeartbeats 4000000 in
set_option maxRecDepth 100000 in
theorem wpX6_allSigns_l4 {p : Program} {l : Launch} {e : Env} {s : State} {m : MethodId} {args : Array Value} {below : List Frame} {meth : Method} {c : Code} {D : va_G} {dA : Nat → ClassId} {lo : Nat} (X : mm_C D dA lo cX6_allSigns RX6 3 p s m args c) (hr : meth.sig.returnType = (some .int)) (hlk : meth.locks = false) (n : Nat) {o : Int32 × mm_M} (k : Nat) : ∀ (M : mm_M) (a0 : Nat) (x1 : Int32) (x2 : Int32) (H : Heap) (locs : List Loc) (ls : Array Slot), mm_I D dA lo s M H locs → lv_has ls 3 [(0, .ref a0), (1, .int x1), (2, .int x2)] → pX6_allSigns_l4 n k M a0 x1 x2 = some o → W p l e (mm_rm 0 0 0 0) s m args below meth c H locs 0 0 (MQ below (mm_Q D dA lo (some (.int o.1)) o.2) args s 0 0 (mm_fr lo)) (F0 m 4 ls []) := by
  induction k with
  | zero =>
    intro M a0 x1 x2 H locs ls I hl h
    have h : (none : Option (Int32 × mm_M)) = some o := h
    cases h
  | succ k ih =>
    intro M a0 x1 x2 H locs ls I hl h
    have h : pX6_allSigns_l4b n (pX6_allSigns_l4 n k) M a0 x1 x2 = some o := h
    unfold pX6_allSigns_l4b at h
    refine lv_iload_n X.1 X.2.1 dX6_allSigns_4 rfl (lv_at hl 2 rfl) ?_
    refine lv_aload_n X.1 X.2.1 dX6_allSigns_5 rfl (lv_at hl 0 rfl) ?_
    refine mm_rgi X I fl_X6_36 dX6_allSigns_6 h (fun v1 h => ?_)
    refine mm_kge (tgt := 33) X dX6_allSigns_9 (by decide) h (fun h => ?_) (fun h => ?_)
    · refine lv_iload_n X.1 X.2.1 dX6_allSigns_33 rfl (lv_at hl 1 rfl) ?_
      exact mm_xi X I hr hlk dX6_allSigns_34 h
    · refine lv_iload_n X.1 X.2.1 dX6_allSigns_12 rfl (lv_at hl 1 rfl) ?_
      refine lv_aload_n X.1 X.2.1 dX6_allSigns_13 rfl (lv_at hl 0 rfl) ?_
      refine mm_rgr X I fl_X6_11 dX6_allSigns_14 h (fun v2 h => ?_)
      refine lv_iload_n X.1 X.2.1 dX6_allSigns_17 rfl (lv_at hl 2 rfl) ?_
      refine mm_rra X I dX6_allSigns_18 h (fun v3 h => ?_)
      refine mm_rgr X I fl_X6_62 dX6_allSigns_19 h (fun v4 h => ?_)
      refine mm_rgi X I fl_X6_66 dX6_allSigns_22 h (fun v5 h => ?_)
      refine lv_iadd X.1 X.2.1 dX6_allSigns_25 ?_
      refine lv_istore_n (lv' := [(1, .int (x1 + v5)), (0, .ref a0), (2, .int x2)]) X.1 X.2.1 dX6_allSigns_26 rfl hl (by decide) rfl (fun ls hl => ?_)
      refine lv_iinc (v := (x2 + 1)) (lv' := [(2, .int (x2 + 1)), (1, .int (x1 + v5)), (0, .ref a0)]) X.1 X.2.1 dX6_allSigns_27 hl (k := 2) rfl rfl (by decide) rfl (fun ls hl => ?_)
      refine lv_goto (tgt := 4) X.1 X.2.1 dX6_allSigns_30 (by decide) ?_
      exact ih M _ _ _ _ _ _ I (lv_sub hl [2, 1, 0] rfl) h
set_option maxHeartbeats 4000000 in
set_option maxRecDepth 100000 in
theorem kX6_allSigns {l : Launch} {D : va_G} {dA : Nat → ClassId} {lo : Nat} {n : Nat} {M : mm_M} {a0 : Nat} (o : Int32 × mm_M) (h : pX6_allSigns n M a0 = some o) : (∃ fs, M.2 a0 = some (mm_ob 6 fs)) ∧ mm_Met l D dA lo yX6_allSigns cX6_allSigns 3 (some .int) 0 0 0 0 [.ref a0] M (some (.int o.1)) o.2 := by
  unfold pX6_allSigns at h
  obtain ⟨hob, h⟩ := mm_v_some h
  refine ⟨hob, mm_enter (by decide) (Nat.le_of_ble_eq_true rfl) (fun p e s m args below meth c ls X hr hlk hnm I hl => ?_)⟩
  have X : mm_C D dA lo cX6_allSigns RX6 3 p s m args c := X
  have hl : lv_has ls 3 [(0, .ref a0)] := hl
  refine lv_iconst (v := 0) X.1 X.2.1 dX6_allSigns_0 (by decide) ?_
  refine lv_istore_n (lv' := [(1, .int 0), (0, .ref a0)]) X.1 X.2.1 dX6_allSigns_1 rfl hl (by decide) rfl (fun ls hl => ?_)
  refine lv_iconst (v := 0) X.1 X.2.1 dX6_allSigns_2 (by decide) ?_
  refine lv_istore_n (lv' := [(2, .int 0), (1, .int 0), (0, .ref a0)]) X.1 X.2.1 dX6_allSigns_3 rfl hl (by decide) rfl (fun ls hl => ?_)
  exact wpX6_allSigns_l4 X hr hlk n  n M _ _ _ _ _ _ I (lv_sub hl [2, 1, 0] rfl) h
set_option maxHeartbeats 4000000 in
set_option maxRecDepth 100000 in
theorem wpX6_hits_l4 {p : Program} {l : Launch} {e : Env} {s : State} {m : MethodId} {args : Array Value} {below : List Frame} {meth : Method} {c : Code} {D : va_G} {dA : Nat → ClassId} {lo : Nat} (X : mm_C D dA lo cX6_hits RX6 4 p s m args c) (hr : meth.sig.returnType = (some .int)) (hlk : meth.locks = false) (n : Nat) {o : Int32 × mm_M} (k : Nat) : ∀ (M : mm_M) (a0 : Nat) (a1 : Nat) (x2 : Int32) (x3 : Int32) (H : Heap) (locs : List Loc) (ls : Array Slot), mm_I D dA lo s M H locs → lv_has ls 4 [(0, .ref a0), (1, .ref a1), (2, .int x2), (3, .int x3)] → pX6_hits_l4 n k M a0 a1 x2 x3 = some o → W p l e (mm_rm 2 46 0 0) s m args below meth c H locs 0 0 (MQ below (mm_Q D dA lo (some (.int o.1)) o.2) args s 0 0 (mm_fr lo)) (F0 m 4 ls []) := by
  induction k with
  | zero =>
    intro M a0 a1 x2 x3 H locs ls I hl h
    have h : (none : Option (Int32 × mm_M)) = some o := h
    cases h
  | succ k ih =>
    intro M a0 a1 x2 x3 H locs ls I hl h
    have h : pX6_hits_l4b n (pX6_hits_l4 n k) M a0 a1 x2 x3 = some o := h
    unfold pX6_hits_l4b at h
    refine lv_iload_n X.1 X.2.1 dX6_hits_4 rfl (lv_at hl 3 rfl) ?_
    refine lv_aload_n X.1 X.2.1 dX6_hits_5 rfl (lv_at hl 0 rfl) ?_
    refine mm_rgi X I fl_X6_36 dX6_hits_6 h (fun v1 h => ?_)
    refine mm_kge (tgt := 34) X dX6_hits_9 (by decide) h (fun h => ?_) (fun h => ?_)
    · refine lv_iload_n X.1 X.2.1 dX6_hits_34 rfl (lv_at hl 2 rfl) ?_
      exact mm_xi X I hr hlk dX6_hits_35 h
    · refine lv_iload_n X.1 X.2.1 dX6_hits_12 rfl (lv_at hl 2 rfl) ?_
      refine lv_aload_n X.1 X.2.1 dX6_hits_13 rfl (lv_at hl 0 rfl) ?_
      refine mm_rgr X I fl_X6_11 dX6_hits_14 h (fun v2 h => ?_)
      refine lv_iload_n X.1 X.2.1 dX6_hits_17 rfl (lv_at hl 3 rfl) ?_
      refine mm_rra X I dX6_hits_18 h (fun v3 h => ?_)
      refine mm_rgr X I fl_X6_62 dX6_hits_19 h (fun v4 h => ?_)
      refine lv_aload_n X.1 X.2.1 dX6_hits_22 rfl (lv_at hl 1 rfl) ?_
      refine mm_cVi X I hl (As := [.ref a1]) (ci := 5) md_X5_hits mv_X5_hits ml_X6_69 rfl (kX5_hits (n := n)) (by decide) ⟨Nat.le_refl 0, Nat.le_refl 0⟩ rfl rfl (Nat.le_of_ble_eq_true rfl) dX6_hits_23 h (fun v5 M H locs I h => ?_)
      refine lv_iadd X.1 X.2.1 dX6_hits_26 ?_
      refine lv_istore_n (lv' := [(2, .int (x2 + v5)), (0, .ref a0), (1, .ref a1), (3, .int x3)]) X.1 X.2.1 dX6_hits_27 rfl hl (by decide) rfl (fun ls hl => ?_)
      refine lv_iinc (v := (x3 + 1)) (lv' := [(3, .int (x3 + 1)), (2, .int (x2 + v5)), (0, .ref a0), (1, .ref a1)]) X.1 X.2.1 dX6_hits_28 hl (k := 3) rfl rfl (by decide) rfl (fun ls hl => ?_)
      refine lv_goto (tgt := 4) X.1 X.2.1 dX6_hits_31 (by decide) ?_
      exact ih M _ _ _ _ _ _ _ I (lv_sub hl [2, 3, 1, 0] rfl) h
set_option maxHeartbeats 4000000 in
set_option maxRecDepth 100000 in
theorem kX6_hits {l : Launch} {D : va_G} {dA : Nat → ClassId} {lo : Nat} {n : Nat} {M : mm_M} {a0 : Nat} {a1 : Nat} (o : Int32 × mm_M) (h : pX6_hits n M a0 a1 = some o) : (∃ fs, M.2 a0 = some (mm_ob 6 fs)) ∧ mm_Met l D dA lo yX6_hits cX6_hits 4 (some .int) 2 46 0 0 [.ref a0, .ref a1] M (some (.int o.1)) o.2 := by
  unfold pX6_hits at h
  obtain ⟨hob, h⟩ := mm_v_some h
  refine ⟨hob, mm_enter (by decide) (Nat.le_of_ble_eq_true rfl) (fun p e s m args below meth c ls X hr hlk hnm I hl => ?_)⟩
  have X : mm_C D dA lo cX6_hits RX6 4 p s m args c := X
  have hl : lv_has ls 4 [(0, .ref a0), (1, .ref a1)] := hl
  refine lv_iconst (v := 0) X.1 X.2.1 dX6_hits_0 (by decide) ?_
  refine lv_istore_n (lv' := [(2, .int 0), (0, .ref a0), (1, .ref a1)]) X.1 X.2.1 dX6_hits_1 rfl hl (by decide) rfl (fun ls hl => ?_)
  refine lv_iconst (v := 0) X.1 X.2.1 dX6_hits_2 (by decide) ?_
  refine lv_istore_n (lv' := [(3, .int 0), (2, .int 0), (0, .ref a0), (1, .ref a1)]) X.1 X.2.1 dX6_hits_3 rfl hl (by decide) rfl (fun ls hl => ?_)
  exact wpX6_hits_l4 X hr hlk n  n M _ _ _ _ _ _ _ I (lv_sub hl [2, 3, 1, 0] rfl) h
set_option maxHeartbeats 4000000 in
set_option maxRecDepth 100000 in
theorem wpX6_left_l15 {p : Program} {l : Launch} {e : Env} {s : State} {m : MethodId} {args : Array Value} {below : List Frame} {meth : Method} {c : Code} {D : va_G} {dA : Nat → ClassId} {lo : Nat} (X : mm_C D dA lo cX6_left RX6 5 p s m args c) (hr : meth.sig.returnType = (some .int)) (hlk : meth.locks = false) (n : Nat) {o : Int32 × mm_M} {K4 : mm_M → Nat → Nat → Int32 → Int32 → Option (Int32 × mm_M)} (k4 : ∀ (M : mm_M) (a0 : Nat) (a1 : Nat) (x2 : Int32) (x3 : Int32) (H : Heap) (locs : List Loc) (ls : Array Slot), mm_I D dA lo s M H locs → lv_has ls 5 [(0, .ref a0), (1, .ref a1), (2, .int x2), (3, .int x3)] → K4 M a0 a1 x2 x3 = some o → W p l e (mm_rm 3 76 0 0) s m args below meth c H locs 0 0 (MQ below (mm_Q D dA lo (some (.int o.1)) o.2) args s 0 0 (mm_fr lo)) (F0 m 4 ls [])) (k : Nat) : ∀ (M : mm_M) (a0 : Nat) (a1 : Nat) (x2 : Int32) (x3 : Int32) (x4 : Int32) (H : Heap) (locs : List Loc) (ls : Array Slot), mm_I D dA lo s M H locs → lv_has ls 5 [(0, .ref a0), (1, .ref a1), (2, .int x2), (3, .int x3), (4, .int x4)] → pX6_left_l15 n K4 k M a0 a1 x2 x3 x4 = some o → W p l e (mm_rm 3 76 0 0) s m args below meth c H locs 0 0 (MQ below (mm_Q D dA lo (some (.int o.1)) o.2) args s 0 0 (mm_fr lo)) (F0 m 15 ls []) := by
  induction k with
  | zero =>
    intro M a0 a1 x2 x3 x4 H locs ls I hl h
    have h : (none : Option (Int32 × mm_M)) = some o := h
    cases h
  | succ k ih =>
    intro M a0 a1 x2 x3 x4 H locs ls I hl h
    have h : pX6_left_l15b n K4 (pX6_left_l15 n K4 k) M a0 a1 x2 x3 x4 = some o := h
    unfold pX6_left_l15b at h
    refine lv_iload X.1 X.2.1 dX6_left_15 (lv_at hl 4 rfl) ?_
    refine lv_aload_n X.1 X.2.1 dX6_left_17 rfl (lv_at hl 0 rfl) ?_
    refine mm_rgr X I fl_X6_11 dX6_left_18 h (fun v1 h => ?_)
    refine lv_iload_n X.1 X.2.1 dX6_left_21 rfl (lv_at hl 3 rfl) ?_
    refine mm_rra X I dX6_left_22 h (fun v2 h => ?_)
    refine mm_rgr X I fl_X6_62 dX6_left_23 h (fun v3 h => ?_)
    refine mm_rgi X I fl_X6_66 dX6_left_26 h (fun v4 h => ?_)
    refine mm_kge (tgt := 56) X dX6_left_29 (by decide) h (fun h => ?_) (fun h => ?_)
    · refine lv_iinc (v := (x3 + 1)) (lv' := [(3, .int (x3 + 1)), (0, .ref a0), (1, .ref a1), (2, .int x2), (4, .int x4)]) X.1 X.2.1 dX6_left_56 hl (k := 3) rfl rfl (by decide) rfl (fun ls hl => ?_)
      refine lv_goto (tgt := 4) X.1 X.2.1 dX6_left_59 (by decide) ?_
      exact k4 M _ _ _ _ _ _ _ I (lv_sub hl [1, 2, 3, 0] rfl) h
    · refine lv_aload_n X.1 X.2.1 dX6_left_32 rfl (lv_at hl 1 rfl) ?_
      refine lv_aload_n X.1 X.2.1 dX6_left_33 rfl (lv_at hl 0 rfl) ?_
      refine mm_rgr X I fl_X6_11 dX6_left_34 h (fun v5 h => ?_)
      refine lv_iload_n X.1 X.2.1 dX6_left_37 rfl (lv_at hl 3 rfl) ?_
      refine mm_rra X I dX6_left_38 h (fun v6 h => ?_)
      refine lv_iload X.1 X.2.1 dX6_left_39 (lv_at hl 4 rfl) ?_
      refine mm_cVi X I hl (As := [.ref v6, .int x4]) (ci := 0) md_X0_isAhead mv_X0_isAhead ml_X6_73 rfl (kX0_isAhead (n := n)) (by decide) ⟨Nat.le_refl 0, Nat.le_refl 0⟩ rfl rfl (Nat.le_of_ble_eq_true rfl) dX6_left_41 h (fun v7 M H locs I h => ?_)
      refine mm_jeq (tgt := 50) X dX6_left_44 (by decide) h (fun h => ?_) (fun h => ?_)
      · refine lv_iinc (v := (x4 + 1)) (lv' := [(4, .int (x4 + 1)), (0, .ref a0), (1, .ref a1), (2, .int x2), (3, .int x3)]) X.1 X.2.1 dX6_left_50 hl (k := 4) rfl rfl (by decide) rfl (fun ls hl => ?_)
        refine lv_goto (tgt := 15) X.1 X.2.1 dX6_left_53 (by decide) ?_
        exact ih M _ _ _ _ _ _ _ _ I (lv_sub hl [1, 2, 3, 4, 0] rfl) h
      · refine lv_iinc (v := (x2 + 1)) (lv' := [(2, .int (x2 + 1)), (0, .ref a0), (1, .ref a1), (3, .int x3), (4, .int x4)]) X.1 X.2.1 dX6_left_47 hl (k := 2) rfl rfl (by decide) rfl (fun ls hl => ?_)
        refine lv_iinc (v := (x4 + 1)) (lv' := [(4, .int (x4 + 1)), (2, .int (x2 + 1)), (0, .ref a0), (1, .ref a1), (3, .int x3)]) X.1 X.2.1 dX6_left_50 hl (k := 4) rfl rfl (by decide) rfl (fun ls hl => ?_)
        refine lv_goto (tgt := 15) X.1 X.2.1 dX6_left_53 (by decide) ?_
        exact ih M _ _ _ _ _ _ _ _ I (lv_sub hl [2, 3, 1, 4, 0] rfl) h
set_option maxHeartbeats 4000000 in
set_option maxRecDepth 100000 in
theorem wpX6_left_l4 {p : Program} {l : Launch} {e : Env} {s : State} {m : MethodId} {args : Array Value} {below : List Frame} {meth : Method} {c : Code} {D : va_G} {dA : Nat → ClassId} {lo : Nat} (X : mm_C D dA lo cX6_left RX6 5 p s m args c) (hr : meth.sig.returnType = (some .int)) (hlk : meth.locks = false) (n : Nat) {o : Int32 × mm_M} (k : Nat) : ∀ (M : mm_M) (a0 : Nat) (a1 : Nat) (x2 : Int32) (x3 : Int32) (H : Heap) (locs : List Loc) (ls : Array Slot), mm_I D dA lo s M H locs → lv_has ls 5 [(0, .ref a0), (1, .ref a1), (2, .int x2), (3, .int x3)] → pX6_left_l4 n k M a0 a1 x2 x3 = some o → W p l e (mm_rm 3 76 0 0) s m args below meth c H locs 0 0 (MQ below (mm_Q D dA lo (some (.int o.1)) o.2) args s 0 0 (mm_fr lo)) (F0 m 4 ls []) := by
  induction k with
  | zero =>
    intro M a0 a1 x2 x3 H locs ls I hl h
    have h : (none : Option (Int32 × mm_M)) = some o := h
    cases h
  | succ k ih =>
    intro M a0 a1 x2 x3 H locs ls I hl h
    have h : pX6_left_l4b n (pX6_left_l4 n k) M a0 a1 x2 x3 = some o := h
    unfold pX6_left_l4b at h
    refine lv_iload_n X.1 X.2.1 dX6_left_4 rfl (lv_at hl 3 rfl) ?_
    refine lv_aload_n X.1 X.2.1 dX6_left_5 rfl (lv_at hl 0 rfl) ?_
    refine mm_rgi X I fl_X6_36 dX6_left_6 h (fun v1 h => ?_)
    refine mm_kge (tgt := 62) X dX6_left_9 (by decide) h (fun h => ?_) (fun h => ?_)
    · refine lv_iload_n X.1 X.2.1 dX6_left_62 rfl (lv_at hl 2 rfl) ?_
      exact mm_xi X I hr hlk dX6_left_63 h
    · refine lv_iconst (v := 0) X.1 X.2.1 dX6_left_12 (by decide) ?_
      refine lv_istore (lv' := [(4, .int 0), (0, .ref a0), (1, .ref a1), (2, .int x2), (3, .int x3)]) X.1 X.2.1 dX6_left_13 hl (by decide) rfl (fun ls hl => ?_)
      exact wpX6_left_l15 X hr hlk n ih n M _ _ _ _ _ _ _ _ I (lv_sub hl [1, 2, 3, 4, 0] rfl) h
set_option maxHeartbeats 4000000 in
set_option maxRecDepth 100000 in
theorem kX6_left {l : Launch} {D : va_G} {dA : Nat → ClassId} {lo : Nat} {n : Nat} {M : mm_M} {a0 : Nat} {a1 : Nat} (o : Int32 × mm_M) (h : pX6_left n M a0 a1 = some o) : (∃ fs, M.2 a0 = some (mm_ob 6 fs)) ∧ mm_Met l D dA lo yX6_left cX6_left 5 (some .int) 3 76 0 0 [.ref a0, .ref a1] M (some (.int o.1)) o.2 := by
  unfold pX6_left at h
  obtain ⟨hob, h⟩ := mm_v_some h
  refine ⟨hob, mm_enter (by decide) (Nat.le_of_ble_eq_true rfl) (fun p e s m args below meth c ls X hr hlk hnm I hl => ?_)⟩
  have X : mm_C D dA lo cX6_left RX6 5 p s m args c := X
  have hl : lv_has ls 5 [(0, .ref a0), (1, .ref a1)] := hl
  refine lv_iconst (v := 0) X.1 X.2.1 dX6_left_0 (by decide) ?_
  refine lv_istore_n (lv' := [(2, .int 0), (0, .ref a0), (1, .ref a1)]) X.1 X.2.1 dX6_left_1 rfl hl (by decide) rfl (fun ls hl => ?_)
  refine lv_iconst (v := 0) X.1 X.2.1 dX6_left_2 (by decide) ?_
  refine lv_istore_n (lv' := [(3, .int 0), (2, .int 0), (0, .ref a0), (1, .ref a1)]) X.1 X.2.1 dX6_left_3 rfl hl (by decide) rfl (fun ls hl => ?_)
  exact wpX6_left_l4 X hr hlk n  n M _ _ _ _ _ _ _ I (lv_sub hl [2, 3, 1, 0] rfl) h
set_option maxHeartbeats 4000000 in
set_option maxRecDepth 100000 in
theorem kX6_splitRefusal {l : Launch} {D : va_G} {dA : Nat → ClassId} {lo : Nat} {n : Nat} {M : mm_M} {a0 : Nat} {x1 : Int32} {x2 : Int32} (o : Int32 × mm_M) (h : pX6_splitRefusal n M a0 x1 x2 = some o) : (∃ fs, M.2 a0 = some (mm_ob 6 fs)) ∧ mm_Met l D dA lo yX6_splitRefusal cX6_splitRefusal 3 (some .int) 1 21 0 0 [.ref a0, .int x1, .int x2] M (some (.int o.1)) o.2 := by
  unfold pX6_splitRefusal at h
  obtain ⟨hob, h⟩ := mm_v_some h
  refine ⟨hob, mm_enter (by decide) (Nat.le_of_ble_eq_true rfl) (fun p e s m args below meth c ls X hr hlk hnm I hl => ?_)⟩
  have X : mm_C D dA lo cX6_splitRefusal RX6 3 p s m args c := X
  have hl : lv_has ls 3 [(0, .ref a0), (1, .int x1), (2, .int x2)] := hl
  refine lv_aload_n X.1 X.2.1 dX6_splitRefusal_0 rfl (lv_at hl 0 rfl) ?_
  refine lv_iload_n X.1 X.2.1 dX6_splitRefusal_1 rfl (lv_at hl 1 rfl) ?_
  refine mm_cVi X I hl (As := [.int x1]) (ci := 6) md_X6_hasLine mv_X6_hasLine ml_X6_85 rfl (kX6_hasLine (n := n)) (by decide) ⟨Nat.le_refl 0, Nat.le_refl 0⟩ rfl rfl (Nat.le_of_ble_eq_true rfl) dX6_splitRefusal_2 h (fun v1 M H locs I h => ?_)
  refine mm_jne (tgt := 10) X dX6_splitRefusal_5 (by decide) h (fun h => ?_) (fun h => ?_)
  · refine lv_iload_n X.1 X.2.1 dX6_splitRefusal_10 rfl (lv_at hl 2 rfl) ?_
    refine lv_iconst (v := 1) X.1 X.2.1 dX6_splitRefusal_11 (by decide) ?_
    refine mm_klt (tgt := 31) X dX6_splitRefusal_12 (by decide) h (fun h => ?_) (fun h => ?_)
    · refine lv_iconst (v := 1) X.1 X.2.1 dX6_splitRefusal_31 (by decide) ?_
      exact mm_xi X I hr hlk dX6_splitRefusal_32 h
    · refine lv_iload_n X.1 X.2.1 dX6_splitRefusal_15 rfl (lv_at hl 2 rfl) ?_
      refine lv_aload_n X.1 X.2.1 dX6_splitRefusal_16 rfl (lv_at hl 0 rfl) ?_
      refine mm_rgr X I fl_X6_11 dX6_splitRefusal_17 h (fun v2 h => ?_)
      refine lv_iload_n X.1 X.2.1 dX6_splitRefusal_20 rfl (lv_at hl 1 rfl) ?_
      refine mm_rra X I dX6_splitRefusal_21 h (fun v3 h => ?_)
      refine mm_rgr X I fl_X6_62 dX6_splitRefusal_22 h (fun v4 h => ?_)
      refine mm_rgi X I fl_X6_66 dX6_splitRefusal_25 h (fun v5 h => ?_)
      refine mm_klt (tgt := 33) X dX6_splitRefusal_28 (by decide) h (fun h => ?_) (fun h => ?_)
      · refine lv_aload_n X.1 X.2.1 dX6_splitRefusal_33 rfl (lv_at hl 0 rfl) ?_
        refine mm_rgi X I fl_X6_36 dX6_splitRefusal_34 h (fun v6 h => ?_)
        refine lv_bipush (v := 10) X.1 X.2.1 dX6_splitRefusal_37 (by decide) ?_
        refine mm_kne (tgt := 46) X dX6_splitRefusal_39 (by decide) h (fun h => ?_) (fun h => ?_)
        · refine lv_iconst (v := (-1)) X.1 X.2.1 dX6_splitRefusal_46 (by decide) ?_
          exact mm_xi X I hr hlk dX6_splitRefusal_47 h
        · refine lv_iconst (v := 3) X.1 X.2.1 dX6_splitRefusal_42 (by decide) ?_
          refine lv_goto (tgt := 47) X.1 X.2.1 dX6_splitRefusal_43 (by decide) ?_
          exact mm_xi X I hr hlk dX6_splitRefusal_47 h
      · refine lv_iconst (v := 1) X.1 X.2.1 dX6_splitRefusal_31 (by decide) ?_
        exact mm_xi X I hr hlk dX6_splitRefusal_32 h
  · refine lv_iconst (v := 0) X.1 X.2.1 dX6_splitRefusal_8 (by decide) ?_
    exact mm_xi X I hr hlk dX6_splitRefusal_9 h
set_option maxHeartbeats 4000000 in
set_option maxRecDepth 100000 in
theorem kX6_joinRefusal {l : Launch} {D : va_G} {dA : Nat → ClassId} {lo : Nat} {n : Nat} {M : mm_M} {a0 : Nat} {x1 : Int32} (o : Int32 × mm_M) (h : pX6_joinRefusal n M a0 x1 = some o) : (∃ fs, M.2 a0 = some (mm_ob 6 fs)) ∧ mm_Met l D dA lo yX6_joinRefusal cX6_joinRefusal 2 (some .int) 0 0 0 0 [.ref a0, .int x1] M (some (.int o.1)) o.2 := by
  unfold pX6_joinRefusal at h
  obtain ⟨hob, h⟩ := mm_v_some h
  refine ⟨hob, mm_enter (by decide) (Nat.le_of_ble_eq_true rfl) (fun p e s m args below meth c ls X hr hlk hnm I hl => ?_)⟩
  have X : mm_C D dA lo cX6_joinRefusal RX6 2 p s m args c := X
  have hl : lv_has ls 2 [(0, .ref a0), (1, .int x1)] := hl
  refine lv_iload_n X.1 X.2.1 dX6_joinRefusal_0 rfl (lv_at hl 1 rfl) ?_
  refine mm_jlt (tgt := 14) X dX6_joinRefusal_1 (by decide) h (fun h => ?_) (fun h => ?_)
  · refine lv_iconst (v := 0) X.1 X.2.1 dX6_joinRefusal_14 (by decide) ?_
    exact mm_xi X I hr hlk dX6_joinRefusal_15 h
  · refine lv_iload_n X.1 X.2.1 dX6_joinRefusal_4 rfl (lv_at hl 1 rfl) ?_
    refine lv_aload_n X.1 X.2.1 dX6_joinRefusal_5 rfl (lv_at hl 0 rfl) ?_
    refine mm_rgi X I fl_X6_36 dX6_joinRefusal_6 h (fun v1 h => ?_)
    refine lv_iconst (v := 1) X.1 X.2.1 dX6_joinRefusal_9 (by decide) ?_
    refine lv_isub X.1 X.2.1 dX6_joinRefusal_10 ?_
    refine mm_klt (tgt := 16) X dX6_joinRefusal_11 (by decide) h (fun h => ?_) (fun h => ?_)
    · refine lv_aload_n X.1 X.2.1 dX6_joinRefusal_16 rfl (lv_at hl 0 rfl) ?_
      refine mm_rgr X I fl_X6_11 dX6_joinRefusal_17 h (fun v2 h => ?_)
      refine lv_iload_n X.1 X.2.1 dX6_joinRefusal_20 rfl (lv_at hl 1 rfl) ?_
      refine mm_rra X I dX6_joinRefusal_21 h (fun v3 h => ?_)
      refine mm_rgr X I fl_X6_62 dX6_joinRefusal_22 h (fun v4 h => ?_)
      refine mm_rgi X I fl_X6_66 dX6_joinRefusal_25 h (fun v5 h => ?_)
      refine lv_aload_n X.1 X.2.1 dX6_joinRefusal_28 rfl (lv_at hl 0 rfl) ?_
      refine mm_rgr X I fl_X6_11 dX6_joinRefusal_29 h (fun v6 h => ?_)
      refine lv_iload_n X.1 X.2.1 dX6_joinRefusal_32 rfl (lv_at hl 1 rfl) ?_
      refine lv_iconst (v := 1) X.1 X.2.1 dX6_joinRefusal_33 (by decide) ?_
      refine lv_iadd X.1 X.2.1 dX6_joinRefusal_34 ?_
      refine mm_rra X I dX6_joinRefusal_35 h (fun v7 h => ?_)
      refine mm_rgr X I fl_X6_62 dX6_joinRefusal_36 h (fun v8 h => ?_)
      refine mm_rgi X I fl_X6_66 dX6_joinRefusal_39 h (fun v9 h => ?_)
      refine lv_iadd X.1 X.2.1 dX6_joinRefusal_42 ?_
      refine lv_bipush (v := 20) X.1 X.2.1 dX6_joinRefusal_43 (by decide) ?_
      refine mm_kle (tgt := 52) X dX6_joinRefusal_45 (by decide) h (fun h => ?_) (fun h => ?_)
      · refine lv_iconst (v := (-1)) X.1 X.2.1 dX6_joinRefusal_52 (by decide) ?_
        exact mm_xi X I hr hlk dX6_joinRefusal_53 h
      · refine lv_iconst (v := 3) X.1 X.2.1 dX6_joinRefusal_48 (by decide) ?_
        refine lv_goto (tgt := 53) X.1 X.2.1 dX6_joinRefusal_49 (by decide) ?_
        exact mm_xi X I hr hlk dX6_joinRefusal_53 h
    · refine lv_iconst (v := 0) X.1 X.2.1 dX6_joinRefusal_14 (by decide) ?_
      exact mm_xi X I hr hlk dX6_joinRefusal_15 h
set_option maxHeartbeats 4000000 in
set_option maxRecDepth 100000 in
theorem kX6_cursorRefusal {l : Launch} {D : va_G} {dA : Nat → ClassId} {lo : Nat} {n : Nat} {M : mm_M} {a0 : Nat} {a1 : Nat} (o : Int32 × mm_M) (h : pX6_cursorRefusal n M a0 a1 = some o) : (∃ fs, M.2 a0 = some (mm_ob 6 fs)) ∧ mm_Met l D dA lo yX6_cursorRefusal cX6_cursorRefusal 3 (some .int) 1 21 0 0 [.ref a0, .ref a1] M (some (.int o.1)) o.2 := by
  unfold pX6_cursorRefusal at h
  obtain ⟨hob, h⟩ := mm_v_some h
  refine ⟨hob, mm_enter (by decide) (Nat.le_of_ble_eq_true rfl) (fun p e s m args below meth c ls X hr hlk hnm I hl => ?_)⟩
  have X : mm_C D dA lo cX6_cursorRefusal RX6 3 p s m args c := X
  have hl : lv_has ls 3 [(0, .ref a0), (1, .ref a1)] := hl
  refine lv_aload_n X.1 X.2.1 dX6_cursorRefusal_0 rfl (lv_at hl 1 rfl) ?_
  refine mm_rgi X I fl_X6_77 dX6_cursorRefusal_1 h (fun v1 h => ?_)
  refine lv_istore_n (lv' := [(2, .int v1), (0, .ref a0), (1, .ref a1)]) X.1 X.2.1 dX6_cursorRefusal_4 rfl hl (by decide) rfl (fun ls hl => ?_)
  refine lv_aload_n X.1 X.2.1 dX6_cursorRefusal_5 rfl (lv_at hl 2 rfl) ?_
  refine mm_rgi X I fl_X6_82 dX6_cursorRefusal_6 h (fun v2 h => ?_)
  refine lv_iconst (v := 4) X.1 X.2.1 dX6_cursorRefusal_9 (by decide) ?_
  refine mm_kne (tgt := 68) X dX6_cursorRefusal_10 (by decide) h (fun h => ?_) (fun h => ?_)
  · refine lv_aload_n X.1 X.2.1 dX6_cursorRefusal_68 rfl (lv_at hl 1 rfl) ?_
    refine lv_iload_n X.1 X.2.1 dX6_cursorRefusal_69 rfl (lv_at hl 0 rfl) ?_
    refine mm_cVi X I hl (As := [.int v1]) (ci := 6) md_X6_hasCursor mv_X6_hasCursor ml_X6_109 rfl (kX6_hasCursor (n := n)) (by decide) ⟨Nat.le_refl 0, Nat.le_refl 0⟩ rfl rfl (Nat.le_of_ble_eq_true rfl) dX6_cursorRefusal_70 h (fun v3 M H locs I h => ?_)
    refine mm_jne (tgt := 78) X dX6_cursorRefusal_73 (by decide) h (fun h => ?_) (fun h => ?_)
    · refine lv_aload_n X.1 X.2.1 dX6_cursorRefusal_78 rfl (lv_at hl 2 rfl) ?_
      refine mm_rgi X I fl_X6_82 dX6_cursorRefusal_79 h (fun v4 h => ?_)
      refine lv_bipush (v := 6) X.1 X.2.1 dX6_cursorRefusal_82 (by decide) ?_
      refine mm_kne (tgt := 103) X dX6_cursorRefusal_84 (by decide) h (fun h => ?_) (fun h => ?_)
      · refine lv_iconst (v := (-1)) X.1 X.2.1 dX6_cursorRefusal_103 (by decide) ?_
        exact mm_xi X I hr hlk dX6_cursorRefusal_104 h
      · refine lv_aload_n X.1 X.2.1 dX6_cursorRefusal_87 rfl (lv_at hl 1 rfl) ?_
        refine mm_rgr X I fl_X6_19 dX6_cursorRefusal_88 h (fun v5 h => ?_)
        refine lv_iload_n X.1 X.2.1 dX6_cursorRefusal_91 rfl (lv_at hl 0 rfl) ?_
        refine mm_rra X I dX6_cursorRefusal_92 h (fun v6 h => ?_)
        refine mm_rgi X I fl_X6_112 dX6_cursorRefusal_93 h (fun v7 h => ?_)
        refine mm_jne (tgt := 103) X dX6_cursorRefusal_96 (by decide) h (fun h => ?_) (fun h => ?_)
        · refine lv_iconst (v := (-1)) X.1 X.2.1 dX6_cursorRefusal_103 (by decide) ?_
          exact mm_xi X I hr hlk dX6_cursorRefusal_104 h
        · refine lv_iconst (v := 2) X.1 X.2.1 dX6_cursorRefusal_99 (by decide) ?_
          refine lv_goto (tgt := 104) X.1 X.2.1 dX6_cursorRefusal_100 (by decide) ?_
          exact mm_xi X I hr hlk dX6_cursorRefusal_104 h
    · refine lv_iconst (v := 0) X.1 X.2.1 dX6_cursorRefusal_76 (by decide) ?_
      exact mm_xi X I hr hlk dX6_cursorRefusal_77 h
  · refine lv_iload_n X.1 X.2.1 dX6_cursorRefusal_13 rfl (lv_at hl 0 rfl) ?_
    refine mm_jlt (tgt := 33) X dX6_cursorRefusal_14 (by decide) h (fun h => ?_) (fun h => ?_)
    · refine lv_iconst (v := 0) X.1 X.2.1 dX6_cursorRefusal_33 (by decide) ?_
      exact mm_xi X I hr hlk dX6_cursorRefusal_34 h
    · refine lv_iload_n X.1 X.2.1 dX6_cursorRefusal_17 rfl (lv_at hl 0 rfl) ?_
      refine lv_aload_n X.1 X.2.1 dX6_cursorRefusal_18 rfl (lv_at hl 1 rfl) ?_
      refine mm_rgr X I fl_X6_19 dX6_cursorRefusal_19 h (fun v8 h => ?_)
      refine mm_rlen X I dX6_cursorRefusal_22 h (fun v9 h => ?_)
      refine mm_kge (tgt := 33) X dX6_cursorRefusal_23 (by decide) h (fun h => ?_) (fun h => ?_)
      · refine lv_iconst (v := 0) X.1 X.2.1 dX6_cursorRefusal_33 (by decide) ?_
        exact mm_xi X I hr hlk dX6_cursorRefusal_34 h
      · refine lv_aload_n X.1 X.2.1 dX6_cursorRefusal_26 rfl (lv_at hl 1 rfl) ?_
        refine mm_rgi X I fl_X6_36 dX6_cursorRefusal_27 h (fun v10 h => ?_)
        refine mm_jne (tgt := 35) X dX6_cursorRefusal_30 (by decide) h (fun h => ?_) (fun h => ?_)
        · refine lv_aload_n X.1 X.2.1 dX6_cursorRefusal_35 rfl (lv_at hl 2 rfl) ?_
          refine mm_rgi X I fl_X6_94 dX6_cursorRefusal_36 h (fun v11 h => ?_)
          refine lv_iconst (v := 1) X.1 X.2.1 dX6_cursorRefusal_39 (by decide) ?_
          refine mm_klt (tgt := 62) X dX6_cursorRefusal_40 (by decide) h (fun h => ?_) (fun h => ?_)
          · refine lv_iconst (v := 1) X.1 X.2.1 dX6_cursorRefusal_62 (by decide) ?_
            refine lv_goto (tgt := 67) X.1 X.2.1 dX6_cursorRefusal_63 (by decide) ?_
            exact mm_xi X I hr hlk dX6_cursorRefusal_67 h
          · refine lv_aload_n X.1 X.2.1 dX6_cursorRefusal_43 rfl (lv_at hl 2 rfl) ?_
            refine mm_rgi X I fl_X6_94 dX6_cursorRefusal_44 h (fun v12 h => ?_)
            refine lv_bipush (v := 9) X.1 X.2.1 dX6_cursorRefusal_47 (by decide) ?_
            refine mm_kgt (tgt := 62) X dX6_cursorRefusal_49 (by decide) h (fun h => ?_) (fun h => ?_)
            · refine lv_iconst (v := 1) X.1 X.2.1 dX6_cursorRefusal_62 (by decide) ?_
              refine lv_goto (tgt := 67) X.1 X.2.1 dX6_cursorRefusal_63 (by decide) ?_
              exact mm_xi X I hr hlk dX6_cursorRefusal_67 h
            · refine lv_aload_n X.1 X.2.1 dX6_cursorRefusal_52 rfl (lv_at hl 2 rfl) ?_
              refine mm_rgr X I fl_X6_89 dX6_cursorRefusal_53 h (fun v13 h => ?_)
              refine mm_rgi X I fl_X6_66 dX6_cursorRefusal_56 h (fun v14 h => ?_)
              refine mm_jne (tgt := 66) X dX6_cursorRefusal_59 (by decide) h (fun h => ?_) (fun h => ?_)
              · refine lv_iconst (v := (-1)) X.1 X.2.1 dX6_cursorRefusal_66 (by decide) ?_
                exact mm_xi X I hr hlk dX6_cursorRefusal_67 h
              · refine lv_iconst (v := 1) X.1 X.2.1 dX6_cursorRefusal_62 (by decide) ?_
                refine lv_goto (tgt := 67) X.1 X.2.1 dX6_cursorRefusal_63 (by decide) ?_
                exact mm_xi X I hr hlk dX6_cursorRefusal_67 h
        · refine lv_iconst (v := 0) X.1 X.2.1 dX6_cursorRefusal_33 (by decide) ?_
          exact mm_xi X I hr hlk dX6_cursorRefusal_34 h
set_option maxHeartbeats 4000000 in
set_option maxRecDepth 100000 in
theorem kX6_refusal {l : Launch} {D : va_G} {dA : Nat → ClassId} {lo : Nat} {n : Nat} {M : mm_M} {a0 : Nat} {a1 : Nat} (o : Int32 × mm_M) (h : pX6_refusal n M a0 a1 = some o) : (∃ fs, M.2 a0 = some (mm_ob 6 fs)) ∧ mm_Met l D dA lo yX6_refusal cX6_refusal 3 (some .int) 2 44 0 0 [.ref a0, .ref a1] M (some (.int o.1)) o.2 := by
  unfold pX6_refusal at h
  obtain ⟨hob, h⟩ := mm_v_some h
  refine ⟨hob, mm_enter (by decide) (Nat.le_of_ble_eq_true rfl) (fun p e s m args below meth c ls X hr hlk hnm I hl => ?_)⟩
  have X : mm_C D dA lo cX6_refusal RX6 3 p s m args c := X
  have hl : lv_has ls 3 [(0, .ref a0), (1, .ref a1)] := hl
  refine lv_aload_n X.1 X.2.1 dX6_refusal_0 rfl (lv_at hl 1 rfl) ?_
  refine mm_rgi X I fl_X6_77 dX6_refusal_1 h (fun v1 h => ?_)
  refine lv_istore_n (lv' := [(2, .int v1), (0, .ref a0), (1, .ref a1)]) X.1 X.2.1 dX6_refusal_4 rfl hl (by decide) rfl (fun ls hl => ?_)
  refine lv_aload_n X.1 X.2.1 dX6_refusal_5 rfl (lv_at hl 2 rfl) ?_
  refine mm_rgi X I fl_X6_82 dX6_refusal_6 h (fun v2 h => ?_)
  by_cases z3_0 : v2 = 0
  · have h := mm_t z3_0 h
    refine lv_tableIn (tgt := 60) (off := 51) X.1 X.2.1 dX6_refusal_9 (by rw [z3_0]; decide) (by rw [z3_0]; decide) (by rw [z3_0]; rfl) (by decide) ?_
    refine lv_aload_n X.1 X.2.1 dX6_refusal_60 rfl (lv_at hl 1 rfl) ?_
    refine lv_iload_n X.1 X.2.1 dX6_refusal_61 rfl (lv_at hl 0 rfl) ?_
    refine mm_cVi X I hl (As := [.int v1]) (ci := 6) md_X6_hasLine mv_X6_hasLine ml_X6_85 rfl (kX6_hasLine (n := n)) (by decide) ⟨Nat.le_refl 0, Nat.le_refl 0⟩ rfl rfl (Nat.le_of_ble_eq_true rfl) dX6_refusal_62 h (fun v4 M H locs I h => ?_)
    refine mm_jne (tgt := 70) X dX6_refusal_65 (by decide) h (fun h => ?_) (fun h => ?_)
    · refine lv_aload_n X.1 X.2.1 dX6_refusal_70 rfl (lv_at hl 2 rfl) ?_
      refine mm_rgr X I fl_X6_89 dX6_refusal_71 h (fun v5 h => ?_)
      refine mm_rgi X I fl_X6_66 dX6_refusal_74 h (fun v6 h => ?_)
      refine mm_jne (tgt := 82) X dX6_refusal_77 (by decide) h (fun h => ?_) (fun h => ?_)
      · refine lv_aload_n X.1 X.2.1 dX6_refusal_82 rfl (lv_at hl 1 rfl) ?_
        refine mm_rgr X I fl_X6_11 dX6_refusal_83 h (fun v7 h => ?_)
        refine lv_iload_n X.1 X.2.1 dX6_refusal_86 rfl (lv_at hl 0 rfl) ?_
        refine mm_rra X I dX6_refusal_87 h (fun v8 h => ?_)
        refine mm_rgr X I fl_X6_62 dX6_refusal_88 h (fun v9 h => ?_)
        refine lv_aload_n X.1 X.2.1 dX6_refusal_91 rfl (lv_at hl 2 rfl) ?_
        refine mm_rgr X I fl_X6_89 dX6_refusal_92 h (fun v10 h => ?_)
        refine mm_cVi X I hl (As := [.ref v10]) (ci := 5) md_X5_isLike mv_X5_isLike ml_X6_90 rfl (kX5_isLike (n := n)) (by decide) ⟨Nat.le_refl 0, Nat.le_refl 0⟩ rfl rfl (Nat.le_of_ble_eq_true rfl) dX6_refusal_95 h (fun v11 M H locs I h => ?_)
        refine mm_jeq (tgt := 105) X dX6_refusal_98 (by decide) h (fun h => ?_) (fun h => ?_)
        · refine lv_iconst (v := (-1)) X.1 X.2.1 dX6_refusal_105 (by decide) ?_
          exact mm_xi X I hr hlk dX6_refusal_106 h
        · refine lv_iconst (v := 2) X.1 X.2.1 dX6_refusal_101 (by decide) ?_
          refine lv_goto (tgt := 106) X.1 X.2.1 dX6_refusal_102 (by decide) ?_
          exact mm_xi X I hr hlk dX6_refusal_106 h
      · refine lv_iconst (v := 1) X.1 X.2.1 dX6_refusal_80 (by decide) ?_
        exact mm_xi X I hr hlk dX6_refusal_81 h
    · refine lv_iconst (v := 0) X.1 X.2.1 dX6_refusal_68 (by decide) ?_
      exact mm_xi X I hr hlk dX6_refusal_69 h
  · have h := mm_f z3_0 h
    by_cases z3_1 : v2 = 1
    · have h := mm_t z3_1 h
      refine lv_tableIn (tgt := 107) (off := 98) X.1 X.2.1 dX6_refusal_9 (by rw [z3_1]; decide) (by rw [z3_1]; decide) (by rw [z3_1]; rfl) (by decide) ?_
      refine lv_aload_n X.1 X.2.1 dX6_refusal_107 rfl (lv_at hl 1 rfl) ?_
      refine mm_rgi X I fl_X6_36 dX6_refusal_108 h (fun v12 h => ?_)
      refine mm_jeq (tgt := 126) X dX6_refusal_111 (by decide) h (fun h => ?_) (fun h => ?_)
      · refine lv_iconst (v := 0) X.1 X.2.1 dX6_refusal_126 (by decide) ?_
        exact mm_xi X I hr hlk dX6_refusal_127 h
      · refine lv_iload_n X.1 X.2.1 dX6_refusal_114 rfl (lv_at hl 0 rfl) ?_
        refine mm_jlt (tgt := 126) X dX6_refusal_115 (by decide) h (fun h => ?_) (fun h => ?_)
        · refine lv_iconst (v := 0) X.1 X.2.1 dX6_refusal_126 (by decide) ?_
          exact mm_xi X I hr hlk dX6_refusal_127 h
        · refine lv_iload_n X.1 X.2.1 dX6_refusal_118 rfl (lv_at hl 0 rfl) ?_
          refine lv_aload_n X.1 X.2.1 dX6_refusal_119 rfl (lv_at hl 1 rfl) ?_
          refine mm_rgi X I fl_X6_36 dX6_refusal_120 h (fun v13 h => ?_)
          refine mm_kle (tgt := 128) X dX6_refusal_123 (by decide) h (fun h => ?_) (fun h => ?_)
          · refine lv_aload_n X.1 X.2.1 dX6_refusal_128 rfl (lv_at hl 2 rfl) ?_
            refine mm_rgr X I fl_X6_89 dX6_refusal_129 h (fun v14 h => ?_)
            refine mm_rgi X I fl_X6_66 dX6_refusal_132 h (fun v15 h => ?_)
            refine mm_jne (tgt := 140) X dX6_refusal_135 (by decide) h (fun h => ?_) (fun h => ?_)
            · refine lv_aload_n X.1 X.2.1 dX6_refusal_140 rfl (lv_at hl 1 rfl) ?_
              refine mm_rgi X I fl_X6_36 dX6_refusal_141 h (fun v16 h => ?_)
              refine lv_bipush (v := 10) X.1 X.2.1 dX6_refusal_144 (by decide) ?_
              refine mm_kne (tgt := 153) X dX6_refusal_146 (by decide) h (fun h => ?_) (fun h => ?_)
              · refine lv_iconst (v := (-1)) X.1 X.2.1 dX6_refusal_153 (by decide) ?_
                exact mm_xi X I hr hlk dX6_refusal_154 h
              · refine lv_iconst (v := 3) X.1 X.2.1 dX6_refusal_149 (by decide) ?_
                refine lv_goto (tgt := 154) X.1 X.2.1 dX6_refusal_150 (by decide) ?_
                exact mm_xi X I hr hlk dX6_refusal_154 h
            · refine lv_iconst (v := 1) X.1 X.2.1 dX6_refusal_138 (by decide) ?_
              exact mm_xi X I hr hlk dX6_refusal_139 h
          · refine lv_iconst (v := 0) X.1 X.2.1 dX6_refusal_126 (by decide) ?_
            exact mm_xi X I hr hlk dX6_refusal_127 h
    · have h := mm_f z3_1 h
      by_cases z3_2 : v2 = 2
      · have h := mm_t z3_2 h
        refine lv_tableIn (tgt := 155) (off := 146) X.1 X.2.1 dX6_refusal_9 (by rw [z3_2]; decide) (by rw [z3_2]; decide) (by rw [z3_2]; rfl) (by decide) ?_
        refine lv_aload_n X.1 X.2.1 dX6_refusal_155 rfl (lv_at hl 1 rfl) ?_
        refine lv_iload_n X.1 X.2.1 dX6_refusal_156 rfl (lv_at hl 0 rfl) ?_
        refine mm_cVi X I hl (As := [.int v1]) (ci := 6) md_X6_hasLine mv_X6_hasLine ml_X6_85 rfl (kX6_hasLine (n := n)) (by decide) ⟨Nat.le_refl 0, Nat.le_refl 0⟩ rfl rfl (Nat.le_of_ble_eq_true rfl) dX6_refusal_157 h (fun v17 M H locs I h => ?_)
        refine mm_jne (tgt := 165) X dX6_refusal_160 (by decide) h (fun h => ?_) (fun h => ?_)
        · refine lv_aload_n X.1 X.2.1 dX6_refusal_165 rfl (lv_at hl 1 rfl) ?_
          refine mm_rgi X I fl_X6_36 dX6_refusal_166 h (fun v18 h => ?_)
          refine lv_iconst (v := 1) X.1 X.2.1 dX6_refusal_169 (by decide) ?_
          refine mm_kne (tgt := 177) X dX6_refusal_170 (by decide) h (fun h => ?_) (fun h => ?_)
          · refine lv_iconst (v := (-1)) X.1 X.2.1 dX6_refusal_177 (by decide) ?_
            exact mm_xi X I hr hlk dX6_refusal_178 h
          · refine lv_iconst (v := 2) X.1 X.2.1 dX6_refusal_173 (by decide) ?_
            refine lv_goto (tgt := 178) X.1 X.2.1 dX6_refusal_174 (by decide) ?_
            exact mm_xi X I hr hlk dX6_refusal_178 h
        · refine lv_iconst (v := 0) X.1 X.2.1 dX6_refusal_163 (by decide) ?_
          exact mm_xi X I hr hlk dX6_refusal_164 h
      · have h := mm_f z3_2 h
        by_cases z3_3 : v2 = 3
        · have h := mm_t z3_3 h
          refine lv_tableIn (tgt := 179) (off := 170) X.1 X.2.1 dX6_refusal_9 (by rw [z3_3]; decide) (by rw [z3_3]; decide) (by rw [z3_3]; rfl) (by decide) ?_
          refine lv_aload_n X.1 X.2.1 dX6_refusal_179 rfl (lv_at hl 1 rfl) ?_
          refine lv_iload_n X.1 X.2.1 dX6_refusal_180 rfl (lv_at hl 0 rfl) ?_
          refine mm_cVi X I hl (As := [.int v1]) (ci := 6) md_X6_hasLine mv_X6_hasLine ml_X6_85 rfl (kX6_hasLine (n := n)) (by decide) ⟨Nat.le_refl 0, Nat.le_refl 0⟩ rfl rfl (Nat.le_of_ble_eq_true rfl) dX6_refusal_181 h (fun v19 M H locs I h => ?_)
          refine mm_jeq (tgt := 198) X dX6_refusal_184 (by decide) h (fun h => ?_) (fun h => ?_)
          · refine lv_iconst (v := 0) X.1 X.2.1 dX6_refusal_198 (by decide) ?_
            exact mm_xi X I hr hlk dX6_refusal_199 h
          · refine lv_aload_n X.1 X.2.1 dX6_refusal_187 rfl (lv_at hl 1 rfl) ?_
            refine lv_aload_n X.1 X.2.1 dX6_refusal_188 rfl (lv_at hl 2 rfl) ?_
            refine mm_rgi X I fl_X6_94 dX6_refusal_189 h (fun v20 h => ?_)
            refine mm_cVi X I hl (As := [.int v20]) (ci := 6) md_X6_hasLine mv_X6_hasLine ml_X6_85 rfl (kX6_hasLine (n := n)) (by decide) ⟨Nat.le_refl 0, Nat.le_refl 0⟩ rfl rfl (Nat.le_of_ble_eq_true rfl) dX6_refusal_192 h (fun v21 M H locs I h => ?_)
            refine mm_jne (tgt := 200) X dX6_refusal_195 (by decide) h (fun h => ?_) (fun h => ?_)
            · refine lv_iload_n X.1 X.2.1 dX6_refusal_200 rfl (lv_at hl 0 rfl) ?_
              refine lv_aload_n X.1 X.2.1 dX6_refusal_201 rfl (lv_at hl 2 rfl) ?_
              refine mm_rgi X I fl_X6_94 dX6_refusal_202 h (fun v22 h => ?_)
              refine mm_kne (tgt := 212) X dX6_refusal_205 (by decide) h (fun h => ?_) (fun h => ?_)
              · refine lv_iconst (v := (-1)) X.1 X.2.1 dX6_refusal_212 (by decide) ?_
                exact mm_xi X I hr hlk dX6_refusal_213 h
              · refine lv_iconst (v := 2) X.1 X.2.1 dX6_refusal_208 (by decide) ?_
                refine lv_goto (tgt := 213) X.1 X.2.1 dX6_refusal_209 (by decide) ?_
                exact mm_xi X I hr hlk dX6_refusal_213 h
            · refine lv_iconst (v := 0) X.1 X.2.1 dX6_refusal_198 (by decide) ?_
              exact mm_xi X I hr hlk dX6_refusal_199 h
        · have h := mm_f z3_3 h
          by_cases z3_7 : v2 = 7
          · have h := mm_t z3_7 h
            refine lv_tableIn (tgt := 214) (off := 205) X.1 X.2.1 dX6_refusal_9 (by rw [z3_7]; decide) (by rw [z3_7]; decide) (by rw [z3_7]; rfl) (by decide) ?_
            refine lv_aload_n X.1 X.2.1 dX6_refusal_214 rfl (lv_at hl 1 rfl) ?_
            refine lv_iload_n X.1 X.2.1 dX6_refusal_215 rfl (lv_at hl 0 rfl) ?_
            refine lv_aload_n X.1 X.2.1 dX6_refusal_216 rfl (lv_at hl 2 rfl) ?_
            refine mm_rgi X I fl_X6_94 dX6_refusal_217 h (fun v23 h => ?_)
            refine mm_cVi X I hl (As := [.int v1, .int v23]) (ci := 6) md_X6_splitRefusal mv_X6_splitRefusal ml_X6_97 rfl (kX6_splitRefusal (n := n)) (by decide) ⟨Nat.le_refl 0, Nat.le_refl 0⟩ rfl rfl (Nat.le_of_ble_eq_true rfl) dX6_refusal_220 h (fun v24 M H locs I h => ?_)
            exact mm_xi X I hr hlk dX6_refusal_223 h
          · have h := mm_f z3_7 h
            by_cases z3_8 : v2 = 8
            · have h := mm_t z3_8 h
              refine lv_tableIn (tgt := 224) (off := 215) X.1 X.2.1 dX6_refusal_9 (by rw [z3_8]; decide) (by rw [z3_8]; decide) (by rw [z3_8]; rfl) (by decide) ?_
              refine lv_aload_n X.1 X.2.1 dX6_refusal_224 rfl (lv_at hl 1 rfl) ?_
              refine lv_iload_n X.1 X.2.1 dX6_refusal_225 rfl (lv_at hl 0 rfl) ?_
              refine mm_cVi X I hl (As := [.int v1]) (ci := 6) md_X6_joinRefusal mv_X6_joinRefusal ml_X6_101 rfl (kX6_joinRefusal (n := n)) (by decide) ⟨Nat.le_refl 0, Nat.le_refl 0⟩ rfl rfl (Nat.le_of_ble_eq_true rfl) dX6_refusal_226 h (fun v25 M H locs I h => ?_)
              exact mm_xi X I hr hlk dX6_refusal_229 h
            · have h := mm_f z3_8 h
              have z3_q0 : ¬ Int32.toInt v2 = 0 := fun q => z3_0 (Int32.toInt_inj.mp q)
              have z3_q1 : ¬ Int32.toInt v2 = 1 := fun q => z3_1 (Int32.toInt_inj.mp q)
              have z3_q2 : ¬ Int32.toInt v2 = 2 := fun q => z3_2 (Int32.toInt_inj.mp q)
              have z3_q3 : ¬ Int32.toInt v2 = 3 := fun q => z3_3 (Int32.toInt_inj.mp q)
              have z3_q7 : ¬ Int32.toInt v2 = 7 := fun q => z3_7 (Int32.toInt_inj.mp q)
              have z3_q8 : ¬ Int32.toInt v2 = 8 := fun q => z3_8 (Int32.toInt_inj.mp q)
              refine mm_tdef (tgt := 230) X dX6_refusal_9 (by decide) (fun i hi hq => ?_) (by decide) ?_
              · rcases (show i = 0 ∨ i = 1 ∨ i = 2 ∨ i = 3 ∨ i = 4 ∨ i = 5 ∨ i = 6 ∨ i = 7 ∨ i = 8 by simp at hi; omega) with rfl | rfl | rfl | rfl | rfl | rfl | rfl | rfl | rfl
                · exact absurd hq (by omega)
                · exact absurd hq (by omega)
                · exact absurd hq (by omega)
                · exact absurd hq (by omega)
                · rfl
                · rfl
                · rfl
                · exact absurd hq (by omega)
                · exact absurd hq (by omega)
              · refine lv_aload_n X.1 X.2.1 dX6_refusal_230 rfl (lv_at hl 1 rfl) ?_
                refine lv_aload_n X.1 X.2.1 dX6_refusal_231 rfl (lv_at hl 2 rfl) ?_
                refine mm_cVi X I hl (As := [.ref a1]) (ci := 6) md_X6_cursorRefusal mv_X6_cursorRefusal ml_X6_105 rfl (kX6_cursorRefusal (n := n)) (by decide) ⟨Nat.le_refl 0, Nat.le_refl 0⟩ rfl rfl (Nat.le_of_ble_eq_true rfl) dX6_refusal_232 h (fun v26 M H locs I h => ?_)
                exact mm_xi X I hr hlk dX6_refusal_235 h
set_option maxHeartbeats 4000000 in
set_option maxRecDepth 100000 in
theorem kX6_subject {l : Launch} {D : va_G} {dA : Nat → ClassId} {lo : Nat} {n : Nat} {M : mm_M} {a0 : Nat} {a1 : Nat} (o : Int32 × mm_M) (h : pX6_subject n M a0 a1 = some o) : (∃ fs, M.2 a0 = some (mm_ob 6 fs)) ∧ mm_Met l D dA lo yX6_subject cX6_subject 2 (some .int) 1 21 0 0 [.ref a0, .ref a1] M (some (.int o.1)) o.2 := by
  unfold pX6_subject at h
  obtain ⟨hob, h⟩ := mm_v_some h
  refine ⟨hob, mm_enter (by decide) (Nat.le_of_ble_eq_true rfl) (fun p e s m args below meth c ls X hr hlk hnm I hl => ?_)⟩
  have X : mm_C D dA lo cX6_subject RX6 2 p s m args c := X
  have hl : lv_has ls 2 [(0, .ref a0), (1, .ref a1)] := hl
  refine lv_aload_n X.1 X.2.1 dX6_subject_0 rfl (lv_at hl 1 rfl) ?_
  refine mm_rgi X I fl_X6_82 dX6_subject_1 h (fun v1 h => ?_)
  by_cases z2_0 : v1 = 1
  · have h := mm_t z2_0 h
    refine lv_tableIn (tgt := 44) (off := 40) X.1 X.2.1 dX6_subject_4 (by rw [z2_0]; decide) (by rw [z2_0]; decide) (by rw [z2_0]; rfl) (by decide) ?_
    refine lv_aload_n X.1 X.2.1 dX6_subject_44 rfl (lv_at hl 0 rfl) ?_
    refine mm_rgi X I fl_X6_44 dX6_subject_45 h (fun v3 h => ?_)
    exact mm_xi X I hr hlk dX6_subject_48 h
  · have h := mm_f z2_0 h
    by_cases z2_3 : v1 = 4
    · have h := mm_t z2_3 h
      refine lv_tableIn (tgt := 49) (off := 45) X.1 X.2.1 dX6_subject_4 (by rw [z2_3]; decide) (by rw [z2_3]; decide) (by rw [z2_3]; rfl) (by decide) ?_
      refine lv_aload_n X.1 X.2.1 dX6_subject_49 rfl (lv_at hl 1 rfl) ?_
      refine mm_rgi X I fl_X6_77 dX6_subject_50 h (fun v4 h => ?_)
      exact mm_xi X I hr hlk dX6_subject_53 h
    · have h := mm_f z2_3 h
      by_cases z2_4 : v1 = 5
      · have h := mm_t z2_4 h
        refine lv_tableIn (tgt := 49) (off := 45) X.1 X.2.1 dX6_subject_4 (by rw [z2_4]; decide) (by rw [z2_4]; decide) (by rw [z2_4]; rfl) (by decide) ?_
        refine lv_aload_n X.1 X.2.1 dX6_subject_49 rfl (lv_at hl 1 rfl) ?_
        refine mm_rgi X I fl_X6_77 dX6_subject_50 h (fun v5 h => ?_)
        exact mm_xi X I hr hlk dX6_subject_53 h
      · have h := mm_f z2_4 h
        by_cases z2_5 : v1 = 6
        · have h := mm_t z2_5 h
          refine lv_tableIn (tgt := 49) (off := 45) X.1 X.2.1 dX6_subject_4 (by rw [z2_5]; decide) (by rw [z2_5]; decide) (by rw [z2_5]; rfl) (by decide) ?_
          refine lv_aload_n X.1 X.2.1 dX6_subject_49 rfl (lv_at hl 1 rfl) ?_
          refine mm_rgi X I fl_X6_77 dX6_subject_50 h (fun v6 h => ?_)
          exact mm_xi X I hr hlk dX6_subject_53 h
        · have h := mm_f z2_5 h
          have z2_q0 : ¬ Int32.toInt v1 = 1 := fun q => z2_0 (Int32.toInt_inj.mp q)
          have z2_q3 : ¬ Int32.toInt v1 = 4 := fun q => z2_3 (Int32.toInt_inj.mp q)
          have z2_q4 : ¬ Int32.toInt v1 = 5 := fun q => z2_4 (Int32.toInt_inj.mp q)
          have z2_q5 : ¬ Int32.toInt v1 = 6 := fun q => z2_5 (Int32.toInt_inj.mp q)
          refine mm_tdef (tgt := 54) X dX6_subject_4 (by decide) (fun i hi hq => ?_) (by decide) ?_
          · rcases (show i = 0 ∨ i = 1 ∨ i = 2 ∨ i = 3 ∨ i = 4 ∨ i = 5 by simp at hi; omega) with rfl | rfl | rfl | rfl | rfl | rfl
            · exact absurd hq (by omega)
            · rfl
            · rfl
            · exact absurd hq (by omega)
            · exact absurd hq (by omega)
            · exact absurd hq (by omega)
          · refine lv_aload_n X.1 X.2.1 dX6_subject_54 rfl (lv_at hl 0 rfl) ?_
            refine lv_aload_n X.1 X.2.1 dX6_subject_55 rfl (lv_at hl 1 rfl) ?_
            refine mm_rgi X I fl_X6_77 dX6_subject_56 h (fun v7 h => ?_)
            refine mm_cVi X I hl (As := [.int v7]) (ci := 6) md_X6_hasLine mv_X6_hasLine ml_X6_85 rfl (kX6_hasLine (n := n)) (by decide) ⟨Nat.le_refl 0, Nat.le_refl 0⟩ rfl rfl (Nat.le_of_ble_eq_true rfl) dX6_subject_59 h (fun v8 M H locs I h => ?_)
            refine mm_jeq (tgt := 80) X dX6_subject_62 (by decide) h (fun h => ?_) (fun h => ?_)
            · refine lv_iconst (v := (-1)) X.1 X.2.1 dX6_subject_80 (by decide) ?_
              exact mm_xi X I hr hlk dX6_subject_81 h
            · refine lv_aload_n X.1 X.2.1 dX6_subject_65 rfl (lv_at hl 0 rfl) ?_
              refine mm_rgr X I fl_X6_11 dX6_subject_66 h (fun v9 h => ?_)
              refine lv_aload_n X.1 X.2.1 dX6_subject_69 rfl (lv_at hl 1 rfl) ?_
              refine mm_rgi X I fl_X6_77 dX6_subject_70 h (fun v10 h => ?_)
              refine mm_rra X I dX6_subject_73 h (fun v11 h => ?_)
              refine mm_rgi X I fl_X6_116 dX6_subject_74 h (fun v12 h => ?_)
              refine lv_goto (tgt := 81) X.1 X.2.1 dX6_subject_77 (by decide) ?_
              exact mm_xi X I hr hlk dX6_subject_81 h
set_option maxHeartbeats 4000000 in
set_option maxRecDepth 100000 in
theorem wpX6_open_b40 {p : Program} {l : Launch} {e : Env} {s : State} {m : MethodId} {args : Array Value} {below : List Frame} {meth : Method} {c : Code} {D : va_G} {dA : Nat → ClassId} {lo : Nat} (X : mm_C D dA lo cX6_open RX6 4 p s m args c) (hr : meth.sig.returnType = (some (.object "KwicStore$Line"))) (hlk : meth.locks = false) (n : Nat) {o : Nat × mm_M}  : ∀ (M : mm_M) (a0 : Nat) (x1 : Int32) (a2 : Nat) (H : Heap) (locs : List Loc) (ls : Array Slot), mm_I D dA lo s M H locs → lv_has ls 4 [(0, .ref a0), (1, .int x1), (2, .ref a2)] → pX6_open_b40 n M a0 x1 a2 = some o → W p l e (mm_rm 0 0 0 0) s m args below meth c H locs 0 0 (MQ below (mm_Q D dA lo (some (.ref o.1)) o.2) args s 0 0 (mm_fr lo)) (F0 m 40 ls []) := by
  intro M a0 x1 a2 H locs ls I hl h
  unfold pX6_open_b40 at h
  refine lv_aload_n X.1 X.2.1 dX6_open_40 rfl (lv_at hl 0 rfl) ?_
  refine mm_rgr X I fl_X6_11 dX6_open_41 h (fun v1 h => ?_)
  refine lv_iload_n X.1 X.2.1 dX6_open_44 rfl (lv_at hl 1 rfl) ?_
  refine lv_aload_n X.1 X.2.1 dX6_open_45 rfl (lv_at hl 2 rfl) ?_
  refine mm_rrs X I dX6_open_46 h (fun M H locs I h => ?_)
  refine lv_aload_n X.1 X.2.1 dX6_open_47 rfl (lv_at hl 2 rfl) ?_
  refine lv_aload_n X.1 X.2.1 dX6_open_48 rfl (lv_at hl 0 rfl) ?_
  refine mm_rgi X I fl_X6_44 dX6_open_49 h (fun v2 h => ?_)
  refine mm_rpi X I fl_X6_116 dX6_open_52 h (fun M H locs I h => ?_)
  refine lv_aload_n X.1 X.2.1 dX6_open_55 rfl (lv_at hl 0 rfl) ?_
  refine lv_dup X.1 X.2.1 dX6_open_56 rfl ?_
  refine mm_rgi X I fl_X6_44 dX6_open_57 h (fun v3 h => ?_)
  refine lv_iconst (v := 1) X.1 X.2.1 dX6_open_60 (by decide) ?_
  refine lv_iadd X.1 X.2.1 dX6_open_61 ?_
  refine mm_rpi X I fl_X6_44 dX6_open_62 h (fun M H locs I h => ?_)
  refine lv_aload_n X.1 X.2.1 dX6_open_65 rfl (lv_at hl 0 rfl) ?_
  refine lv_dup X.1 X.2.1 dX6_open_66 rfl ?_
  refine mm_rgi X I fl_X6_36 dX6_open_67 h (fun v4 h => ?_)
  refine lv_iconst (v := 1) X.1 X.2.1 dX6_open_70 (by decide) ?_
  refine lv_iadd X.1 X.2.1 dX6_open_71 ?_
  refine mm_rpi X I fl_X6_36 dX6_open_72 h (fun M H locs I h => ?_)
  refine lv_aload_n X.1 X.2.1 dX6_open_75 rfl (lv_at hl 2 rfl) ?_
  exact mm_xr X I hr (Or.inl ⟨_, rfl⟩) hlk dX6_open_76 h
set_option maxHeartbeats 4000000 in
set_option maxRecDepth 100000 in
theorem wpX6_open_l15 {p : Program} {l : Launch} {e : Env} {s : State} {m : MethodId} {args : Array Value} {below : List Frame} {meth : Method} {c : Code} {D : va_G} {dA : Nat → ClassId} {lo : Nat} (X : mm_C D dA lo cX6_open RX6 4 p s m args c) (hr : meth.sig.returnType = (some (.object "KwicStore$Line"))) (hlk : meth.locks = false) (n : Nat) {o : Nat × mm_M} (k : Nat) : ∀ (M : mm_M) (a0 : Nat) (x1 : Int32) (a2 : Nat) (x3 : Int32) (H : Heap) (locs : List Loc) (ls : Array Slot), mm_I D dA lo s M H locs → lv_has ls 4 [(0, .ref a0), (1, .int x1), (2, .ref a2), (3, .int x3)] → pX6_open_l15 n k M a0 x1 a2 x3 = some o → W p l e (mm_rm 0 0 0 0) s m args below meth c H locs 0 0 (MQ below (mm_Q D dA lo (some (.ref o.1)) o.2) args s 0 0 (mm_fr lo)) (F0 m 15 ls []) := by
  induction k with
  | zero =>
    intro M a0 x1 a2 x3 H locs ls I hl h
    have h : (none : Option (Nat × mm_M)) = some o := h
    cases h
  | succ k ih =>
    intro M a0 x1 a2 x3 H locs ls I hl h
    have h : pX6_open_l15b n (pX6_open_l15 n k) M a0 x1 a2 x3 = some o := h
    unfold pX6_open_l15b at h
    refine lv_iload_n X.1 X.2.1 dX6_open_15 rfl (lv_at hl 3 rfl) ?_
    refine lv_iload_n X.1 X.2.1 dX6_open_16 rfl (lv_at hl 1 rfl) ?_
    refine mm_kle (tgt := 40) X dX6_open_17 (by decide) h (fun h => ?_) (fun h => ?_)
    · exact wpX6_open_b40 X hr hlk n  M _ _ _ _ _ _ I (lv_sub hl [0, 1, 2] rfl) h
    · refine lv_aload_n X.1 X.2.1 dX6_open_20 rfl (lv_at hl 0 rfl) ?_
      refine mm_rgr X I fl_X6_11 dX6_open_21 h (fun v1 h => ?_)
      refine lv_iload_n X.1 X.2.1 dX6_open_24 rfl (lv_at hl 3 rfl) ?_
      refine lv_aload_n X.1 X.2.1 dX6_open_25 rfl (lv_at hl 0 rfl) ?_
      refine mm_rgr X I fl_X6_11 dX6_open_26 h (fun v2 h => ?_)
      refine lv_iload_n X.1 X.2.1 dX6_open_29 rfl (lv_at hl 3 rfl) ?_
      refine lv_iconst (v := 1) X.1 X.2.1 dX6_open_30 (by decide) ?_
      refine lv_isub X.1 X.2.1 dX6_open_31 ?_
      refine mm_rra X I dX6_open_32 h (fun v3 h => ?_)
      refine mm_rrs X I dX6_open_33 h (fun M H locs I h => ?_)
      refine lv_iinc (v := (x3 + (-1))) (lv' := [(3, .int (x3 + (-1))), (0, .ref a0), (1, .int x1), (2, .ref a2)]) X.1 X.2.1 dX6_open_34 hl (k := 3) rfl rfl (by decide) rfl (fun ls hl => ?_)
      refine lv_goto (tgt := 15) X.1 X.2.1 dX6_open_37 (by decide) ?_
      exact ih M _ _ _ _ _ _ _ I (lv_sub hl [1, 2, 3, 0] rfl) h
set_option maxHeartbeats 4000000 in
set_option maxRecDepth 100000 in
theorem kX6_open {l : Launch} {D : va_G} {dA : Nat → ClassId} {lo : Nat} {n : Nat} {M : mm_M} {a0 : Nat} {x1 : Int32} (o : Nat × mm_M) (h : pX6_open n M a0 x1 = some o) : (∃ fs, M.2 a0 = some (mm_ob 6 fs)) ∧ mm_Met l D dA lo yX6_open cX6_open 4 (some (.object "KwicStore$Line")) 0 0 0 0 [.ref a0, .int x1] M (some (.ref o.1)) o.2 := by
  unfold pX6_open at h
  obtain ⟨hob, h⟩ := mm_v_some h
  refine ⟨hob, mm_enter (by decide) (Nat.le_of_ble_eq_true rfl) (fun p e s m args below meth c ls X hr hlk hnm I hl => ?_)⟩
  have X : mm_C D dA lo cX6_open RX6 4 p s m args c := X
  have hl : lv_has ls 4 [(0, .ref a0), (1, .int x1)] := hl
  refine lv_aload_n X.1 X.2.1 dX6_open_0 rfl (lv_at hl 0 rfl) ?_
  refine mm_rgr X I fl_X6_11 dX6_open_1 h (fun v1 h => ?_)
  refine lv_aload_n X.1 X.2.1 dX6_open_4 rfl (lv_at hl 0 rfl) ?_
  refine mm_rgi X I fl_X6_36 dX6_open_5 h (fun v2 h => ?_)
  refine mm_rra X I dX6_open_8 h (fun v3 h => ?_)
  refine lv_astore_n (lv' := [(2, .ref v3), (0, .ref a0), (1, .int x1)]) X.1 X.2.1 dX6_open_9 rfl hl (by decide) rfl (fun ls hl => ?_)
  refine lv_aload_n X.1 X.2.1 dX6_open_10 rfl (lv_at hl 1 rfl) ?_
  refine mm_rgi X I fl_X6_36 dX6_open_11 h (fun v4 h => ?_)
  refine lv_istore_n (lv' := [(3, .int v4), (2, .ref v3), (0, .ref a0), (1, .int x1)]) X.1 X.2.1 dX6_open_14 rfl hl (by decide) rfl (fun ls hl => ?_)
  exact wpX6_open_l15 X hr hlk n  n M _ _ _ _ _ _ _ I (lv_sub hl [2, 3, 1, 0] rfl) h
set_option maxHeartbeats 4000000 in
set_option maxRecDepth 100000 in
theorem wpX6_close_b39 {p : Program} {l : Launch} {e : Env} {s : State} {m : MethodId} {args : Array Value} {below : List Frame} {meth : Method} {c : Code} {D : va_G} {dA : Nat → ClassId} {lo : Nat} (X : mm_C D dA lo cX6_close RX6 4 p s m args c) (hr : meth.sig.returnType = none) (hlk : meth.locks = false) (n : Nat) {o : mm_M}  : ∀ (M : mm_M) (a0 : Nat) (a2 : Nat) (H : Heap) (locs : List Loc) (ls : Array Slot), mm_I D dA lo s M H locs → lv_has ls 4 [(0, .ref a0), (2, .ref a2)] → pX6_close_b39 n M a0 a2 = some o → W p l e (mm_rm 0 0 0 0) s m args below meth c H locs 0 0 (MQ below (mm_Q D dA lo none o) args s 0 0 (mm_fr lo)) (F0 m 39 ls []) := by
  intro M a0 a2 H locs ls I hl h
  unfold pX6_close_b39 at h
  refine lv_aload_n X.1 X.2.1 dX6_close_39 rfl (lv_at hl 0 rfl) ?_
  refine lv_dup X.1 X.2.1 dX6_close_40 rfl ?_
  refine mm_rgi X I fl_X6_36 dX6_close_41 h (fun v1 h => ?_)
  refine lv_iconst (v := 1) X.1 X.2.1 dX6_close_44 (by decide) ?_
  refine lv_isub X.1 X.2.1 dX6_close_45 ?_
  refine mm_rpi X I fl_X6_36 dX6_close_46 h (fun M H locs I h => ?_)
  refine lv_aload_n X.1 X.2.1 dX6_close_49 rfl (lv_at hl 0 rfl) ?_
  refine mm_rgr X I fl_X6_11 dX6_close_50 h (fun v2 h => ?_)
  refine lv_aload_n X.1 X.2.1 dX6_close_53 rfl (lv_at hl 0 rfl) ?_
  refine mm_rgi X I fl_X6_36 dX6_close_54 h (fun v3 h => ?_)
  refine lv_aload_n X.1 X.2.1 dX6_close_57 rfl (lv_at hl 1 rfl) ?_
  refine mm_rrs X I dX6_close_58 h (fun M H locs I h => ?_)
  exact mm_xv X I hr hlk dX6_close_59 h
set_option maxHeartbeats 4000000 in
set_option maxRecDepth 100000 in
theorem wpX6_close_l9 {p : Program} {l : Launch} {e : Env} {s : State} {m : MethodId} {args : Array Value} {below : List Frame} {meth : Method} {c : Code} {D : va_G} {dA : Nat → ClassId} {lo : Nat} (X : mm_C D dA lo cX6_close RX6 4 p s m args c) (hr : meth.sig.returnType = none) (hlk : meth.locks = false) (n : Nat) {o : mm_M} (k : Nat) : ∀ (M : mm_M) (a0 : Nat) (a2 : Nat) (x3 : Int32) (H : Heap) (locs : List Loc) (ls : Array Slot), mm_I D dA lo s M H locs → lv_has ls 4 [(0, .ref a0), (2, .ref a2), (3, .int x3)] → pX6_close_l9 n k M a0 a2 x3 = some o → W p l e (mm_rm 0 0 0 0) s m args below meth c H locs 0 0 (MQ below (mm_Q D dA lo none o) args s 0 0 (mm_fr lo)) (F0 m 9 ls []) := by
  induction k with
  | zero =>
    intro M a0 a2 x3 H locs ls I hl h
    have h : (none : Option (mm_M)) = some o := h
    cases h
  | succ k ih =>
    intro M a0 a2 x3 H locs ls I hl h
    have h : pX6_close_l9b n (pX6_close_l9 n k) M a0 a2 x3 = some o := h
    unfold pX6_close_l9b at h
    refine lv_iload_n X.1 X.2.1 dX6_close_9 rfl (lv_at hl 2 rfl) ?_
    refine lv_aload_n X.1 X.2.1 dX6_close_10 rfl (lv_at hl 0 rfl) ?_
    refine mm_rgi X I fl_X6_36 dX6_close_11 h (fun v1 h => ?_)
    refine lv_iconst (v := 1) X.1 X.2.1 dX6_close_14 (by decide) ?_
    refine lv_isub X.1 X.2.1 dX6_close_15 ?_
    refine mm_kge (tgt := 39) X dX6_close_16 (by decide) h (fun h => ?_) (fun h => ?_)
    · exact wpX6_close_b39 X hr hlk n  M _ _ _ _ _ I (lv_sub hl [0, 1] rfl) h
    · refine lv_aload_n X.1 X.2.1 dX6_close_19 rfl (lv_at hl 0 rfl) ?_
      refine mm_rgr X I fl_X6_11 dX6_close_20 h (fun v2 h => ?_)
      refine lv_iload_n X.1 X.2.1 dX6_close_23 rfl (lv_at hl 2 rfl) ?_
      refine lv_aload_n X.1 X.2.1 dX6_close_24 rfl (lv_at hl 0 rfl) ?_
      refine mm_rgr X I fl_X6_11 dX6_close_25 h (fun v3 h => ?_)
      refine lv_iload_n X.1 X.2.1 dX6_close_28 rfl (lv_at hl 2 rfl) ?_
      refine lv_iconst (v := 1) X.1 X.2.1 dX6_close_29 (by decide) ?_
      refine lv_iadd X.1 X.2.1 dX6_close_30 ?_
      refine mm_rra X I dX6_close_31 h (fun v4 h => ?_)
      refine mm_rrs X I dX6_close_32 h (fun M H locs I h => ?_)
      refine lv_iinc (v := (x3 + 1)) (lv' := [(3, .int (x3 + 1)), (0, .ref a0), (2, .ref a2)]) X.1 X.2.1 dX6_close_33 hl (k := 2) rfl rfl (by decide) rfl (fun ls hl => ?_)
      refine lv_goto (tgt := 9) X.1 X.2.1 dX6_close_36 (by decide) ?_
      exact ih M _ _ _ _ _ _ I (lv_sub hl [1, 2, 0] rfl) h
set_option maxHeartbeats 4000000 in
set_option maxRecDepth 100000 in
theorem kX6_close {l : Launch} {D : va_G} {dA : Nat → ClassId} {lo : Nat} {n : Nat} {M : mm_M} {a0 : Nat} {x1 : Int32} (o : mm_M) (h : pX6_close n M a0 x1 = some o) : (∃ fs, M.2 a0 = some (mm_ob 6 fs)) ∧ mm_Met l D dA lo yX6_close cX6_close 4 none 0 0 0 0 [.ref a0, .int x1] M none o := by
  unfold pX6_close at h
  obtain ⟨hob, h⟩ := mm_v_some h
  refine ⟨hob, mm_enter (by decide) (Nat.le_of_ble_eq_true rfl) (fun p e s m args below meth c ls X hr hlk hnm I hl => ?_)⟩
  have X : mm_C D dA lo cX6_close RX6 4 p s m args c := X
  have hl : lv_has ls 4 [(0, .ref a0), (1, .int x1)] := hl
  refine lv_aload_n X.1 X.2.1 dX6_close_0 rfl (lv_at hl 0 rfl) ?_
  refine mm_rgr X I fl_X6_11 dX6_close_1 h (fun v1 h => ?_)
  refine lv_iload_n X.1 X.2.1 dX6_close_4 rfl (lv_at hl 1 rfl) ?_
  refine mm_rra X I dX6_close_5 h (fun v2 h => ?_)
  refine lv_astore_n (lv' := [(2, .ref v2), (0, .ref a0), (1, .int x1)]) X.1 X.2.1 dX6_close_6 rfl hl (by decide) rfl (fun ls hl => ?_)
  refine lv_iload_n X.1 X.2.1 dX6_close_7 rfl (lv_at hl 2 rfl) ?_
  refine lv_istore_n (lv' := [(3, .int x1), (2, .ref v2), (0, .ref a0), (1, .int x1)]) X.1 X.2.1 dX6_close_8 rfl hl (by decide) rfl (fun ls hl => ?_)
  exact wpX6_close_l9 X hr hlk n  n M _ _ _ _ _ _ I (lv_sub hl [2, 1, 0] rfl) h
set_option maxHeartbeats 4000000 in
set_option maxRecDepth 100000 in
theorem kX6_change {l : Launch} {D : va_G} {dA : Nat → ClassId} {lo : Nat} {n : Nat} {M : mm_M} {a0 : Nat} {x1 : Int32} {x2 : Int32} (o : Int32 × mm_M) (h : pX6_change n M a0 x1 x2 = some o) : (∃ fs, M.2 a0 = some (mm_ob 6 fs)) ∧ mm_Met l D dA lo yX6_change cX6_change 4 (some .int) 0 0 0 0 [.ref a0, .int x1, .int x2] M (some (.int o.1)) o.2 := by
  unfold pX6_change at h
  obtain ⟨hob, h⟩ := mm_v_some h
  refine ⟨hob, mm_enter (by decide) (Nat.le_of_ble_eq_true rfl) (fun p e s m args below meth c ls X hr hlk hnm I hl => ?_)⟩
  have X : mm_C D dA lo cX6_change RX6 4 p s m args c := X
  have hl : lv_has ls 4 [(0, .ref a0), (1, .int x1), (2, .int x2)] := hl
  refine lv_aload_n X.1 X.2.1 dX6_change_0 rfl (lv_at hl 0 rfl) ?_
  refine mm_rgr X I fl_X6_11 dX6_change_1 h (fun v1 h => ?_)
  refine lv_iload_n X.1 X.2.1 dX6_change_4 rfl (lv_at hl 1 rfl) ?_
  refine mm_rra X I dX6_change_5 h (fun v2 h => ?_)
  refine lv_astore_n (lv' := [(3, .ref v2), (0, .ref a0), (1, .int x1), (2, .int x2)]) X.1 X.2.1 dX6_change_6 rfl hl (by decide) rfl (fun ls hl => ?_)
  refine lv_aload_n X.1 X.2.1 dX6_change_7 rfl (lv_at hl 1 rfl) ?_
  refine mm_rgr X I fl_X6_11 dX6_change_8 h (fun v3 h => ?_)
  refine lv_iload_n X.1 X.2.1 dX6_change_11 rfl (lv_at hl 2 rfl) ?_
  refine lv_aload_n X.1 X.2.1 dX6_change_12 rfl (lv_at hl 1 rfl) ?_
  refine mm_rgr X I fl_X6_11 dX6_change_13 h (fun v4 h => ?_)
  refine lv_iload_n X.1 X.2.1 dX6_change_16 rfl (lv_at hl 3 rfl) ?_
  refine mm_rra X I dX6_change_17 h (fun v5 h => ?_)
  refine mm_rrs X I dX6_change_18 h (fun M H locs I h => ?_)
  refine lv_aload_n X.1 X.2.1 dX6_change_19 rfl (lv_at hl 1 rfl) ?_
  refine mm_rgr X I fl_X6_11 dX6_change_20 h (fun v6 h => ?_)
  refine lv_iload_n X.1 X.2.1 dX6_change_23 rfl (lv_at hl 3 rfl) ?_
  refine lv_aload_n X.1 X.2.1 dX6_change_24 rfl (lv_at hl 0 rfl) ?_
  refine mm_rrs X I dX6_change_25 h (fun M H locs I h => ?_)
  refine lv_aload_n X.1 X.2.1 dX6_change_26 rfl (lv_at hl 1 rfl) ?_
  refine mm_rgr X I fl_X6_11 dX6_change_27 h (fun v7 h => ?_)
  refine lv_iload_n X.1 X.2.1 dX6_change_30 rfl (lv_at hl 2 rfl) ?_
  refine mm_rra X I dX6_change_31 h (fun v8 h => ?_)
  refine mm_rgi X I fl_X6_116 dX6_change_32 h (fun v9 h => ?_)
  exact mm_xi X I hr hlk dX6_change_35 h
set_option maxHeartbeats 4000000 in
set_option maxRecDepth 100000 in
theorem kX6_start {l : Launch} {D : va_G} {dA : Nat → ClassId} {lo : Nat} {n : Nat} {M : mm_M} {a0 : Nat} {a1 : Nat} {a2 : Nat} (o : Int32 × mm_M) (h : pX6_start n M a0 a1 a2 = some o) : (∃ fs, M.2 a0 = some (mm_ob 6 fs)) ∧ mm_Met l D dA lo yX6_start cX6_start 3 (some .int) 3 69 0 0 [.ref a0, .ref a1, .ref a2] M (some (.int o.1)) o.2 := by
  unfold pX6_start at h
  obtain ⟨hob, h⟩ := mm_v_some h
  refine ⟨hob, mm_enter (by decide) (Nat.le_of_ble_eq_true rfl) (fun p e s m args below meth c ls X hr hlk hnm I hl => ?_)⟩
  have X : mm_C D dA lo cX6_start RX6 3 p s m args c := X
  have hl : lv_has ls 3 [(0, .ref a0), (1, .ref a1), (2, .ref a2)] := hl
  refine lv_aload_n X.1 X.2.1 dX6_start_0 rfl (lv_at hl 1 rfl) ?_
  refine mm_rgr X I fl_X6_150 dX6_start_1 h (fun v1 h => ?_)
  refine lv_aload_n X.1 X.2.1 dX6_start_4 rfl (lv_at hl 2 rfl) ?_
  refine mm_rgr X I fl_X6_89 dX6_start_5 h (fun v2 h => ?_)
  refine mm_cVv X I hl (As := [.ref v2]) (ci := 5) md_X5_copyFrom mv_X5_copyFrom ml_X6_119 rfl (kX5_copyFrom (n := n)) (by decide) ⟨Nat.le_refl 0, Nat.le_refl 0⟩ rfl rfl (Nat.le_of_ble_eq_true rfl) dX6_start_8 h (fun M H locs I h => ?_)
  refine lv_aload_n X.1 X.2.1 dX6_start_11 rfl (lv_at hl 1 rfl) ?_
  refine lv_aload_n X.1 X.2.1 dX6_start_12 rfl (lv_at hl 2 rfl) ?_
  refine mm_rgi X I fl_X6_94 dX6_start_13 h (fun v4 h => ?_)
  refine mm_rpi X I fl_X6_53 dX6_start_16 h (fun M H locs I h => ?_)
  refine lv_aload_n X.1 X.2.1 dX6_start_19 rfl (lv_at hl 1 rfl) ?_
  refine mm_cVv X I hl (As := []) (ci := 0) md_X0_unmark mv_X0_unmark ml_X6_56 rfl (kX0_unmark (n := n)) (by decide) ⟨Nat.le_refl 0, Nat.le_refl 0⟩ rfl rfl (Nat.le_of_ble_eq_true rfl) dX6_start_20 h (fun M H locs I h => ?_)
  refine lv_aload_n X.1 X.2.1 dX6_start_23 rfl (lv_at hl 0 rfl) ?_
  refine lv_aload_n X.1 X.2.1 dX6_start_24 rfl (lv_at hl 1 rfl) ?_
  refine mm_rgr X I fl_X6_150 dX6_start_25 h (fun v6 h => ?_)
  refine mm_cVi X I hl (As := [.ref v6]) (ci := 6) md_X6_hits mv_X6_hits ml_X6_153 rfl (kX6_hits (n := n)) (by decide) ⟨Nat.le_refl 0, Nat.le_refl 0⟩ rfl rfl (Nat.le_of_ble_eq_true rfl) dX6_start_28 h (fun v7 M H locs I h => ?_)
  exact mm_xi X I hr hlk dX6_start_31 h
set_option maxHeartbeats 4000000 in
set_option maxRecDepth 100000 in
theorem wpX6_offer_b130 {p : Program} {l : Launch} {e : Env} {s : State} {m : MethodId} {args : Array Value} {below : List Frame} {meth : Method} {c : Code} {D : va_G} {dA : Nat → ClassId} {lo : Nat} (X : mm_C D dA lo cX6_offer RX6 8 p s m args c) (hr : meth.sig.returnType = (some .int)) (hlk : meth.locks = false) (n : Nat) {o : Int32 × mm_M}  : ∀ (M : mm_M) (a0 : Nat) (x3 : Int32) (x4 : Int32) (x5 : Int32) (x6 : Int32) (H : Heap) (locs : List Loc) (ls : Array Slot), mm_I D dA lo s M H locs → lv_has ls 8 [(0, .ref a0), (3, .int x3), (4, .int x4), (5, .int x5), (6, .int x6)] → pX6_offer_b130 n M a0 x3 x4 x5 x6 = some o → W p l e (mm_rm 2 54 0 0) s m args below meth c H locs 0 0 (MQ below (mm_Q D dA lo (some (.int o.1)) o.2) args s 0 0 (mm_fr lo)) (F0 m 130 ls []) := by
  intro M a0 x3 x4 x5 x6 H locs ls I hl h
  unfold pX6_offer_b130 at h
  refine lv_aload_n X.1 X.2.1 dX6_offer_130 rfl (lv_at hl 0 rfl) ?_
  refine mm_rgr X I fl_X6_30 dX6_offer_131 h (fun v1 h => ?_)
  refine lv_iload X.1 X.2.1 dX6_offer_134 (lv_at hl 3 rfl) ?_
  refine lv_iload_n X.1 X.2.1 dX6_offer_136 rfl (lv_at hl 1 rfl) ?_
  refine lv_bipush (v := 20) X.1 X.2.1 dX6_offer_137 (by decide) ?_
  refine lv_imul X.1 X.2.1 dX6_offer_139 ?_
  refine lv_iload X.1 X.2.1 dX6_offer_140 (lv_at hl 2 rfl) ?_
  refine lv_iadd X.1 X.2.1 dX6_offer_142 ?_
  refine mm_ris X I dX6_offer_143 h (fun M H locs I h => ?_)
  refine lv_iload X.1 X.2.1 dX6_offer_144 (lv_at hl 4 rfl) ?_
  refine lv_iconst (v := 1) X.1 X.2.1 dX6_offer_146 (by decide) ?_
  refine lv_iadd X.1 X.2.1 dX6_offer_147 ?_
  exact mm_xi X I hr hlk dX6_offer_148 h
set_option maxHeartbeats 4000000 in
set_option maxRecDepth 100000 in
theorem wpX6_offer_l101 {p : Program} {l : Launch} {e : Env} {s : State} {m : MethodId} {args : Array Value} {below : List Frame} {meth : Method} {c : Code} {D : va_G} {dA : Nat → ClassId} {lo : Nat} (X : mm_C D dA lo cX6_offer RX6 8 p s m args c) (hr : meth.sig.returnType = (some .int)) (hlk : meth.locks = false) (n : Nat) {o : Int32 × mm_M} (k : Nat) : ∀ (M : mm_M) (a0 : Nat) (x3 : Int32) (x4 : Int32) (x5 : Int32) (x6 : Int32) (x7 : Int32) (H : Heap) (locs : List Loc) (ls : Array Slot), mm_I D dA lo s M H locs → lv_has ls 8 [(0, .ref a0), (3, .int x3), (4, .int x4), (5, .int x5), (6, .int x6), (7, .int x7)] → pX6_offer_l101 n k M a0 x3 x4 x5 x6 x7 = some o → W p l e (mm_rm 2 54 0 0) s m args below meth c H locs 0 0 (MQ below (mm_Q D dA lo (some (.int o.1)) o.2) args s 0 0 (mm_fr lo)) (F0 m 101 ls []) := by
  induction k with
  | zero =>
    intro M a0 x3 x4 x5 x6 x7 H locs ls I hl h
    have h : (none : Option (Int32 × mm_M)) = some o := h
    cases h
  | succ k ih =>
    intro M a0 x3 x4 x5 x6 x7 H locs ls I hl h
    have h : pX6_offer_l101b n (pX6_offer_l101 n k) M a0 x3 x4 x5 x6 x7 = some o := h
    unfold pX6_offer_l101b at h
    refine lv_iload X.1 X.2.1 dX6_offer_101 (lv_at hl 5 rfl) ?_
    refine lv_iload X.1 X.2.1 dX6_offer_103 (lv_at hl 3 rfl) ?_
    refine mm_kle (tgt := 130) X dX6_offer_105 (by decide) h (fun h => ?_) (fun h => ?_)
    · exact wpX6_offer_b130 X hr hlk n  M _ _ _ _ _ _ _ _ I (lv_sub hl [0, 1, 2, 3, 4] rfl) h
    · refine lv_aload_n X.1 X.2.1 dX6_offer_108 rfl (lv_at hl 0 rfl) ?_
      refine mm_rgr X I fl_X6_30 dX6_offer_109 h (fun v1 h => ?_)
      refine lv_iload X.1 X.2.1 dX6_offer_112 (lv_at hl 5 rfl) ?_
      refine lv_aload_n X.1 X.2.1 dX6_offer_114 rfl (lv_at hl 0 rfl) ?_
      refine mm_rgr X I fl_X6_30 dX6_offer_115 h (fun v2 h => ?_)
      refine lv_iload X.1 X.2.1 dX6_offer_118 (lv_at hl 5 rfl) ?_
      refine lv_iconst (v := 1) X.1 X.2.1 dX6_offer_120 (by decide) ?_
      refine lv_isub X.1 X.2.1 dX6_offer_121 ?_
      refine mm_ria X I dX6_offer_122 h (fun v3 h => ?_)
      refine mm_ris X I dX6_offer_123 h (fun M H locs I h => ?_)
      refine lv_iinc (v := (x7 + (-1))) (lv' := [(7, .int (x7 + (-1))), (0, .ref a0), (3, .int x3), (4, .int x4), (5, .int x5), (6, .int x6)]) X.1 X.2.1 dX6_offer_124 hl (k := 5) rfl rfl (by decide) rfl (fun ls hl => ?_)
      refine lv_goto (tgt := 101) X.1 X.2.1 dX6_offer_127 (by decide) ?_
      exact ih M _ _ _ _ _ _ _ _ _ I (lv_sub hl [1, 2, 3, 4, 5, 0] rfl) h
set_option maxHeartbeats 4000000 in
set_option maxRecDepth 100000 in
theorem wpX6_offer_b64 {p : Program} {l : Launch} {e : Env} {s : State} {m : MethodId} {args : Array Value} {below : List Frame} {meth : Method} {c : Code} {D : va_G} {dA : Nat → ClassId} {lo : Nat} (X : mm_C D dA lo cX6_offer RX6 8 p s m args c) (hr : meth.sig.returnType = (some .int)) (hlk : meth.locks = false) (n : Nat) {o : Int32 × mm_M}  : ∀ (M : mm_M) (a0 : Nat) (a1 : Nat) (x2 : Int32) (x3 : Int32) (x4 : Int32) (x5 : Int32) (H : Heap) (locs : List Loc) (ls : Array Slot), mm_I D dA lo s M H locs → lv_has ls 8 [(0, .ref a0), (1, .ref a1), (2, .int x2), (3, .int x3), (4, .int x4), (5, .int x5)] → pX6_offer_b64 n M a0 a1 x2 x3 x4 x5 = some o → W p l e (mm_rm 2 54 0 0) s m args below meth c H locs 0 0 (MQ below (mm_Q D dA lo (some (.int o.1)) o.2) args s 0 0 (mm_fr lo)) (F0 m 64 ls []) := by
  intro M a0 a1 x2 x3 x4 x5 H locs ls I hl h
  unfold pX6_offer_b64 at h
  refine lv_iload X.1 X.2.1 dX6_offer_64 (lv_at hl 5 rfl) ?_
  refine lv_aload_n X.1 X.2.1 dX6_offer_66 rfl (lv_at hl 1 rfl) ?_
  refine mm_rgi X I fl_X6_53 dX6_offer_67 h (fun v1 h => ?_)
  refine mm_kge (tgt := 83) X dX6_offer_70 (by decide) h (fun h => ?_) (fun h => ?_)
  · refine lv_iload_n X.1 X.2.1 dX6_offer_83 rfl (lv_at hl 2 rfl) ?_
    exact mm_xi X I hr hlk dX6_offer_84 h
  · refine lv_iload X.1 X.2.1 dX6_offer_73 (lv_at hl 5 rfl) ?_
    refine lv_aload_n X.1 X.2.1 dX6_offer_75 rfl (lv_at hl 0 rfl) ?_
    refine mm_rgr X I fl_X6_30 dX6_offer_76 h (fun v2 h => ?_)
    refine mm_rlen X I dX6_offer_79 h (fun v3 h => ?_)
    refine mm_klt (tgt := 85) X dX6_offer_80 (by decide) h (fun h => ?_) (fun h => ?_)
    · refine lv_iload_n X.1 X.2.1 dX6_offer_85 rfl (lv_at hl 2 rfl) ?_
      refine lv_aload_n X.1 X.2.1 dX6_offer_86 rfl (lv_at hl 1 rfl) ?_
      refine mm_rgi X I fl_X6_53 dX6_offer_87 h (fun v4 h => ?_)
      refine lv_iconst (v := 1) X.1 X.2.1 dX6_offer_90 (by decide) ?_
      refine lv_isub X.1 X.2.1 dX6_offer_91 ?_
      refine mm_rmin X hl ml_X6_169 (by decide) (Nat.le_of_ble_eq_true rfl) (by decide) (by decide) dX6_offer_92 ?_
      refine lv_istore (lv' := [(6, .int (mm_min x2 (v4 - 1))), (0, .ref a0), (1, .ref a1), (2, .int x2), (3, .int x3), (4, .int x4), (5, .int x5)]) X.1 X.2.1 dX6_offer_95 hl (by decide) rfl (fun ls hl => ?_)
      refine lv_iload X.1 X.2.1 dX6_offer_97 (lv_at hl 0 rfl) ?_
      refine lv_istore (lv' := [(7, .int (mm_min x2 (v4 - 1))), (6, .int (mm_min x2 (v4 - 1))), (0, .ref a0), (1, .ref a1), (2, .int x2), (3, .int x3), (4, .int x4), (5, .int x5)]) X.1 X.2.1 dX6_offer_99 hl (by decide) rfl (fun ls hl => ?_)
      exact wpX6_offer_l101 X hr hlk n  n M _ _ _ _ _ _ _ _ _ I (lv_sub hl [2, 5, 6, 7, 1, 0] rfl) h
    · refine lv_iload_n X.1 X.2.1 dX6_offer_83 rfl (lv_at hl 2 rfl) ?_
      exact mm_xi X I hr hlk dX6_offer_84 h
set_option maxHeartbeats 4000000 in
set_option maxRecDepth 100000 in
theorem wpX6_offer_l3 {p : Program} {l : Launch} {e : Env} {s : State} {m : MethodId} {args : Array Value} {below : List Frame} {meth : Method} {c : Code} {D : va_G} {dA : Nat → ClassId} {lo : Nat} (X : mm_C D dA lo cX6_offer RX6 8 p s m args c) (hr : meth.sig.returnType = (some .int)) (hlk : meth.locks = false) (n : Nat) {o : Int32 × mm_M} (k : Nat) : ∀ (M : mm_M) (a0 : Nat) (a1 : Nat) (x2 : Int32) (x3 : Int32) (x4 : Int32) (x5 : Int32) (H : Heap) (locs : List Loc) (ls : Array Slot), mm_I D dA lo s M H locs → lv_has ls 8 [(0, .ref a0), (1, .ref a1), (2, .int x2), (3, .int x3), (4, .int x4), (5, .int x5)] → pX6_offer_l3 n k M a0 a1 x2 x3 x4 x5 = some o → W p l e (mm_rm 2 54 0 0) s m args below meth c H locs 0 0 (MQ below (mm_Q D dA lo (some (.int o.1)) o.2) args s 0 0 (mm_fr lo)) (F0 m 3 ls []) := by
  induction k with
  | zero =>
    intro M a0 a1 x2 x3 x4 x5 H locs ls I hl h
    have h : (none : Option (Int32 × mm_M)) = some o := h
    cases h
  | succ k ih =>
    intro M a0 a1 x2 x3 x4 x5 H locs ls I hl h
    have h : pX6_offer_l3b n (pX6_offer_l3 n k) M a0 a1 x2 x3 x4 x5 = some o := h
    unfold pX6_offer_l3b at h
    refine lv_iload X.1 X.2.1 dX6_offer_3 (lv_at hl 5 rfl) ?_
    refine mm_jle (tgt := 64) X dX6_offer_5 (by decide) h (fun h => ?_) (fun h => ?_)
    · exact wpX6_offer_b64 X hr hlk n  M _ _ _ _ _ _ _ _ _ I (lv_sub hl [0, 1, 2, 3, 4, 5] rfl) h
    · refine lv_aload_n X.1 X.2.1 dX6_offer_8 rfl (lv_at hl 0 rfl) ?_
      refine mm_rgr X I fl_X6_11 dX6_offer_9 h (fun v1 h => ?_)
      refine lv_iload_n X.1 X.2.1 dX6_offer_12 rfl (lv_at hl 3 rfl) ?_
      refine mm_rra X I dX6_offer_13 h (fun v2 h => ?_)
      refine lv_iload X.1 X.2.1 dX6_offer_14 (lv_at hl 4 rfl) ?_
      refine lv_aload_n X.1 X.2.1 dX6_offer_16 rfl (lv_at hl 0 rfl) ?_
      refine mm_rgr X I fl_X6_11 dX6_offer_17 h (fun v3 h => ?_)
      refine lv_aload_n X.1 X.2.1 dX6_offer_20 rfl (lv_at hl 0 rfl) ?_
      refine mm_rgr X I fl_X6_30 dX6_offer_21 h (fun v4 h => ?_)
      refine lv_iload X.1 X.2.1 dX6_offer_24 (lv_at hl 5 rfl) ?_
      refine lv_iconst (v := 1) X.1 X.2.1 dX6_offer_26 (by decide) ?_
      refine lv_isub X.1 X.2.1 dX6_offer_27 ?_
      refine mm_ria X I dX6_offer_28 h (fun v5 h => ?_)
      refine lv_bipush (v := 20) X.1 X.2.1 dX6_offer_29 (by decide) ?_
      refine mm_rdiv X dX6_offer_31 h (fun h => ?_)
      refine mm_rra X I dX6_offer_32 h (fun v6 h => ?_)
      refine lv_aload_n X.1 X.2.1 dX6_offer_33 rfl (lv_at hl 0 rfl) ?_
      refine mm_rgr X I fl_X6_30 dX6_offer_34 h (fun v7 h => ?_)
      refine lv_iload X.1 X.2.1 dX6_offer_37 (lv_at hl 5 rfl) ?_
      refine lv_iconst (v := 1) X.1 X.2.1 dX6_offer_39 (by decide) ?_
      refine lv_isub X.1 X.2.1 dX6_offer_40 ?_
      refine mm_ria X I dX6_offer_41 h (fun v8 h => ?_)
      refine lv_bipush (v := 20) X.1 X.2.1 dX6_offer_42 (by decide) ?_
      refine mm_rrem X dX6_offer_44 h (fun h => ?_)
      refine lv_aload_n X.1 X.2.1 dX6_offer_45 rfl (lv_at hl 1 rfl) ?_
      refine mm_rgr X I fl_X6_150 dX6_offer_46 h (fun v9 h => ?_)
      refine mm_rgi X I fl_X6_66 dX6_offer_49 h (fun v10 h => ?_)
      refine mm_cVi X I hl (As := [.int x4, .ref v6, .int (v8 - v8 / 20 * 20), .int v10]) (ci := 2) md_X2_compare mv_X2_compare ml_X6_165 rfl (kX2_compare (n := n)) (by decide) ⟨Nat.le_refl 0, Nat.le_refl 0⟩ rfl rfl (Nat.le_of_ble_eq_true rfl) dX6_offer_52 h (fun v11 M H locs I h => ?_)
      refine mm_jge (tgt := 64) X dX6_offer_55 (by decide) h (fun h => ?_) (fun h => ?_)
      · exact wpX6_offer_b64 X hr hlk n  M _ _ _ _ _ _ _ _ _ I (lv_sub hl [0, 1, 2, 3, 4, 5] rfl) h
      · refine lv_iinc (v := (x5 + (-1))) (lv' := [(5, .int (x5 + (-1))), (0, .ref a0), (1, .ref a1), (2, .int x2), (3, .int x3), (4, .int x4)]) X.1 X.2.1 dX6_offer_58 hl (k := 5) rfl rfl (by decide) rfl (fun ls hl => ?_)
        refine lv_goto (tgt := 3) X.1 X.2.1 dX6_offer_61 (by decide) ?_
        exact ih M _ _ _ _ _ _ _ _ _ I (lv_sub hl [1, 2, 3, 4, 5, 0] rfl) h
set_option maxHeartbeats 4000000 in
set_option maxRecDepth 100000 in
theorem kX6_offer {l : Launch} {D : va_G} {dA : Nat → ClassId} {lo : Nat} {n : Nat} {M : mm_M} {a0 : Nat} {a1 : Nat} {x2 : Int32} {x3 : Int32} {x4 : Int32} (o : Int32 × mm_M) (h : pX6_offer n M a0 a1 x2 x3 x4 = some o) : (∃ fs, M.2 a0 = some (mm_ob 6 fs)) ∧ mm_Met l D dA lo yX6_offer cX6_offer 8 (some .int) 2 54 0 0 [.ref a0, .ref a1, .int x2, .int x3, .int x4] M (some (.int o.1)) o.2 := by
  unfold pX6_offer at h
  obtain ⟨hob, h⟩ := mm_v_some h
  refine ⟨hob, mm_enter (by decide) (Nat.le_of_ble_eq_true rfl) (fun p e s m args below meth c ls X hr hlk hnm I hl => ?_)⟩
  have X : mm_C D dA lo cX6_offer RX6 8 p s m args c := X
  have hl : lv_has ls 8 [(0, .ref a0), (1, .ref a1), (2, .int x2), (3, .int x3), (4, .int x4)] := hl
  refine lv_iload_n X.1 X.2.1 dX6_offer_0 rfl (lv_at hl 2 rfl) ?_
  refine lv_istore (lv' := [(5, .int x2), (0, .ref a0), (1, .ref a1), (2, .int x2), (3, .int x3), (4, .int x4)]) X.1 X.2.1 dX6_offer_1 hl (by decide) rfl (fun ls hl => ?_)
  exact wpX6_offer_l3 X hr hlk n  n M _ _ _ _ _ _ _ _ _ I (lv_sub hl [1, 2, 3, 4, 5, 0] rfl) h
set_option maxHeartbeats 4000000 in
set_option maxRecDepth 100000 in
theorem wpX6_turn_l15 {p : Program} {l : Launch} {e : Env} {s : State} {m : MethodId} {args : Array Value} {below : List Frame} {meth : Method} {c : Code} {D : va_G} {dA : Nat → ClassId} {lo : Nat} (X : mm_C D dA lo cX6_turn RX6 5 p s m args c) (hr : meth.sig.returnType = (some .int)) (hlk : meth.locks = false) (n : Nat) {o : Int32 × mm_M} {K4 : mm_M → Nat → Nat → Int32 → Int32 → Option (Int32 × mm_M)} (k4 : ∀ (M : mm_M) (a0 : Nat) (a1 : Nat) (x2 : Int32) (x3 : Int32) (H : Heap) (locs : List Loc) (ls : Array Slot), mm_I D dA lo s M H locs → lv_has ls 5 [(0, .ref a0), (1, .ref a1), (2, .int x2), (3, .int x3)] → K4 M a0 a1 x2 x3 = some o → W p l e (mm_rm 3 83 0 0) s m args below meth c H locs 0 0 (MQ below (mm_Q D dA lo (some (.int o.1)) o.2) args s 0 0 (mm_fr lo)) (F0 m 4 ls [])) (k : Nat) : ∀ (M : mm_M) (a0 : Nat) (a1 : Nat) (x2 : Int32) (x3 : Int32) (x4 : Int32) (H : Heap) (locs : List Loc) (ls : Array Slot), mm_I D dA lo s M H locs → lv_has ls 5 [(0, .ref a0), (1, .ref a1), (2, .int x2), (3, .int x3), (4, .int x4)] → pX6_turn_l15 n K4 k M a0 a1 x2 x3 x4 = some o → W p l e (mm_rm 3 83 0 0) s m args below meth c H locs 0 0 (MQ below (mm_Q D dA lo (some (.int o.1)) o.2) args s 0 0 (mm_fr lo)) (F0 m 15 ls []) := by
  induction k with
  | zero =>
    intro M a0 a1 x2 x3 x4 H locs ls I hl h
    have h : (none : Option (Int32 × mm_M)) = some o := h
    cases h
  | succ k ih =>
    intro M a0 a1 x2 x3 x4 H locs ls I hl h
    have h : pX6_turn_l15b n K4 (pX6_turn_l15 n K4 k) M a0 a1 x2 x3 x4 = some o := h
    unfold pX6_turn_l15b at h
    refine lv_iload X.1 X.2.1 dX6_turn_15 (lv_at hl 4 rfl) ?_
    refine lv_aload_n X.1 X.2.1 dX6_turn_17 rfl (lv_at hl 0 rfl) ?_
    refine mm_rgr X I fl_X6_11 dX6_turn_18 h (fun v1 h => ?_)
    refine lv_iload_n X.1 X.2.1 dX6_turn_21 rfl (lv_at hl 3 rfl) ?_
    refine mm_rra X I dX6_turn_22 h (fun v2 h => ?_)
    refine mm_rgr X I fl_X6_62 dX6_turn_23 h (fun v3 h => ?_)
    refine mm_rgi X I fl_X6_66 dX6_turn_26 h (fun v4 h => ?_)
    refine mm_kge (tgt := 63) X dX6_turn_29 (by decide) h (fun h => ?_) (fun h => ?_)
    · refine lv_iinc (v := (x3 + 1)) (lv' := [(3, .int (x3 + 1)), (0, .ref a0), (1, .ref a1), (2, .int x2), (4, .int x4)]) X.1 X.2.1 dX6_turn_63 hl (k := 3) rfl rfl (by decide) rfl (fun ls hl => ?_)
      refine lv_goto (tgt := 4) X.1 X.2.1 dX6_turn_66 (by decide) ?_
      exact k4 M _ _ _ _ _ _ _ I (lv_sub hl [1, 2, 3, 0] rfl) h
    · refine lv_aload_n X.1 X.2.1 dX6_turn_32 rfl (lv_at hl 1 rfl) ?_
      refine lv_aload_n X.1 X.2.1 dX6_turn_33 rfl (lv_at hl 0 rfl) ?_
      refine mm_rgr X I fl_X6_11 dX6_turn_34 h (fun v5 h => ?_)
      refine lv_iload_n X.1 X.2.1 dX6_turn_37 rfl (lv_at hl 3 rfl) ?_
      refine mm_rra X I dX6_turn_38 h (fun v6 h => ?_)
      refine lv_iload X.1 X.2.1 dX6_turn_39 (lv_at hl 4 rfl) ?_
      refine mm_cVi X I hl (As := [.ref v6, .int x4]) (ci := 0) md_X0_isAhead mv_X0_isAhead ml_X6_73 rfl (kX0_isAhead (n := n)) (by decide) ⟨Nat.le_refl 0, Nat.le_refl 0⟩ rfl rfl (Nat.le_of_ble_eq_true rfl) dX6_turn_41 h (fun v7 M H locs I h => ?_)
      refine mm_jeq (tgt := 57) X dX6_turn_44 (by decide) h (fun h => ?_) (fun h => ?_)
      · refine lv_iinc (v := (x4 + 1)) (lv' := [(4, .int (x4 + 1)), (0, .ref a0), (1, .ref a1), (2, .int x2), (3, .int x3)]) X.1 X.2.1 dX6_turn_57 hl (k := 4) rfl rfl (by decide) rfl (fun ls hl => ?_)
        refine lv_goto (tgt := 15) X.1 X.2.1 dX6_turn_60 (by decide) ?_
        exact ih M _ _ _ _ _ _ _ _ I (lv_sub hl [1, 2, 3, 4, 0] rfl) h
      · refine lv_aload_n X.1 X.2.1 dX6_turn_47 rfl (lv_at hl 0 rfl) ?_
        refine lv_aload_n X.1 X.2.1 dX6_turn_48 rfl (lv_at hl 1 rfl) ?_
        refine lv_iload_n X.1 X.2.1 dX6_turn_49 rfl (lv_at hl 2 rfl) ?_
        refine lv_iload_n X.1 X.2.1 dX6_turn_50 rfl (lv_at hl 3 rfl) ?_
        refine lv_iload X.1 X.2.1 dX6_turn_51 (lv_at hl 4 rfl) ?_
        refine mm_cVi X I hl (As := [.ref a1, .int x2, .int x3, .int x4]) (ci := 6) md_X6_offer mv_X6_offer ml_X6_154 rfl (kX6_offer (n := n)) (by decide) ⟨Nat.le_refl 0, Nat.le_refl 0⟩ rfl rfl (Nat.le_of_ble_eq_true rfl) dX6_turn_53 h (fun v8 M H locs I h => ?_)
        refine lv_istore_n (lv' := [(2, .int v8), (0, .ref a0), (1, .ref a1), (3, .int x3), (4, .int x4)]) X.1 X.2.1 dX6_turn_56 rfl hl (by decide) rfl (fun ls hl => ?_)
        refine lv_iinc (v := (x4 + 1)) (lv' := [(4, .int (x4 + 1)), (2, .int v8), (0, .ref a0), (1, .ref a1), (3, .int x3)]) X.1 X.2.1 dX6_turn_57 hl (k := 4) rfl rfl (by decide) rfl (fun ls hl => ?_)
        refine lv_goto (tgt := 15) X.1 X.2.1 dX6_turn_60 (by decide) ?_
        exact ih M _ _ _ _ _ _ _ _ I (lv_sub hl [2, 3, 1, 4, 0] rfl) h
set_option maxHeartbeats 4000000 in
set_option maxRecDepth 100000 in
theorem wpX6_turn_l76 {p : Program} {l : Launch} {e : Env} {s : State} {m : MethodId} {args : Array Value} {below : List Frame} {meth : Method} {c : Code} {D : va_G} {dA : Nat → ClassId} {lo : Nat} (X : mm_C D dA lo cX6_turn RX6 5 p s m args c) (hr : meth.sig.returnType = (some .int)) (hlk : meth.locks = false) (n : Nat) {o : Int32 × mm_M} (k : Nat) : ∀ (M : mm_M) (a0 : Nat) (a1 : Nat) (x2 : Int32) (x3 : Int32) (H : Heap) (locs : List Loc) (ls : Array Slot), mm_I D dA lo s M H locs → lv_has ls 5 [(0, .ref a0), (1, .ref a1), (2, .int x2), (3, .int x3)] → pX6_turn_l76 n k M a0 a1 x2 x3 = some o → W p l e (mm_rm 3 83 0 0) s m args below meth c H locs 0 0 (MQ below (mm_Q D dA lo (some (.int o.1)) o.2) args s 0 0 (mm_fr lo)) (F0 m 76 ls []) := by
  induction k with
  | zero =>
    intro M a0 a1 x2 x3 H locs ls I hl h
    have h : (none : Option (Int32 × mm_M)) = some o := h
    cases h
  | succ k ih =>
    intro M a0 a1 x2 x3 H locs ls I hl h
    have h : pX6_turn_l76b n (pX6_turn_l76 n k) M a0 a1 x2 x3 = some o := h
    unfold pX6_turn_l76b at h
    refine lv_iload_n X.1 X.2.1 dX6_turn_76 rfl (lv_at hl 3 rfl) ?_
    refine lv_iload_n X.1 X.2.1 dX6_turn_77 rfl (lv_at hl 2 rfl) ?_
    refine mm_kge (tgt := 114) X dX6_turn_78 (by decide) h (fun h => ?_) (fun h => ?_)
    · refine lv_iload_n X.1 X.2.1 dX6_turn_114 rfl (lv_at hl 2 rfl) ?_
      exact mm_xi X I hr hlk dX6_turn_115 h
    · refine lv_aload_n X.1 X.2.1 dX6_turn_81 rfl (lv_at hl 1 rfl) ?_
      refine lv_aload_n X.1 X.2.1 dX6_turn_82 rfl (lv_at hl 0 rfl) ?_
      refine mm_rgr X I fl_X6_11 dX6_turn_83 h (fun v1 h => ?_)
      refine lv_aload_n X.1 X.2.1 dX6_turn_86 rfl (lv_at hl 0 rfl) ?_
      refine mm_rgr X I fl_X6_30 dX6_turn_87 h (fun v2 h => ?_)
      refine lv_iload_n X.1 X.2.1 dX6_turn_90 rfl (lv_at hl 3 rfl) ?_
      refine mm_ria X I dX6_turn_91 h (fun v3 h => ?_)
      refine lv_bipush (v := 20) X.1 X.2.1 dX6_turn_92 (by decide) ?_
      refine mm_rdiv X dX6_turn_94 h (fun h => ?_)
      refine mm_rra X I dX6_turn_95 h (fun v4 h => ?_)
      refine lv_aload_n X.1 X.2.1 dX6_turn_96 rfl (lv_at hl 0 rfl) ?_
      refine mm_rgr X I fl_X6_30 dX6_turn_97 h (fun v5 h => ?_)
      refine lv_iload_n X.1 X.2.1 dX6_turn_100 rfl (lv_at hl 3 rfl) ?_
      refine mm_ria X I dX6_turn_101 h (fun v6 h => ?_)
      refine lv_bipush (v := 20) X.1 X.2.1 dX6_turn_102 (by decide) ?_
      refine mm_rrem X dX6_turn_104 h (fun h => ?_)
      refine mm_cVv X I hl (As := [.ref v4, .int (v6 - v6 / 20 * 20)]) (ci := 0) md_X0_tell mv_X0_tell ml_X6_161 rfl (kX0_tell (n := n)) (by decide) ⟨Nat.le_refl 0, Nat.le_refl 0⟩ rfl rfl (Nat.le_of_ble_eq_true rfl) dX6_turn_105 h (fun M H locs I h => ?_)
      refine lv_iinc (v := (x3 + 1)) (lv' := [(3, .int (x3 + 1)), (0, .ref a0), (1, .ref a1), (2, .int x2)]) X.1 X.2.1 dX6_turn_108 hl (k := 3) rfl rfl (by decide) rfl (fun ls hl => ?_)
      refine lv_goto (tgt := 76) X.1 X.2.1 dX6_turn_111 (by decide) ?_
      exact ih M _ _ _ _ _ _ _ I (lv_sub hl [1, 2, 3, 0] rfl) h
set_option maxHeartbeats 4000000 in
set_option maxRecDepth 100000 in
theorem wpX6_turn_l4 {p : Program} {l : Launch} {e : Env} {s : State} {m : MethodId} {args : Array Value} {below : List Frame} {meth : Method} {c : Code} {D : va_G} {dA : Nat → ClassId} {lo : Nat} (X : mm_C D dA lo cX6_turn RX6 5 p s m args c) (hr : meth.sig.returnType = (some .int)) (hlk : meth.locks = false) (n : Nat) {o : Int32 × mm_M} (k : Nat) : ∀ (M : mm_M) (a0 : Nat) (a1 : Nat) (x2 : Int32) (x3 : Int32) (H : Heap) (locs : List Loc) (ls : Array Slot), mm_I D dA lo s M H locs → lv_has ls 5 [(0, .ref a0), (1, .ref a1), (2, .int x2), (3, .int x3)] → pX6_turn_l4 n k M a0 a1 x2 x3 = some o → W p l e (mm_rm 3 83 0 0) s m args below meth c H locs 0 0 (MQ below (mm_Q D dA lo (some (.int o.1)) o.2) args s 0 0 (mm_fr lo)) (F0 m 4 ls []) := by
  induction k with
  | zero =>
    intro M a0 a1 x2 x3 H locs ls I hl h
    have h : (none : Option (Int32 × mm_M)) = some o := h
    cases h
  | succ k ih =>
    intro M a0 a1 x2 x3 H locs ls I hl h
    have h : pX6_turn_l4b n (pX6_turn_l4 n k) M a0 a1 x2 x3 = some o := h
    unfold pX6_turn_l4b at h
    refine lv_iload_n X.1 X.2.1 dX6_turn_4 rfl (lv_at hl 3 rfl) ?_
    refine lv_aload_n X.1 X.2.1 dX6_turn_5 rfl (lv_at hl 0 rfl) ?_
    refine mm_rgi X I fl_X6_36 dX6_turn_6 h (fun v1 h => ?_)
    refine mm_kge (tgt := 69) X dX6_turn_9 (by decide) h (fun h => ?_) (fun h => ?_)
    · refine lv_aload_n X.1 X.2.1 dX6_turn_69 rfl (lv_at hl 1 rfl) ?_
      refine lv_iconst (v := 0) X.1 X.2.1 dX6_turn_70 (by decide) ?_
      refine mm_rpi X I fl_X6_158 dX6_turn_71 h (fun M H locs I h => ?_)
      refine lv_iconst (v := 0) X.1 X.2.1 dX6_turn_74 (by decide) ?_
      refine lv_istore_n (lv' := [(3, .int 0), (0, .ref a0), (1, .ref a1), (2, .int x2)]) X.1 X.2.1 dX6_turn_75 rfl hl (by decide) rfl (fun ls hl => ?_)
      exact wpX6_turn_l76 X hr hlk n  n M _ _ _ _ _ _ _ I (lv_sub hl [1, 2, 3, 0] rfl) h
    · refine lv_iconst (v := 0) X.1 X.2.1 dX6_turn_12 (by decide) ?_
      refine lv_istore (lv' := [(4, .int 0), (0, .ref a0), (1, .ref a1), (2, .int x2), (3, .int x3)]) X.1 X.2.1 dX6_turn_13 hl (by decide) rfl (fun ls hl => ?_)
      exact wpX6_turn_l15 X hr hlk n ih n M _ _ _ _ _ _ _ _ I (lv_sub hl [1, 2, 3, 4, 0] rfl) h
set_option maxHeartbeats 4000000 in
set_option maxRecDepth 100000 in
theorem kX6_turn {l : Launch} {D : va_G} {dA : Nat → ClassId} {lo : Nat} {n : Nat} {M : mm_M} {a0 : Nat} {a1 : Nat} (o : Int32 × mm_M) (h : pX6_turn n M a0 a1 = some o) : (∃ fs, M.2 a0 = some (mm_ob 6 fs)) ∧ mm_Met l D dA lo yX6_turn cX6_turn 5 (some .int) 3 83 0 0 [.ref a0, .ref a1] M (some (.int o.1)) o.2 := by
  unfold pX6_turn at h
  obtain ⟨hob, h⟩ := mm_v_some h
  refine ⟨hob, mm_enter (by decide) (Nat.le_of_ble_eq_true rfl) (fun p e s m args below meth c ls X hr hlk hnm I hl => ?_)⟩
  have X : mm_C D dA lo cX6_turn RX6 5 p s m args c := X
  have hl : lv_has ls 5 [(0, .ref a0), (1, .ref a1)] := hl
  refine lv_iconst (v := 0) X.1 X.2.1 dX6_turn_0 (by decide) ?_
  refine lv_istore_n (lv' := [(2, .int 0), (0, .ref a0), (1, .ref a1)]) X.1 X.2.1 dX6_turn_1 rfl hl (by decide) rfl (fun ls hl => ?_)
  refine lv_iconst (v := 0) X.1 X.2.1 dX6_turn_2 (by decide) ?_
  refine lv_istore_n (lv' := [(3, .int 0), (2, .int 0), (0, .ref a0), (1, .ref a1)]) X.1 X.2.1 dX6_turn_3 rfl hl (by decide) rfl (fun ls hl => ?_)
  exact wpX6_turn_l4 X hr hlk n  n M _ _ _ _ _ _ _ I (lv_sub hl [2, 3, 1, 0] rfl) h
set_option maxHeartbeats 4000000 in
set_option maxRecDepth 100000 in
theorem wpX6_cut_l31 {p : Program} {l : Launch} {e : Env} {s : State} {m : MethodId} {args : Array Value} {below : List Frame} {meth : Method} {c : Code} {D : va_G} {dA : Nat → ClassId} {lo : Nat} (X : mm_C D dA lo cX6_cut RX6 6 p s m args c) (hr : meth.sig.returnType = (some .int)) (hlk : meth.locks = false) (n : Nat) {o : Int32 × mm_M} (k : Nat) : ∀ (M : mm_M) (x2 : Int32) (a3 : Nat) (a4 : Nat) (x5 : Int32) (H : Heap) (locs : List Loc) (ls : Array Slot), mm_I D dA lo s M H locs → lv_has ls 6 [(2, .int x2), (3, .ref a3), (4, .ref a4), (5, .int x5)] → pX6_cut_l31 n k M x2 a3 a4 x5 = some o → W p l e (mm_rm 1 23 0 0) s m args below meth c H locs 0 0 (MQ below (mm_Q D dA lo (some (.int o.1)) o.2) args s 0 0 (mm_fr lo)) (F0 m 31 ls []) := by
  induction k with
  | zero =>
    intro M x2 a3 a4 x5 H locs ls I hl h
    have h : (none : Option (Int32 × mm_M)) = some o := h
    cases h
  | succ k ih =>
    intro M x2 a3 a4 x5 H locs ls I hl h
    have h : pX6_cut_l31b n (pX6_cut_l31 n k) M x2 a3 a4 x5 = some o := h
    unfold pX6_cut_l31b at h
    refine lv_iload X.1 X.2.1 dX6_cut_31 (lv_at hl 3 rfl) ?_
    refine lv_aload_n X.1 X.2.1 dX6_cut_33 rfl (lv_at hl 1 rfl) ?_
    refine mm_rgi X I fl_X6_66 dX6_cut_34 h (fun v1 h => ?_)
    refine mm_kge (tgt := 60) X dX6_cut_37 (by decide) h (fun h => ?_) (fun h => ?_)
    · refine lv_aload_n X.1 X.2.1 dX6_cut_60 rfl (lv_at hl 1 rfl) ?_
      refine lv_iload_n X.1 X.2.1 dX6_cut_61 rfl (lv_at hl 0 rfl) ?_
      refine mm_rpi X I fl_X6_66 dX6_cut_62 h (fun M H locs I h => ?_)
      refine lv_aload X.1 X.2.1 dX6_cut_65 (lv_at hl 2 rfl) ?_
      refine mm_rgi X I fl_X6_116 dX6_cut_67 h (fun v2 h => ?_)
      exact mm_xi X I hr hlk dX6_cut_70 h
    · refine lv_aload X.1 X.2.1 dX6_cut_40 (lv_at hl 2 rfl) ?_
      refine mm_rgr X I fl_X6_62 dX6_cut_42 h (fun v3 h => ?_)
      refine lv_aload_n X.1 X.2.1 dX6_cut_45 rfl (lv_at hl 1 rfl) ?_
      refine lv_iload X.1 X.2.1 dX6_cut_46 (lv_at hl 3 rfl) ?_
      refine mm_cVi X I hl (As := [.int x5]) (ci := 5) md_X5_at mv_X5_at ml_X6_174 rfl (kX5_at (n := n)) (by decide) ⟨Nat.le_refl 0, Nat.le_refl 0⟩ rfl rfl (Nat.le_of_ble_eq_true rfl) dX6_cut_48 h (fun v4 M H locs I h => ?_)
      refine mm_cVv X I hl (As := [.int v4]) (ci := 5) md_X5_add mv_X5_add ml_X6_177 rfl (kX5_add (n := n)) (by decide) ⟨Nat.le_refl 0, Nat.le_refl 0⟩ rfl rfl (Nat.le_of_ble_eq_true rfl) dX6_cut_51 h (fun M H locs I h => ?_)
      refine lv_iinc (v := (x5 + 1)) (lv' := [(5, .int (x5 + 1)), (2, .int x2), (3, .ref a3), (4, .ref a4)]) X.1 X.2.1 dX6_cut_54 hl (k := 3) rfl rfl (by decide) rfl (fun ls hl => ?_)
      refine lv_goto (tgt := 31) X.1 X.2.1 dX6_cut_57 (by decide) ?_
      exact ih M _ _ _ _ _ _ _ I (lv_sub hl [1, 2, 3, 0] rfl) h
set_option maxHeartbeats 4000000 in
set_option maxRecDepth 100000 in
theorem kX6_cut {l : Launch} {D : va_G} {dA : Nat → ClassId} {lo : Nat} {n : Nat} {M : mm_M} {a0 : Nat} {x1 : Int32} {x2 : Int32} (o : Int32 × mm_M) (h : pX6_cut n M a0 x1 x2 = some o) : (∃ fs, M.2 a0 = some (mm_ob 6 fs)) ∧ mm_Met l D dA lo yX6_cut cX6_cut 6 (some .int) 1 23 0 0 [.ref a0, .int x1, .int x2] M (some (.int o.1)) o.2 := by
  unfold pX6_cut at h
  obtain ⟨hob, h⟩ := mm_v_some h
  refine ⟨hob, mm_enter (by decide) (Nat.le_of_ble_eq_true rfl) (fun p e s m args below meth c ls X hr hlk hnm I hl => ?_)⟩
  have X : mm_C D dA lo cX6_cut RX6 6 p s m args c := X
  have hl : lv_has ls 6 [(0, .ref a0), (1, .int x1), (2, .int x2)] := hl
  refine lv_aload_n X.1 X.2.1 dX6_cut_0 rfl (lv_at hl 0 rfl) ?_
  refine mm_rgr X I fl_X6_11 dX6_cut_1 h (fun v1 h => ?_)
  refine lv_iload_n X.1 X.2.1 dX6_cut_4 rfl (lv_at hl 1 rfl) ?_
  refine mm_rra X I dX6_cut_5 h (fun v2 h => ?_)
  refine mm_rgr X I fl_X6_62 dX6_cut_6 h (fun v3 h => ?_)
  refine lv_astore_n (lv' := [(3, .ref v3), (0, .ref a0), (1, .int x1), (2, .int x2)]) X.1 X.2.1 dX6_cut_9 rfl hl (by decide) rfl (fun ls hl => ?_)
  refine lv_aload_n X.1 X.2.1 dX6_cut_10 rfl (lv_at hl 1 rfl) ?_
  refine lv_iload_n X.1 X.2.1 dX6_cut_11 rfl (lv_at hl 2 rfl) ?_
  refine lv_iconst (v := 1) X.1 X.2.1 dX6_cut_12 (by decide) ?_
  refine lv_iadd X.1 X.2.1 dX6_cut_13 ?_
  refine mm_cVr X I hl (As := [.int (x1 + 1)]) (ci := 6) md_X6_open mv_X6_open ml_X6_122 rfl (kX6_open (n := n)) (by decide) ⟨Nat.le_refl 0, Nat.le_refl 0⟩ rfl rfl (Nat.le_of_ble_eq_true rfl) dX6_cut_14 h (fun v4 M H locs I h => ?_)
  refine lv_astore (lv' := [(4, .ref v4), (3, .ref v3), (0, .ref a0), (1, .int x1), (2, .int x2)]) X.1 X.2.1 dX6_cut_17 hl (by decide) rfl (fun ls hl => ?_)
  refine lv_aload X.1 X.2.1 dX6_cut_19 (lv_at hl 0 rfl) ?_
  refine mm_rgr X I fl_X6_62 dX6_cut_21 h (fun v5 h => ?_)
  refine lv_iconst (v := 0) X.1 X.2.1 dX6_cut_24 (by decide) ?_
  refine mm_rpi X I fl_X6_66 dX6_cut_25 h (fun M H locs I h => ?_)
  refine lv_iload_n X.1 X.2.1 dX6_cut_28 rfl (lv_at hl 4 rfl) ?_
  refine lv_istore (lv' := [(5, .int x2), (4, .ref v4), (3, .ref v3), (0, .ref a0), (1, .int x1), (2, .int x2)]) X.1 X.2.1 dX6_cut_29 hl (by decide) rfl (fun ls hl => ?_)
  exact wpX6_cut_l31 X hr hlk n  n M _ _ _ _ _ _ _ I (lv_sub hl [5, 2, 1, 0] rfl) h
set_option maxHeartbeats 4000000 in
set_option maxRecDepth 100000 in
theorem wpX6_unite_b50 {p : Program} {l : Launch} {e : Env} {s : State} {m : MethodId} {args : Array Value} {below : List Frame} {meth : Method} {c : Code} {D : va_G} {dA : Nat → ClassId} {lo : Nat} (X : mm_C D dA lo cX6_unite RX6 5 p s m args c) (hr : meth.sig.returnType = (some .int)) (hlk : meth.locks = false) (n : Nat) {o : Int32 × mm_M}  : ∀ (M : mm_M) (a0 : Nat) (x1 : Int32) (a2 : Nat) (H : Heap) (locs : List Loc) (ls : Array Slot), mm_I D dA lo s M H locs → lv_has ls 5 [(0, .ref a0), (1, .int x1), (2, .ref a2)] → pX6_unite_b50 n M a0 x1 a2 = some o → W p l e (mm_rm 1 23 0 0) s m args below meth c H locs 0 0 (MQ below (mm_Q D dA lo (some (.int o.1)) o.2) args s 0 0 (mm_fr lo)) (F0 m 50 ls []) := by
  intro M a0 x1 a2 H locs ls I hl h
  unfold pX6_unite_b50 at h
  refine lv_aload_n X.1 X.2.1 dX6_unite_50 rfl (lv_at hl 0 rfl) ?_
  refine lv_iload_n X.1 X.2.1 dX6_unite_51 rfl (lv_at hl 1 rfl) ?_
  refine lv_iconst (v := 1) X.1 X.2.1 dX6_unite_52 (by decide) ?_
  refine lv_iadd X.1 X.2.1 dX6_unite_53 ?_
  refine mm_cVv X I hl (As := [.int (x1 + 1)]) (ci := 6) md_X6_close mv_X6_close ml_X6_126 rfl (kX6_close (n := n)) (by decide) ⟨Nat.le_refl 0, Nat.le_refl 0⟩ rfl rfl (Nat.le_of_ble_eq_true rfl) dX6_unite_54 h (fun M H locs I h => ?_)
  refine lv_aload_n X.1 X.2.1 dX6_unite_57 rfl (lv_at hl 2 rfl) ?_
  refine mm_rgi X I fl_X6_66 dX6_unite_58 h (fun v2 h => ?_)
  exact mm_xi X I hr hlk dX6_unite_61 h
set_option maxHeartbeats 4000000 in
set_option maxRecDepth 100000 in
theorem wpX6_unite_l25 {p : Program} {l : Launch} {e : Env} {s : State} {m : MethodId} {args : Array Value} {below : List Frame} {meth : Method} {c : Code} {D : va_G} {dA : Nat → ClassId} {lo : Nat} (X : mm_C D dA lo cX6_unite RX6 5 p s m args c) (hr : meth.sig.returnType = (some .int)) (hlk : meth.locks = false) (n : Nat) {o : Int32 × mm_M} (k : Nat) : ∀ (M : mm_M) (a0 : Nat) (x1 : Int32) (a2 : Nat) (a3 : Nat) (x4 : Int32) (H : Heap) (locs : List Loc) (ls : Array Slot), mm_I D dA lo s M H locs → lv_has ls 5 [(0, .ref a0), (1, .int x1), (2, .ref a2), (3, .ref a3), (4, .int x4)] → pX6_unite_l25 n k M a0 x1 a2 a3 x4 = some o → W p l e (mm_rm 1 23 0 0) s m args below meth c H locs 0 0 (MQ below (mm_Q D dA lo (some (.int o.1)) o.2) args s 0 0 (mm_fr lo)) (F0 m 25 ls []) := by
  induction k with
  | zero =>
    intro M a0 x1 a2 a3 x4 H locs ls I hl h
    have h : (none : Option (Int32 × mm_M)) = some o := h
    cases h
  | succ k ih =>
    intro M a0 x1 a2 a3 x4 H locs ls I hl h
    have h : pX6_unite_l25b n (pX6_unite_l25 n k) M a0 x1 a2 a3 x4 = some o := h
    unfold pX6_unite_l25b at h
    refine lv_iload X.1 X.2.1 dX6_unite_25 (lv_at hl 4 rfl) ?_
    refine lv_aload_n X.1 X.2.1 dX6_unite_27 rfl (lv_at hl 3 rfl) ?_
    refine mm_rgi X I fl_X6_66 dX6_unite_28 h (fun v1 h => ?_)
    refine mm_kge (tgt := 50) X dX6_unite_31 (by decide) h (fun h => ?_) (fun h => ?_)
    · exact wpX6_unite_b50 X hr hlk n  M _ _ _ _ _ _ I (lv_sub hl [0, 1, 2] rfl) h
    · refine lv_aload_n X.1 X.2.1 dX6_unite_34 rfl (lv_at hl 2 rfl) ?_
      refine lv_aload_n X.1 X.2.1 dX6_unite_35 rfl (lv_at hl 3 rfl) ?_
      refine lv_iload X.1 X.2.1 dX6_unite_36 (lv_at hl 4 rfl) ?_
      refine mm_cVi X I hl (As := [.int x4]) (ci := 5) md_X5_at mv_X5_at ml_X6_174 rfl (kX5_at (n := n)) (by decide) ⟨Nat.le_refl 0, Nat.le_refl 0⟩ rfl rfl (Nat.le_of_ble_eq_true rfl) dX6_unite_38 h (fun v2 M H locs I h => ?_)
      refine mm_cVv X I hl (As := [.int v2]) (ci := 5) md_X5_add mv_X5_add ml_X6_177 rfl (kX5_add (n := n)) (by decide) ⟨Nat.le_refl 0, Nat.le_refl 0⟩ rfl rfl (Nat.le_of_ble_eq_true rfl) dX6_unite_41 h (fun M H locs I h => ?_)
      refine lv_iinc (v := (x4 + 1)) (lv' := [(4, .int (x4 + 1)), (0, .ref a0), (1, .int x1), (2, .ref a2), (3, .ref a3)]) X.1 X.2.1 dX6_unite_44 hl (k := 4) rfl rfl (by decide) rfl (fun ls hl => ?_)
      refine lv_goto (tgt := 25) X.1 X.2.1 dX6_unite_47 (by decide) ?_
      exact ih M _ _ _ _ _ _ _ _ I (lv_sub hl [1, 2, 3, 4, 0] rfl) h
set_option maxHeartbeats 4000000 in
set_option maxRecDepth 100000 in
theorem kX6_unite {l : Launch} {D : va_G} {dA : Nat → ClassId} {lo : Nat} {n : Nat} {M : mm_M} {a0 : Nat} {x1 : Int32} (o : Int32 × mm_M) (h : pX6_unite n M a0 x1 = some o) : (∃ fs, M.2 a0 = some (mm_ob 6 fs)) ∧ mm_Met l D dA lo yX6_unite cX6_unite 5 (some .int) 1 23 0 0 [.ref a0, .int x1] M (some (.int o.1)) o.2 := by
  unfold pX6_unite at h
  obtain ⟨hob, h⟩ := mm_v_some h
  refine ⟨hob, mm_enter (by decide) (Nat.le_of_ble_eq_true rfl) (fun p e s m args below meth c ls X hr hlk hnm I hl => ?_)⟩
  have X : mm_C D dA lo cX6_unite RX6 5 p s m args c := X
  have hl : lv_has ls 5 [(0, .ref a0), (1, .int x1)] := hl
  refine lv_aload_n X.1 X.2.1 dX6_unite_0 rfl (lv_at hl 0 rfl) ?_
  refine mm_rgr X I fl_X6_11 dX6_unite_1 h (fun v1 h => ?_)
  refine lv_iload_n X.1 X.2.1 dX6_unite_4 rfl (lv_at hl 1 rfl) ?_
  refine mm_rra X I dX6_unite_5 h (fun v2 h => ?_)
  refine mm_rgr X I fl_X6_62 dX6_unite_6 h (fun v3 h => ?_)
  refine lv_astore_n (lv' := [(2, .ref v3), (0, .ref a0), (1, .int x1)]) X.1 X.2.1 dX6_unite_9 rfl hl (by decide) rfl (fun ls hl => ?_)
  refine lv_aload_n X.1 X.2.1 dX6_unite_10 rfl (lv_at hl 1 rfl) ?_
  refine mm_rgr X I fl_X6_11 dX6_unite_11 h (fun v4 h => ?_)
  refine lv_iload_n X.1 X.2.1 dX6_unite_14 rfl (lv_at hl 2 rfl) ?_
  refine lv_iconst (v := 1) X.1 X.2.1 dX6_unite_15 (by decide) ?_
  refine lv_iadd X.1 X.2.1 dX6_unite_16 ?_
  refine mm_rra X I dX6_unite_17 h (fun v5 h => ?_)
  refine mm_rgr X I fl_X6_62 dX6_unite_18 h (fun v6 h => ?_)
  refine lv_astore_n (lv' := [(3, .ref v6), (2, .ref v3), (0, .ref a0), (1, .int x1)]) X.1 X.2.1 dX6_unite_21 rfl hl (by decide) rfl (fun ls hl => ?_)
  refine lv_iconst (v := 0) X.1 X.2.1 dX6_unite_22 (by decide) ?_
  refine lv_istore (lv' := [(4, .int 0), (3, .ref v6), (2, .ref v3), (0, .ref a0), (1, .int x1)]) X.1 X.2.1 dX6_unite_23 hl (by decide) rfl (fun ls hl => ?_)
  exact wpX6_unite_l25 X hr hlk n  n M _ _ _ _ _ _ _ _ I (lv_sub hl [3, 4, 2, 1, 0] rfl) h
set_option maxHeartbeats 4000000 in
set_option maxRecDepth 100000 in
theorem kX6_carryOut {l : Launch} {D : va_G} {dA : Nat → ClassId} {lo : Nat} {n : Nat} {M : mm_M} {a0 : Nat} {a1 : Nat} (o : Int32 × mm_M) (h : pX6_carryOut n M a0 a1 = some o) : (∃ fs, M.2 a0 = some (mm_ob 6 fs)) ∧ mm_Met l D dA lo yX6_carryOut cX6_carryOut 3 (some .int) 4 107 0 0 [.ref a0, .ref a1] M (some (.int o.1)) o.2 := by
  unfold pX6_carryOut at h
  obtain ⟨hob, h⟩ := mm_v_some h
  refine ⟨hob, mm_enter (by decide) (Nat.le_of_ble_eq_true rfl) (fun p e s m args below meth c ls X hr hlk hnm I hl => ?_)⟩
  have X : mm_C D dA lo cX6_carryOut RX6 3 p s m args c := X
  have hl : lv_has ls 3 [(0, .ref a0), (1, .ref a1)] := hl
  refine lv_aload_n X.1 X.2.1 dX6_carryOut_0 rfl (lv_at hl 1 rfl) ?_
  refine mm_rgi X I fl_X6_77 dX6_carryOut_1 h (fun v1 h => ?_)
  refine lv_istore_n (lv' := [(2, .int v1), (0, .ref a0), (1, .ref a1)]) X.1 X.2.1 dX6_carryOut_4 rfl hl (by decide) rfl (fun ls hl => ?_)
  refine lv_aload_n X.1 X.2.1 dX6_carryOut_5 rfl (lv_at hl 2 rfl) ?_
  refine mm_rgi X I fl_X6_82 dX6_carryOut_6 h (fun v2 h => ?_)
  by_cases z3_0 : v2 = 0
  · have h := mm_t z3_0 h
    refine lv_tableIn (tgt := 56) (off := 47) X.1 X.2.1 dX6_carryOut_9 (by rw [z3_0]; decide) (by rw [z3_0]; decide) (by rw [z3_0]; rfl) (by decide) ?_
    refine lv_aload_n X.1 X.2.1 dX6_carryOut_56 rfl (lv_at hl 1 rfl) ?_
    refine mm_rgr X I fl_X6_11 dX6_carryOut_57 h (fun v4 h => ?_)
    refine lv_iload_n X.1 X.2.1 dX6_carryOut_60 rfl (lv_at hl 0 rfl) ?_
    refine mm_rra X I dX6_carryOut_61 h (fun v5 h => ?_)
    refine mm_rgr X I fl_X6_62 dX6_carryOut_62 h (fun v6 h => ?_)
    refine lv_aload_n X.1 X.2.1 dX6_carryOut_65 rfl (lv_at hl 2 rfl) ?_
    refine mm_rgr X I fl_X6_89 dX6_carryOut_66 h (fun v7 h => ?_)
    refine mm_cVv X I hl (As := [.ref v7]) (ci := 5) md_X5_copyFrom mv_X5_copyFrom ml_X6_119 rfl (kX5_copyFrom (n := n)) (by decide) ⟨Nat.le_refl 0, Nat.le_refl 0⟩ rfl rfl (Nat.le_of_ble_eq_true rfl) dX6_carryOut_69 h (fun M H locs I h => ?_)
    refine lv_aload_n X.1 X.2.1 dX6_carryOut_72 rfl (lv_at hl 1 rfl) ?_
    refine mm_rgr X I fl_X6_11 dX6_carryOut_73 h (fun v9 h => ?_)
    refine lv_iload_n X.1 X.2.1 dX6_carryOut_76 rfl (lv_at hl 0 rfl) ?_
    refine mm_rra X I dX6_carryOut_77 h (fun v10 h => ?_)
    refine mm_rgi X I fl_X6_116 dX6_carryOut_78 h (fun v11 h => ?_)
    exact mm_xi X I hr hlk dX6_carryOut_81 h
  · have h := mm_f z3_0 h
    by_cases z3_1 : v2 = 1
    · have h := mm_t z3_1 h
      refine lv_tableIn (tgt := 82) (off := 73) X.1 X.2.1 dX6_carryOut_9 (by rw [z3_1]; decide) (by rw [z3_1]; decide) (by rw [z3_1]; rfl) (by decide) ?_
      refine lv_aload_n X.1 X.2.1 dX6_carryOut_82 rfl (lv_at hl 1 rfl) ?_
      refine lv_iload_n X.1 X.2.1 dX6_carryOut_83 rfl (lv_at hl 0 rfl) ?_
      refine mm_cVr X I hl (As := [.int v1]) (ci := 6) md_X6_open mv_X6_open ml_X6_122 rfl (kX6_open (n := n)) (by decide) ⟨Nat.le_refl 0, Nat.le_refl 0⟩ rfl rfl (Nat.le_of_ble_eq_true rfl) dX6_carryOut_84 h (fun v12 M H locs I h => ?_)
      refine mm_rgr X I fl_X6_62 dX6_carryOut_87 h (fun v13 h => ?_)
      refine lv_aload_n X.1 X.2.1 dX6_carryOut_90 rfl (lv_at hl 2 rfl) ?_
      refine mm_rgr X I fl_X6_89 dX6_carryOut_91 h (fun v14 h => ?_)
      refine mm_cVv X I hl (As := [.ref v14]) (ci := 5) md_X5_copyFrom mv_X5_copyFrom ml_X6_119 rfl (kX5_copyFrom (n := n)) (by decide) ⟨Nat.le_refl 0, Nat.le_refl 0⟩ rfl rfl (Nat.le_of_ble_eq_true rfl) dX6_carryOut_94 h (fun M H locs I h => ?_)
      refine lv_aload_n X.1 X.2.1 dX6_carryOut_97 rfl (lv_at hl 1 rfl) ?_
      refine mm_rgr X I fl_X6_11 dX6_carryOut_98 h (fun v16 h => ?_)
      refine lv_iload_n X.1 X.2.1 dX6_carryOut_101 rfl (lv_at hl 0 rfl) ?_
      refine mm_rra X I dX6_carryOut_102 h (fun v17 h => ?_)
      refine mm_rgi X I fl_X6_116 dX6_carryOut_103 h (fun v18 h => ?_)
      exact mm_xi X I hr hlk dX6_carryOut_106 h
    · have h := mm_f z3_1 h
      by_cases z3_2 : v2 = 2
      · have h := mm_t z3_2 h
        refine lv_tableIn (tgt := 107) (off := 98) X.1 X.2.1 dX6_carryOut_9 (by rw [z3_2]; decide) (by rw [z3_2]; decide) (by rw [z3_2]; rfl) (by decide) ?_
        refine lv_aload_n X.1 X.2.1 dX6_carryOut_107 rfl (lv_at hl 1 rfl) ?_
        refine lv_iload_n X.1 X.2.1 dX6_carryOut_108 rfl (lv_at hl 0 rfl) ?_
        refine mm_cVv X I hl (As := [.int v1]) (ci := 6) md_X6_close mv_X6_close ml_X6_126 rfl (kX6_close (n := n)) (by decide) ⟨Nat.le_refl 0, Nat.le_refl 0⟩ rfl rfl (Nat.le_of_ble_eq_true rfl) dX6_carryOut_109 h (fun M H locs I h => ?_)
        refine lv_aload_n X.1 X.2.1 dX6_carryOut_112 rfl (lv_at hl 1 rfl) ?_
        refine mm_rgr X I fl_X6_11 dX6_carryOut_113 h (fun v20 h => ?_)
        refine lv_aload_n X.1 X.2.1 dX6_carryOut_116 rfl (lv_at hl 1 rfl) ?_
        refine mm_rgi X I fl_X6_36 dX6_carryOut_117 h (fun v21 h => ?_)
        refine mm_rra X I dX6_carryOut_120 h (fun v22 h => ?_)
        refine mm_rgr X I fl_X6_62 dX6_carryOut_121 h (fun v23 h => ?_)
        refine mm_rgi X I fl_X6_66 dX6_carryOut_124 h (fun v24 h => ?_)
        exact mm_xi X I hr hlk dX6_carryOut_127 h
      · have h := mm_f z3_2 h
        by_cases z3_3 : v2 = 3
        · have h := mm_t z3_3 h
          refine lv_tableIn (tgt := 128) (off := 119) X.1 X.2.1 dX6_carryOut_9 (by rw [z3_3]; decide) (by rw [z3_3]; decide) (by rw [z3_3]; rfl) (by decide) ?_
          refine lv_aload_n X.1 X.2.1 dX6_carryOut_128 rfl (lv_at hl 1 rfl) ?_
          refine lv_iload_n X.1 X.2.1 dX6_carryOut_129 rfl (lv_at hl 0 rfl) ?_
          refine lv_aload_n X.1 X.2.1 dX6_carryOut_130 rfl (lv_at hl 2 rfl) ?_
          refine mm_rgi X I fl_X6_94 dX6_carryOut_131 h (fun v25 h => ?_)
          refine mm_cVi X I hl (As := [.int v1, .int v25]) (ci := 6) md_X6_change mv_X6_change ml_X6_130 rfl (kX6_change (n := n)) (by decide) ⟨Nat.le_refl 0, Nat.le_refl 0⟩ rfl rfl (Nat.le_of_ble_eq_true rfl) dX6_carryOut_134 h (fun v26 M H locs I h => ?_)
          exact mm_xi X I hr hlk dX6_carryOut_137 h
        · have h := mm_f z3_3 h
          by_cases z3_4 : v2 = 4
          · have h := mm_t z3_4 h
            refine lv_tableIn (tgt := 138) (off := 129) X.1 X.2.1 dX6_carryOut_9 (by rw [z3_4]; decide) (by rw [z3_4]; decide) (by rw [z3_4]; rfl) (by decide) ?_
            refine lv_aload_n X.1 X.2.1 dX6_carryOut_138 rfl (lv_at hl 1 rfl) ?_
            refine lv_aload_n X.1 X.2.1 dX6_carryOut_139 rfl (lv_at hl 1 rfl) ?_
            refine mm_rgr X I fl_X6_19 dX6_carryOut_140 h (fun v27 h => ?_)
            refine lv_iload_n X.1 X.2.1 dX6_carryOut_143 rfl (lv_at hl 0 rfl) ?_
            refine mm_rra X I dX6_carryOut_144 h (fun v28 h => ?_)
            refine lv_aload_n X.1 X.2.1 dX6_carryOut_145 rfl (lv_at hl 2 rfl) ?_
            refine mm_cVi X I hl (As := [.ref v28, .ref a1]) (ci := 6) md_X6_start mv_X6_start ml_X6_133 rfl (kX6_start (n := n)) (by decide) ⟨Nat.le_refl 0, Nat.le_refl 0⟩ rfl rfl (Nat.le_of_ble_eq_true rfl) dX6_carryOut_146 h (fun v29 M H locs I h => ?_)
            exact mm_xi X I hr hlk dX6_carryOut_149 h
          · have h := mm_f z3_4 h
            by_cases z3_5 : v2 = 5
            · have h := mm_t z3_5 h
              refine lv_tableIn (tgt := 150) (off := 141) X.1 X.2.1 dX6_carryOut_9 (by rw [z3_5]; decide) (by rw [z3_5]; decide) (by rw [z3_5]; rfl) (by decide) ?_
              refine lv_aload_n X.1 X.2.1 dX6_carryOut_150 rfl (lv_at hl 1 rfl) ?_
              refine lv_aload_n X.1 X.2.1 dX6_carryOut_151 rfl (lv_at hl 1 rfl) ?_
              refine mm_rgr X I fl_X6_19 dX6_carryOut_152 h (fun v30 h => ?_)
              refine lv_iload_n X.1 X.2.1 dX6_carryOut_155 rfl (lv_at hl 0 rfl) ?_
              refine mm_rra X I dX6_carryOut_156 h (fun v31 h => ?_)
              refine mm_cVi X I hl (As := [.ref v31]) (ci := 6) md_X6_turn mv_X6_turn ml_X6_137 rfl (kX6_turn (n := n)) (by decide) ⟨Nat.le_refl 0, Nat.le_refl 0⟩ rfl rfl (Nat.le_of_ble_eq_true rfl) dX6_carryOut_157 h (fun v32 M H locs I h => ?_)
              exact mm_xi X I hr hlk dX6_carryOut_160 h
            · have h := mm_f z3_5 h
              by_cases z3_6 : v2 = 6
              · have h := mm_t z3_6 h
                refine lv_tableIn (tgt := 161) (off := 152) X.1 X.2.1 dX6_carryOut_9 (by rw [z3_6]; decide) (by rw [z3_6]; decide) (by rw [z3_6]; rfl) (by decide) ?_
                refine lv_aload_n X.1 X.2.1 dX6_carryOut_161 rfl (lv_at hl 1 rfl) ?_
                refine mm_rgr X I fl_X6_19 dX6_carryOut_162 h (fun v33 h => ?_)
                refine lv_iload_n X.1 X.2.1 dX6_carryOut_165 rfl (lv_at hl 0 rfl) ?_
                refine mm_rra X I dX6_carryOut_166 h (fun v34 h => ?_)
                refine mm_cVv X I hl (As := []) (ci := 0) md_X0_unmark mv_X0_unmark ml_X6_56 rfl (kX0_unmark (n := n)) (by decide) ⟨Nat.le_refl 0, Nat.le_refl 0⟩ rfl rfl (Nat.le_of_ble_eq_true rfl) dX6_carryOut_167 h (fun M H locs I h => ?_)
                refine lv_aload_n X.1 X.2.1 dX6_carryOut_170 rfl (lv_at hl 1 rfl) ?_
                refine lv_aload_n X.1 X.2.1 dX6_carryOut_171 rfl (lv_at hl 1 rfl) ?_
                refine mm_rgr X I fl_X6_19 dX6_carryOut_172 h (fun v36 h => ?_)
                refine lv_iload_n X.1 X.2.1 dX6_carryOut_175 rfl (lv_at hl 0 rfl) ?_
                refine mm_rra X I dX6_carryOut_176 h (fun v37 h => ?_)
                refine mm_cVi X I hl (As := [.ref v37]) (ci := 6) md_X6_left mv_X6_left ml_X6_141 rfl (kX6_left (n := n)) (by decide) ⟨Nat.le_refl 0, Nat.le_refl 0⟩ rfl rfl (Nat.le_of_ble_eq_true rfl) dX6_carryOut_177 h (fun v38 M H locs I h => ?_)
                exact mm_xi X I hr hlk dX6_carryOut_180 h
              · have h := mm_f z3_6 h
                by_cases z3_7 : v2 = 7
                · have h := mm_t z3_7 h
                  refine lv_tableIn (tgt := 181) (off := 172) X.1 X.2.1 dX6_carryOut_9 (by rw [z3_7]; decide) (by rw [z3_7]; decide) (by rw [z3_7]; rfl) (by decide) ?_
                  refine lv_aload_n X.1 X.2.1 dX6_carryOut_181 rfl (lv_at hl 1 rfl) ?_
                  refine lv_iload_n X.1 X.2.1 dX6_carryOut_182 rfl (lv_at hl 0 rfl) ?_
                  refine lv_aload_n X.1 X.2.1 dX6_carryOut_183 rfl (lv_at hl 2 rfl) ?_
                  refine mm_rgi X I fl_X6_94 dX6_carryOut_184 h (fun v39 h => ?_)
                  refine mm_cVi X I hl (As := [.int v1, .int v39]) (ci := 6) md_X6_cut mv_X6_cut ml_X6_144 rfl (kX6_cut (n := n)) (by decide) ⟨Nat.le_refl 0, Nat.le_refl 0⟩ rfl rfl (Nat.le_of_ble_eq_true rfl) dX6_carryOut_187 h (fun v40 M H locs I h => ?_)
                  exact mm_xi X I hr hlk dX6_carryOut_190 h
                · have h := mm_f z3_7 h
                  have z3_q0 : ¬ Int32.toInt v2 = 0 := fun q => z3_0 (Int32.toInt_inj.mp q)
                  have z3_q1 : ¬ Int32.toInt v2 = 1 := fun q => z3_1 (Int32.toInt_inj.mp q)
                  have z3_q2 : ¬ Int32.toInt v2 = 2 := fun q => z3_2 (Int32.toInt_inj.mp q)
                  have z3_q3 : ¬ Int32.toInt v2 = 3 := fun q => z3_3 (Int32.toInt_inj.mp q)
                  have z3_q4 : ¬ Int32.toInt v2 = 4 := fun q => z3_4 (Int32.toInt_inj.mp q)
                  have z3_q5 : ¬ Int32.toInt v2 = 5 := fun q => z3_5 (Int32.toInt_inj.mp q)
                  have z3_q6 : ¬ Int32.toInt v2 = 6 := fun q => z3_6 (Int32.toInt_inj.mp q)
                  have z3_q7 : ¬ Int32.toInt v2 = 7 := fun q => z3_7 (Int32.toInt_inj.mp q)
                  refine mm_tdef (tgt := 191) X dX6_carryOut_9 (by decide) (fun i hi hq => ?_) (by decide) ?_
                  · rcases (show i = 0 ∨ i = 1 ∨ i = 2 ∨ i = 3 ∨ i = 4 ∨ i = 5 ∨ i = 6 ∨ i = 7 by simp at hi; omega) with rfl | rfl | rfl | rfl | rfl | rfl | rfl | rfl
                    · exact absurd hq (by omega)
                    · exact absurd hq (by omega)
                    · exact absurd hq (by omega)
                    · exact absurd hq (by omega)
                    · exact absurd hq (by omega)
                    · exact absurd hq (by omega)
                    · exact absurd hq (by omega)
                    · exact absurd hq (by omega)
                  · refine lv_aload_n X.1 X.2.1 dX6_carryOut_191 rfl (lv_at hl 1 rfl) ?_
                    refine lv_iload_n X.1 X.2.1 dX6_carryOut_192 rfl (lv_at hl 0 rfl) ?_
                    refine mm_cVi X I hl (As := [.int v1]) (ci := 6) md_X6_unite mv_X6_unite ml_X6_147 rfl (kX6_unite (n := n)) (by decide) ⟨Nat.le_refl 0, Nat.le_refl 0⟩ rfl rfl (Nat.le_of_ble_eq_true rfl) dX6_carryOut_193 h (fun v41 M H locs I h => ?_)
                    exact mm_xi X I hr hlk dX6_carryOut_196 h
set_option maxHeartbeats 4000000 in
set_option maxRecDepth 100000 in
theorem wpX6_longestLine_l4 {p : Program} {l : Launch} {e : Env} {s : State} {m : MethodId} {args : Array Value} {below : List Frame} {meth : Method} {c : Code} {D : va_G} {dA : Nat → ClassId} {lo : Nat} (X : mm_C D dA lo cX6_longestLine RX6 3 p s m args c) (hr : meth.sig.returnType = (some .int)) (hlk : meth.locks = false) (n : Nat) {o : Int32 × mm_M} (k : Nat) : ∀ (M : mm_M) (a0 : Nat) (x1 : Int32) (x2 : Int32) (H : Heap) (locs : List Loc) (ls : Array Slot), mm_I D dA lo s M H locs → lv_has ls 3 [(0, .ref a0), (1, .int x1), (2, .int x2)] → pX6_longestLine_l4 n k M a0 x1 x2 = some o → W p l e (mm_rm 0 0 0 0) s m args below meth c H locs 0 0 (MQ below (mm_Q D dA lo (some (.int o.1)) o.2) args s 0 0 (mm_fr lo)) (F0 m 4 ls []) := by
  induction k with
  | zero =>
    intro M a0 x1 x2 H locs ls I hl h
    have h : (none : Option (Int32 × mm_M)) = some o := h
    cases h
  | succ k ih =>
    intro M a0 x1 x2 H locs ls I hl h
    have h : pX6_longestLine_l4b n (pX6_longestLine_l4 n k) M a0 x1 x2 = some o := h
    unfold pX6_longestLine_l4b at h
    refine lv_iload_n X.1 X.2.1 dX6_longestLine_4 rfl (lv_at hl 2 rfl) ?_
    refine lv_aload_n X.1 X.2.1 dX6_longestLine_5 rfl (lv_at hl 0 rfl) ?_
    refine mm_rgi X I fl_X6_36 dX6_longestLine_6 h (fun v1 h => ?_)
    refine mm_kge (tgt := 47) X dX6_longestLine_9 (by decide) h (fun h => ?_) (fun h => ?_)
    · refine lv_iload_n X.1 X.2.1 dX6_longestLine_47 rfl (lv_at hl 1 rfl) ?_
      exact mm_xi X I hr hlk dX6_longestLine_48 h
    · refine lv_aload_n X.1 X.2.1 dX6_longestLine_12 rfl (lv_at hl 0 rfl) ?_
      refine mm_rgr X I fl_X6_11 dX6_longestLine_13 h (fun v2 h => ?_)
      refine lv_iload_n X.1 X.2.1 dX6_longestLine_16 rfl (lv_at hl 2 rfl) ?_
      refine mm_rra X I dX6_longestLine_17 h (fun v3 h => ?_)
      refine mm_rgr X I fl_X6_62 dX6_longestLine_18 h (fun v4 h => ?_)
      refine mm_rgi X I fl_X6_66 dX6_longestLine_21 h (fun v5 h => ?_)
      refine lv_aload_n X.1 X.2.1 dX6_longestLine_24 rfl (lv_at hl 0 rfl) ?_
      refine mm_rgr X I fl_X6_11 dX6_longestLine_25 h (fun v6 h => ?_)
      refine lv_iload_n X.1 X.2.1 dX6_longestLine_28 rfl (lv_at hl 1 rfl) ?_
      refine mm_rra X I dX6_longestLine_29 h (fun v7 h => ?_)
      refine mm_rgr X I fl_X6_62 dX6_longestLine_30 h (fun v8 h => ?_)
      refine mm_rgi X I fl_X6_66 dX6_longestLine_33 h (fun v9 h => ?_)
      refine mm_kle (tgt := 41) X dX6_longestLine_36 (by decide) h (fun h => ?_) (fun h => ?_)
      · refine lv_iinc (v := (x2 + 1)) (lv' := [(2, .int (x2 + 1)), (0, .ref a0), (1, .int x1)]) X.1 X.2.1 dX6_longestLine_41 hl (k := 2) rfl rfl (by decide) rfl (fun ls hl => ?_)
        refine lv_goto (tgt := 4) X.1 X.2.1 dX6_longestLine_44 (by decide) ?_
        exact ih M _ _ _ _ _ _ I (lv_sub hl [1, 2, 0] rfl) h
      · refine lv_iload_n X.1 X.2.1 dX6_longestLine_39 rfl (lv_at hl 2 rfl) ?_
        refine lv_istore_n (lv' := [(1, .int x2), (0, .ref a0), (2, .int x2)]) X.1 X.2.1 dX6_longestLine_40 rfl hl (by decide) rfl (fun ls hl => ?_)
        refine lv_iinc (v := (x2 + 1)) (lv' := [(2, .int (x2 + 1)), (1, .int x2), (0, .ref a0)]) X.1 X.2.1 dX6_longestLine_41 hl (k := 2) rfl rfl (by decide) rfl (fun ls hl => ?_)
        refine lv_goto (tgt := 4) X.1 X.2.1 dX6_longestLine_44 (by decide) ?_
        exact ih M _ _ _ _ _ _ I (lv_sub hl [2, 1, 0] rfl) h
set_option maxHeartbeats 4000000 in
set_option maxRecDepth 100000 in
theorem kX6_longestLine {l : Launch} {D : va_G} {dA : Nat → ClassId} {lo : Nat} {n : Nat} {M : mm_M} {a0 : Nat} (o : Int32 × mm_M) (h : pX6_longestLine n M a0 = some o) : (∃ fs, M.2 a0 = some (mm_ob 6 fs)) ∧ mm_Met l D dA lo yX6_longestLine cX6_longestLine 3 (some .int) 0 0 0 0 [.ref a0] M (some (.int o.1)) o.2 := by
  unfold pX6_longestLine at h
  obtain ⟨hob, h⟩ := mm_v_some h
  refine ⟨hob, mm_enter (by decide) (Nat.le_of_ble_eq_true rfl) (fun p e s m args below meth c ls X hr hlk hnm I hl => ?_)⟩
  have X : mm_C D dA lo cX6_longestLine RX6 3 p s m args c := X
  have hl : lv_has ls 3 [(0, .ref a0)] := hl
  refine lv_iconst (v := 0) X.1 X.2.1 dX6_longestLine_0 (by decide) ?_
  refine lv_istore_n (lv' := [(1, .int 0), (0, .ref a0)]) X.1 X.2.1 dX6_longestLine_1 rfl hl (by decide) rfl (fun ls hl => ?_)
  refine lv_iconst (v := 1) X.1 X.2.1 dX6_longestLine_2 (by decide) ?_
  refine lv_istore_n (lv' := [(2, .int 1), (1, .int 0), (0, .ref a0)]) X.1 X.2.1 dX6_longestLine_3 rfl hl (by decide) rfl (fun ls hl => ?_)
  exact wpX6_longestLine_l4 X hr hlk n  n M _ _ _ _ _ _ I (lv_sub hl [2, 1, 0] rfl) h
set_option maxHeartbeats 4000000 in
set_option maxRecDepth 100000 in
theorem wpX6_shortestLine_l4 {p : Program} {l : Launch} {e : Env} {s : State} {m : MethodId} {args : Array Value} {below : List Frame} {meth : Method} {c : Code} {D : va_G} {dA : Nat → ClassId} {lo : Nat} (X : mm_C D dA lo cX6_shortestLine RX6 3 p s m args c) (hr : meth.sig.returnType = (some .int)) (hlk : meth.locks = false) (n : Nat) {o : Int32 × mm_M} (k : Nat) : ∀ (M : mm_M) (a0 : Nat) (x1 : Int32) (x2 : Int32) (H : Heap) (locs : List Loc) (ls : Array Slot), mm_I D dA lo s M H locs → lv_has ls 3 [(0, .ref a0), (1, .int x1), (2, .int x2)] → pX6_shortestLine_l4 n k M a0 x1 x2 = some o → W p l e (mm_rm 0 0 0 0) s m args below meth c H locs 0 0 (MQ below (mm_Q D dA lo (some (.int o.1)) o.2) args s 0 0 (mm_fr lo)) (F0 m 4 ls []) := by
  induction k with
  | zero =>
    intro M a0 x1 x2 H locs ls I hl h
    have h : (none : Option (Int32 × mm_M)) = some o := h
    cases h
  | succ k ih =>
    intro M a0 x1 x2 H locs ls I hl h
    have h : pX6_shortestLine_l4b n (pX6_shortestLine_l4 n k) M a0 x1 x2 = some o := h
    unfold pX6_shortestLine_l4b at h
    refine lv_iload_n X.1 X.2.1 dX6_shortestLine_4 rfl (lv_at hl 2 rfl) ?_
    refine lv_aload_n X.1 X.2.1 dX6_shortestLine_5 rfl (lv_at hl 0 rfl) ?_
    refine mm_rgi X I fl_X6_36 dX6_shortestLine_6 h (fun v1 h => ?_)
    refine mm_kge (tgt := 47) X dX6_shortestLine_9 (by decide) h (fun h => ?_) (fun h => ?_)
    · refine lv_iload_n X.1 X.2.1 dX6_shortestLine_47 rfl (lv_at hl 1 rfl) ?_
      exact mm_xi X I hr hlk dX6_shortestLine_48 h
    · refine lv_aload_n X.1 X.2.1 dX6_shortestLine_12 rfl (lv_at hl 0 rfl) ?_
      refine mm_rgr X I fl_X6_11 dX6_shortestLine_13 h (fun v2 h => ?_)
      refine lv_iload_n X.1 X.2.1 dX6_shortestLine_16 rfl (lv_at hl 2 rfl) ?_
      refine mm_rra X I dX6_shortestLine_17 h (fun v3 h => ?_)
      refine mm_rgr X I fl_X6_62 dX6_shortestLine_18 h (fun v4 h => ?_)
      refine mm_rgi X I fl_X6_66 dX6_shortestLine_21 h (fun v5 h => ?_)
      refine lv_aload_n X.1 X.2.1 dX6_shortestLine_24 rfl (lv_at hl 0 rfl) ?_
      refine mm_rgr X I fl_X6_11 dX6_shortestLine_25 h (fun v6 h => ?_)
      refine lv_iload_n X.1 X.2.1 dX6_shortestLine_28 rfl (lv_at hl 1 rfl) ?_
      refine mm_rra X I dX6_shortestLine_29 h (fun v7 h => ?_)
      refine mm_rgr X I fl_X6_62 dX6_shortestLine_30 h (fun v8 h => ?_)
      refine mm_rgi X I fl_X6_66 dX6_shortestLine_33 h (fun v9 h => ?_)
      refine mm_kge (tgt := 41) X dX6_shortestLine_36 (by decide) h (fun h => ?_) (fun h => ?_)
      · refine lv_iinc (v := (x2 + 1)) (lv' := [(2, .int (x2 + 1)), (0, .ref a0), (1, .int x1)]) X.1 X.2.1 dX6_shortestLine_41 hl (k := 2) rfl rfl (by decide) rfl (fun ls hl => ?_)
        refine lv_goto (tgt := 4) X.1 X.2.1 dX6_shortestLine_44 (by decide) ?_
        exact ih M _ _ _ _ _ _ I (lv_sub hl [1, 2, 0] rfl) h
      · refine lv_iload_n X.1 X.2.1 dX6_shortestLine_39 rfl (lv_at hl 2 rfl) ?_
        refine lv_istore_n (lv' := [(1, .int x2), (0, .ref a0), (2, .int x2)]) X.1 X.2.1 dX6_shortestLine_40 rfl hl (by decide) rfl (fun ls hl => ?_)
        refine lv_iinc (v := (x2 + 1)) (lv' := [(2, .int (x2 + 1)), (1, .int x2), (0, .ref a0)]) X.1 X.2.1 dX6_shortestLine_41 hl (k := 2) rfl rfl (by decide) rfl (fun ls hl => ?_)
        refine lv_goto (tgt := 4) X.1 X.2.1 dX6_shortestLine_44 (by decide) ?_
        exact ih M _ _ _ _ _ _ I (lv_sub hl [2, 1, 0] rfl) h
set_option maxHeartbeats 4000000 in
set_option maxRecDepth 100000 in
theorem kX6_shortestLine {l : Launch} {D : va_G} {dA : Nat → ClassId} {lo : Nat} {n : Nat} {M : mm_M} {a0 : Nat} (o : Int32 × mm_M) (h : pX6_shortestLine n M a0 = some o) : (∃ fs, M.2 a0 = some (mm_ob 6 fs)) ∧ mm_Met l D dA lo yX6_shortestLine cX6_shortestLine 3 (some .int) 0 0 0 0 [.ref a0] M (some (.int o.1)) o.2 := by
  unfold pX6_shortestLine at h
  obtain ⟨hob, h⟩ := mm_v_some h
  refine ⟨hob, mm_enter (by decide) (Nat.le_of_ble_eq_true rfl) (fun p e s m args below meth c ls X hr hlk hnm I hl => ?_)⟩
  have X : mm_C D dA lo cX6_shortestLine RX6 3 p s m args c := X
  have hl : lv_has ls 3 [(0, .ref a0)] := hl
  refine lv_iconst (v := 0) X.1 X.2.1 dX6_shortestLine_0 (by decide) ?_
  refine lv_istore_n (lv' := [(1, .int 0), (0, .ref a0)]) X.1 X.2.1 dX6_shortestLine_1 rfl hl (by decide) rfl (fun ls hl => ?_)
  refine lv_iconst (v := 1) X.1 X.2.1 dX6_shortestLine_2 (by decide) ?_
  refine lv_istore_n (lv' := [(2, .int 1), (1, .int 0), (0, .ref a0)]) X.1 X.2.1 dX6_shortestLine_3 rfl hl (by decide) rfl (fun ls hl => ?_)
  exact wpX6_shortestLine_l4 X hr hlk n  n M _ _ _ _ _ _ I (lv_sub hl [2, 1, 0] rfl) h
set_option maxHeartbeats 4000000 in
set_option maxRecDepth 100000 in
theorem wpX6_risingLines_l2 {p : Program} {l : Launch} {e : Env} {s : State} {m : MethodId} {args : Array Value} {below : List Frame} {meth : Method} {c : Code} {D : va_G} {dA : Nat → ClassId} {lo : Nat} (X : mm_C D dA lo cX6_risingLines RX6 2 p s m args c) (hr : meth.sig.returnType = (some .int)) (hlk : meth.locks = false) (n : Nat) {o : Int32 × mm_M} (k : Nat) : ∀ (M : mm_M) (a0 : Nat) (x1 : Int32) (H : Heap) (locs : List Loc) (ls : Array Slot), mm_I D dA lo s M H locs → lv_has ls 2 [(0, .ref a0), (1, .int x1)] → pX6_risingLines_l2 n k M a0 x1 = some o → W p l e (mm_rm 0 0 0 0) s m args below meth c H locs 0 0 (MQ below (mm_Q D dA lo (some (.int o.1)) o.2) args s 0 0 (mm_fr lo)) (F0 m 2 ls []) := by
  induction k with
  | zero =>
    intro M a0 x1 H locs ls I hl h
    have h : (none : Option (Int32 × mm_M)) = some o := h
    cases h
  | succ k ih =>
    intro M a0 x1 H locs ls I hl h
    have h : pX6_risingLines_l2b n (pX6_risingLines_l2 n k) M a0 x1 = some o := h
    unfold pX6_risingLines_l2b at h
    refine lv_iload_n X.1 X.2.1 dX6_risingLines_2 rfl (lv_at hl 1 rfl) ?_
    refine lv_aload_n X.1 X.2.1 dX6_risingLines_3 rfl (lv_at hl 0 rfl) ?_
    refine mm_rgi X I fl_X6_36 dX6_risingLines_4 h (fun v1 h => ?_)
    refine mm_kge (tgt := 39) X dX6_risingLines_7 (by decide) h (fun h => ?_) (fun h => ?_)
    · refine lv_iload_n X.1 X.2.1 dX6_risingLines_39 rfl (lv_at hl 1 rfl) ?_
      exact mm_xi X I hr hlk dX6_risingLines_40 h
    · refine lv_aload_n X.1 X.2.1 dX6_risingLines_10 rfl (lv_at hl 0 rfl) ?_
      refine mm_rgr X I fl_X6_11 dX6_risingLines_11 h (fun v2 h => ?_)
      refine lv_iload_n X.1 X.2.1 dX6_risingLines_14 rfl (lv_at hl 1 rfl) ?_
      refine mm_rra X I dX6_risingLines_15 h (fun v3 h => ?_)
      refine mm_rgi X I fl_X6_116 dX6_risingLines_16 h (fun v4 h => ?_)
      refine lv_aload_n X.1 X.2.1 dX6_risingLines_19 rfl (lv_at hl 0 rfl) ?_
      refine mm_rgr X I fl_X6_11 dX6_risingLines_20 h (fun v5 h => ?_)
      refine lv_iload_n X.1 X.2.1 dX6_risingLines_23 rfl (lv_at hl 1 rfl) ?_
      refine lv_iconst (v := 1) X.1 X.2.1 dX6_risingLines_24 (by decide) ?_
      refine lv_isub X.1 X.2.1 dX6_risingLines_25 ?_
      refine mm_rra X I dX6_risingLines_26 h (fun v6 h => ?_)
      refine mm_rgi X I fl_X6_116 dX6_risingLines_27 h (fun v7 h => ?_)
      refine mm_kle (tgt := 39) X dX6_risingLines_30 (by decide) h (fun h => ?_) (fun h => ?_)
      · refine lv_iload_n X.1 X.2.1 dX6_risingLines_39 rfl (lv_at hl 1 rfl) ?_
        exact mm_xi X I hr hlk dX6_risingLines_40 h
      · refine lv_iinc (v := (x1 + 1)) (lv' := [(1, .int (x1 + 1)), (0, .ref a0)]) X.1 X.2.1 dX6_risingLines_33 hl (k := 1) rfl rfl (by decide) rfl (fun ls hl => ?_)
        refine lv_goto (tgt := 2) X.1 X.2.1 dX6_risingLines_36 (by decide) ?_
        exact ih M _ _ _ _ _ I (lv_sub hl [1, 0] rfl) h
set_option maxHeartbeats 4000000 in
set_option maxRecDepth 100000 in
theorem kX6_risingLines {l : Launch} {D : va_G} {dA : Nat → ClassId} {lo : Nat} {n : Nat} {M : mm_M} {a0 : Nat} (o : Int32 × mm_M) (h : pX6_risingLines n M a0 = some o) : (∃ fs, M.2 a0 = some (mm_ob 6 fs)) ∧ mm_Met l D dA lo yX6_risingLines cX6_risingLines 2 (some .int) 0 0 0 0 [.ref a0] M (some (.int o.1)) o.2 := by
  unfold pX6_risingLines at h
  obtain ⟨hob, h⟩ := mm_v_some h
  refine ⟨hob, mm_enter (by decide) (Nat.le_of_ble_eq_true rfl) (fun p e s m args below meth c ls X hr hlk hnm I hl => ?_)⟩
  have X : mm_C D dA lo cX6_risingLines RX6 2 p s m args c := X
  have hl : lv_has ls 2 [(0, .ref a0)] := hl
  refine lv_iconst (v := 1) X.1 X.2.1 dX6_risingLines_0 (by decide) ?_
  refine lv_istore_n (lv' := [(1, .int 1), (0, .ref a0)]) X.1 X.2.1 dX6_risingLines_1 rfl hl (by decide) rfl (fun ls hl => ?_)
  exact wpX6_risingLines_l2 X hr hlk n  n M _ _ _ _ _ I (lv_sub hl [1, 0] rfl) h
set_option maxHeartbeats 4000000 in
set_option maxRecDepth 100000 in
theorem wpX6_laidBits_l4 {p : Program} {l : Launch} {e : Env} {s : State} {m : MethodId} {args : Array Value} {below : List Frame} {meth : Method} {c : Code} {D : va_G} {dA : Nat → ClassId} {lo : Nat} (X : mm_C D dA lo cX6_laidBits RX6 3 p s m args c) (hr : meth.sig.returnType = (some .int)) (hlk : meth.locks = false) (n : Nat) {o : Int32 × mm_M} (k : Nat) : ∀ (M : mm_M) (a0 : Nat) (x1 : Int32) (x2 : Int32) (H : Heap) (locs : List Loc) (ls : Array Slot), mm_I D dA lo s M H locs → lv_has ls 3 [(0, .ref a0), (1, .int x1), (2, .int x2)] → pX6_laidBits_l4 n k M a0 x1 x2 = some o → W p l e (mm_rm 1 21 0 0) s m args below meth c H locs 0 0 (MQ below (mm_Q D dA lo (some (.int o.1)) o.2) args s 0 0 (mm_fr lo)) (F0 m 4 ls []) := by
  induction k with
  | zero =>
    intro M a0 x1 x2 H locs ls I hl h
    have h : (none : Option (Int32 × mm_M)) = some o := h
    cases h
  | succ k ih =>
    intro M a0 x1 x2 H locs ls I hl h
    have h : pX6_laidBits_l4b n (pX6_laidBits_l4 n k) M a0 x1 x2 = some o := h
    unfold pX6_laidBits_l4b at h
    refine lv_iload_n X.1 X.2.1 dX6_laidBits_4 rfl (lv_at hl 2 rfl) ?_
    refine lv_aload_n X.1 X.2.1 dX6_laidBits_5 rfl (lv_at hl 0 rfl) ?_
    refine mm_rgr X I fl_X6_19 dX6_laidBits_6 h (fun v1 h => ?_)
    refine mm_rlen X I dX6_laidBits_9 h (fun v2 h => ?_)
    refine mm_kge (tgt := 33) X dX6_laidBits_10 (by decide) h (fun h => ?_) (fun h => ?_)
    · refine lv_iload_n X.1 X.2.1 dX6_laidBits_33 rfl (lv_at hl 1 rfl) ?_
      exact mm_xi X I hr hlk dX6_laidBits_34 h
    · refine lv_aload_n X.1 X.2.1 dX6_laidBits_13 rfl (lv_at hl 0 rfl) ?_
      refine lv_iload_n X.1 X.2.1 dX6_laidBits_14 rfl (lv_at hl 2 rfl) ?_
      refine mm_cVi X I hl (As := [.int x2]) (ci := 6) md_X6_hasCursor mv_X6_hasCursor ml_X6_109 rfl (kX6_hasCursor (n := n)) (by decide) ⟨Nat.le_refl 0, Nat.le_refl 0⟩ rfl rfl (Nat.le_of_ble_eq_true rfl) dX6_laidBits_15 h (fun v3 M H locs I h => ?_)
      refine mm_jeq (tgt := 27) X dX6_laidBits_18 (by decide) h (fun h => ?_) (fun h => ?_)
      · refine lv_iinc (v := (x2 + 1)) (lv' := [(2, .int (x2 + 1)), (0, .ref a0), (1, .int x1)]) X.1 X.2.1 dX6_laidBits_27 hl (k := 2) rfl rfl (by decide) rfl (fun ls hl => ?_)
        refine lv_goto (tgt := 4) X.1 X.2.1 dX6_laidBits_30 (by decide) ?_
        exact ih M _ _ _ _ _ _ I (lv_sub hl [1, 2, 0] rfl) h
      · refine lv_iload_n X.1 X.2.1 dX6_laidBits_21 rfl (lv_at hl 1 rfl) ?_
        refine lv_iconst (v := 1) X.1 X.2.1 dX6_laidBits_22 (by decide) ?_
        refine lv_iload_n X.1 X.2.1 dX6_laidBits_23 rfl (lv_at hl 2 rfl) ?_
        refine lv_ishl X.1 X.2.1 dX6_laidBits_24 ?_
        refine lv_ior X.1 X.2.1 dX6_laidBits_25 ?_
        refine lv_istore_n (lv' := [(1, .int (x1 ||| (1 <<< (x2 &&& 31)))), (0, .ref a0), (2, .int x2)]) X.1 X.2.1 dX6_laidBits_26 rfl hl (by decide) rfl (fun ls hl => ?_)
        refine lv_iinc (v := (x2 + 1)) (lv' := [(2, .int (x2 + 1)), (1, .int (x1 ||| (1 <<< (x2 &&& 31)))), (0, .ref a0)]) X.1 X.2.1 dX6_laidBits_27 hl (k := 2) rfl rfl (by decide) rfl (fun ls hl => ?_)
        refine lv_goto (tgt := 4) X.1 X.2.1 dX6_laidBits_30 (by decide) ?_
        exact ih M _ _ _ _ _ _ I (lv_sub hl [2, 1, 0] rfl) h
set_option maxHeartbeats 4000000 in
set_option maxRecDepth 100000 in
theorem kX6_laidBits {l : Launch} {D : va_G} {dA : Nat → ClassId} {lo : Nat} {n : Nat} {M : mm_M} {a0 : Nat} (o : Int32 × mm_M) (h : pX6_laidBits n M a0 = some o) : (∃ fs, M.2 a0 = some (mm_ob 6 fs)) ∧ mm_Met l D dA lo yX6_laidBits cX6_laidBits 3 (some .int) 1 21 0 0 [.ref a0] M (some (.int o.1)) o.2 := by
  unfold pX6_laidBits at h
  obtain ⟨hob, h⟩ := mm_v_some h
  refine ⟨hob, mm_enter (by decide) (Nat.le_of_ble_eq_true rfl) (fun p e s m args below meth c ls X hr hlk hnm I hl => ?_)⟩
  have X : mm_C D dA lo cX6_laidBits RX6 3 p s m args c := X
  have hl : lv_has ls 3 [(0, .ref a0)] := hl
  refine lv_iconst (v := 0) X.1 X.2.1 dX6_laidBits_0 (by decide) ?_
  refine lv_istore_n (lv' := [(1, .int 0), (0, .ref a0)]) X.1 X.2.1 dX6_laidBits_1 rfl hl (by decide) rfl (fun ls hl => ?_)
  refine lv_iconst (v := 0) X.1 X.2.1 dX6_laidBits_2 (by decide) ?_
  refine lv_istore_n (lv' := [(2, .int 0), (1, .int 0), (0, .ref a0)]) X.1 X.2.1 dX6_laidBits_3 rfl hl (by decide) rfl (fun ls hl => ?_)
  exact wpX6_laidBits_l4 X hr hlk n  n M _ _ _ _ _ _ I (lv_sub hl [2, 1, 0] rfl) h
set_option maxHeartbeats 4000000 in
set_option maxRecDepth 100000 in
theorem wpX6_withinBits_l14 {p : Program} {l : Launch} {e : Env} {s : State} {m : MethodId} {args : Array Value} {below : List Frame} {meth : Method} {c : Code} {D : va_G} {dA : Nat → ClassId} {lo : Nat} (X : mm_C D dA lo cX6_withinBits RX6 4 p s m args c) (hr : meth.sig.returnType = (some .int)) (hlk : meth.locks = false) (n : Nat) {o : Int32 × mm_M} {K4 : mm_M → Nat → Int32 → Int32 → Option (Int32 × mm_M)} (k4 : ∀ (M : mm_M) (a0 : Nat) (x1 : Int32) (x2 : Int32) (H : Heap) (locs : List Loc) (ls : Array Slot), mm_I D dA lo s M H locs → lv_has ls 4 [(0, .ref a0), (1, .int x1), (2, .int x2)] → K4 M a0 x1 x2 = some o → W p l e (mm_rm 2 46 0 0) s m args below meth c H locs 0 0 (MQ below (mm_Q D dA lo (some (.int o.1)) o.2) args s 0 0 (mm_fr lo)) (F0 m 4 ls [])) (k : Nat) : ∀ (M : mm_M) (a0 : Nat) (x1 : Int32) (x2 : Int32) (x3 : Int32) (H : Heap) (locs : List Loc) (ls : Array Slot), mm_I D dA lo s M H locs → lv_has ls 4 [(0, .ref a0), (1, .int x1), (2, .int x2), (3, .int x3)] → pX6_withinBits_l14 n K4 k M a0 x1 x2 x3 = some o → W p l e (mm_rm 2 46 0 0) s m args below meth c H locs 0 0 (MQ below (mm_Q D dA lo (some (.int o.1)) o.2) args s 0 0 (mm_fr lo)) (F0 m 14 ls []) := by
  induction k with
  | zero =>
    intro M a0 x1 x2 x3 H locs ls I hl h
    have h : (none : Option (Int32 × mm_M)) = some o := h
    cases h
  | succ k ih =>
    intro M a0 x1 x2 x3 H locs ls I hl h
    have h : pX6_withinBits_l14b n K4 (pX6_withinBits_l14 n K4 k) M a0 x1 x2 x3 = some o := h
    unfold pX6_withinBits_l14b at h
    refine lv_iload_n X.1 X.2.1 dX6_withinBits_14 rfl (lv_at hl 3 rfl) ?_
    refine lv_aload_n X.1 X.2.1 dX6_withinBits_15 rfl (lv_at hl 0 rfl) ?_
    refine mm_rgi X I fl_X6_36 dX6_withinBits_16 h (fun v1 h => ?_)
    refine mm_kge (tgt := 63) X dX6_withinBits_19 (by decide) h (fun h => ?_) (fun h => ?_)
    · refine lv_iinc (v := (x2 + 1)) (lv' := [(2, .int (x2 + 1)), (0, .ref a0), (1, .int x1), (3, .int x3)]) X.1 X.2.1 dX6_withinBits_63 hl (k := 2) rfl rfl (by decide) rfl (fun ls hl => ?_)
      refine lv_goto (tgt := 4) X.1 X.2.1 dX6_withinBits_66 (by decide) ?_
      exact k4 M _ _ _ _ _ _ I (lv_sub hl [1, 2, 0] rfl) h
    · refine lv_iload_n X.1 X.2.1 dX6_withinBits_22 rfl (lv_at hl 3 rfl) ?_
      refine lv_iload_n X.1 X.2.1 dX6_withinBits_23 rfl (lv_at hl 2 rfl) ?_
      refine mm_keq (tgt := 57) X dX6_withinBits_24 (by decide) h (fun h => ?_) (fun h => ?_)
      · refine lv_iinc (v := (x3 + 1)) (lv' := [(3, .int (x3 + 1)), (0, .ref a0), (1, .int x1), (2, .int x2)]) X.1 X.2.1 dX6_withinBits_57 hl (k := 3) rfl rfl (by decide) rfl (fun ls hl => ?_)
        refine lv_goto (tgt := 14) X.1 X.2.1 dX6_withinBits_60 (by decide) ?_
        exact ih M _ _ _ _ _ _ _ I (lv_sub hl [1, 2, 3, 0] rfl) h
      · refine lv_aload_n X.1 X.2.1 dX6_withinBits_27 rfl (lv_at hl 0 rfl) ?_
        refine mm_rgr X I fl_X6_11 dX6_withinBits_28 h (fun v2 h => ?_)
        refine lv_iload_n X.1 X.2.1 dX6_withinBits_31 rfl (lv_at hl 3 rfl) ?_
        refine mm_rra X I dX6_withinBits_32 h (fun v3 h => ?_)
        refine mm_rgr X I fl_X6_62 dX6_withinBits_33 h (fun v4 h => ?_)
        refine lv_aload_n X.1 X.2.1 dX6_withinBits_36 rfl (lv_at hl 0 rfl) ?_
        refine mm_rgr X I fl_X6_11 dX6_withinBits_37 h (fun v5 h => ?_)
        refine lv_iload_n X.1 X.2.1 dX6_withinBits_40 rfl (lv_at hl 2 rfl) ?_
        refine mm_rra X I dX6_withinBits_41 h (fun v6 h => ?_)
        refine mm_rgr X I fl_X6_62 dX6_withinBits_42 h (fun v7 h => ?_)
        refine mm_cVi X I hl (As := [.ref v7]) (ci := 5) md_X5_hits mv_X5_hits ml_X6_69 rfl (kX5_hits (n := n)) (by decide) ⟨Nat.le_refl 0, Nat.le_refl 0⟩ rfl rfl (Nat.le_of_ble_eq_true rfl) dX6_withinBits_45 h (fun v8 M H locs I h => ?_)
        refine mm_jle (tgt := 57) X dX6_withinBits_48 (by decide) h (fun h => ?_) (fun h => ?_)
        · refine lv_iinc (v := (x3 + 1)) (lv' := [(3, .int (x3 + 1)), (0, .ref a0), (1, .int x1), (2, .int x2)]) X.1 X.2.1 dX6_withinBits_57 hl (k := 3) rfl rfl (by decide) rfl (fun ls hl => ?_)
          refine lv_goto (tgt := 14) X.1 X.2.1 dX6_withinBits_60 (by decide) ?_
          exact ih M _ _ _ _ _ _ _ I (lv_sub hl [1, 2, 3, 0] rfl) h
        · refine lv_iload_n X.1 X.2.1 dX6_withinBits_51 rfl (lv_at hl 1 rfl) ?_
          refine lv_iconst (v := 1) X.1 X.2.1 dX6_withinBits_52 (by decide) ?_
          refine lv_iload_n X.1 X.2.1 dX6_withinBits_53 rfl (lv_at hl 2 rfl) ?_
          refine lv_ishl X.1 X.2.1 dX6_withinBits_54 ?_
          refine lv_ior X.1 X.2.1 dX6_withinBits_55 ?_
          refine lv_istore_n (lv' := [(1, .int (x1 ||| (1 <<< (x2 &&& 31)))), (0, .ref a0), (2, .int x2), (3, .int x3)]) X.1 X.2.1 dX6_withinBits_56 rfl hl (by decide) rfl (fun ls hl => ?_)
          refine lv_iinc (v := (x3 + 1)) (lv' := [(3, .int (x3 + 1)), (1, .int (x1 ||| (1 <<< (x2 &&& 31)))), (0, .ref a0), (2, .int x2)]) X.1 X.2.1 dX6_withinBits_57 hl (k := 3) rfl rfl (by decide) rfl (fun ls hl => ?_)
          refine lv_goto (tgt := 14) X.1 X.2.1 dX6_withinBits_60 (by decide) ?_
          exact ih M _ _ _ _ _ _ _ I (lv_sub hl [2, 1, 3, 0] rfl) h
set_option maxHeartbeats 4000000 in
set_option maxRecDepth 100000 in
theorem wpX6_withinBits_l4 {p : Program} {l : Launch} {e : Env} {s : State} {m : MethodId} {args : Array Value} {below : List Frame} {meth : Method} {c : Code} {D : va_G} {dA : Nat → ClassId} {lo : Nat} (X : mm_C D dA lo cX6_withinBits RX6 4 p s m args c) (hr : meth.sig.returnType = (some .int)) (hlk : meth.locks = false) (n : Nat) {o : Int32 × mm_M} (k : Nat) : ∀ (M : mm_M) (a0 : Nat) (x1 : Int32) (x2 : Int32) (H : Heap) (locs : List Loc) (ls : Array Slot), mm_I D dA lo s M H locs → lv_has ls 4 [(0, .ref a0), (1, .int x1), (2, .int x2)] → pX6_withinBits_l4 n k M a0 x1 x2 = some o → W p l e (mm_rm 2 46 0 0) s m args below meth c H locs 0 0 (MQ below (mm_Q D dA lo (some (.int o.1)) o.2) args s 0 0 (mm_fr lo)) (F0 m 4 ls []) := by
  induction k with
  | zero =>
    intro M a0 x1 x2 H locs ls I hl h
    have h : (none : Option (Int32 × mm_M)) = some o := h
    cases h
  | succ k ih =>
    intro M a0 x1 x2 H locs ls I hl h
    have h : pX6_withinBits_l4b n (pX6_withinBits_l4 n k) M a0 x1 x2 = some o := h
    unfold pX6_withinBits_l4b at h
    refine lv_iload_n X.1 X.2.1 dX6_withinBits_4 rfl (lv_at hl 2 rfl) ?_
    refine lv_aload_n X.1 X.2.1 dX6_withinBits_5 rfl (lv_at hl 0 rfl) ?_
    refine mm_rgi X I fl_X6_36 dX6_withinBits_6 h (fun v1 h => ?_)
    refine mm_kge (tgt := 69) X dX6_withinBits_9 (by decide) h (fun h => ?_) (fun h => ?_)
    · refine lv_iload_n X.1 X.2.1 dX6_withinBits_69 rfl (lv_at hl 1 rfl) ?_
      exact mm_xi X I hr hlk dX6_withinBits_70 h
    · refine lv_iconst (v := 0) X.1 X.2.1 dX6_withinBits_12 (by decide) ?_
      refine lv_istore_n (lv' := [(3, .int 0), (0, .ref a0), (1, .int x1), (2, .int x2)]) X.1 X.2.1 dX6_withinBits_13 rfl hl (by decide) rfl (fun ls hl => ?_)
      exact wpX6_withinBits_l14 X hr hlk n ih n M _ _ _ _ _ _ _ I (lv_sub hl [1, 2, 3, 0] rfl) h
set_option maxHeartbeats 4000000 in
set_option maxRecDepth 100000 in
theorem kX6_withinBits {l : Launch} {D : va_G} {dA : Nat → ClassId} {lo : Nat} {n : Nat} {M : mm_M} {a0 : Nat} (o : Int32 × mm_M) (h : pX6_withinBits n M a0 = some o) : (∃ fs, M.2 a0 = some (mm_ob 6 fs)) ∧ mm_Met l D dA lo yX6_withinBits cX6_withinBits 4 (some .int) 2 46 0 0 [.ref a0] M (some (.int o.1)) o.2 := by
  unfold pX6_withinBits at h
  obtain ⟨hob, h⟩ := mm_v_some h
  refine ⟨hob, mm_enter (by decide) (Nat.le_of_ble_eq_true rfl) (fun p e s m args below meth c ls X hr hlk hnm I hl => ?_)⟩
  have X : mm_C D dA lo cX6_withinBits RX6 4 p s m args c := X
  have hl : lv_has ls 4 [(0, .ref a0)] := hl
  refine lv_iconst (v := 0) X.1 X.2.1 dX6_withinBits_0 (by decide) ?_
  refine lv_istore_n (lv' := [(1, .int 0), (0, .ref a0)]) X.1 X.2.1 dX6_withinBits_1 rfl hl (by decide) rfl (fun ls hl => ?_)
  refine lv_iconst (v := 0) X.1 X.2.1 dX6_withinBits_2 (by decide) ?_
  refine lv_istore_n (lv' := [(2, .int 0), (1, .int 0), (0, .ref a0)]) X.1 X.2.1 dX6_withinBits_3 rfl hl (by decide) rfl (fun ls hl => ?_)
  exact wpX6_withinBits_l4 X hr hlk n  n M _ _ _ _ _ _ I (lv_sub hl [2, 1, 0] rfl) h
set_option maxHeartbeats 4000000 in
set_option maxRecDepth 100000 in
theorem kX7_tell {l : Launch} {D : va_G} {dA : Nat → ClassId} {lo : Nat} {n : Nat} {M : mm_M} {a0 : Nat} {x1 : Int32} {x2 : Int32} {x3 : Int32} (o : mm_M) (h : pX7_tell n M a0 x1 x2 x3 = some o) : (∃ fs, M.2 a0 = some (mm_ob 7 fs)) ∧ mm_Met l D dA lo yX7_tell cX7_tell 4 none 0 0 0 0 [.ref a0, .int x1, .int x2, .int x3] M none o := by
  unfold pX7_tell at h
  obtain ⟨hob, h⟩ := mm_v_some h
  refine ⟨hob, mm_enter (by decide) (Nat.le_of_ble_eq_true rfl) (fun p e s m args below meth c ls X hr hlk hnm I hl => ?_)⟩
  have X : mm_C D dA lo cX7_tell RX7 4 p s m args c := X
  have hl : lv_has ls 4 [(0, .ref a0), (1, .int x1), (2, .int x2), (3, .int x3)] := hl
  refine lv_aload_n X.1 X.2.1 dX7_tell_0 rfl (lv_at hl 0 rfl) ?_
  refine lv_iload_n X.1 X.2.1 dX7_tell_1 rfl (lv_at hl 1 rfl) ?_
  refine mm_rpi X I fl_X7_16 dX7_tell_2 h (fun M H locs I h => ?_)
  refine lv_aload_n X.1 X.2.1 dX7_tell_5 rfl (lv_at hl 0 rfl) ?_
  refine lv_iload_n X.1 X.2.1 dX7_tell_6 rfl (lv_at hl 2 rfl) ?_
  refine mm_rpi X I fl_X7_20 dX7_tell_7 h (fun M H locs I h => ?_)
  refine lv_aload_n X.1 X.2.1 dX7_tell_10 rfl (lv_at hl 0 rfl) ?_
  refine lv_iload_n X.1 X.2.1 dX7_tell_11 rfl (lv_at hl 3 rfl) ?_
  refine mm_rpi X I fl_X7_23 dX7_tell_12 h (fun M H locs I h => ?_)
  refine lv_aload_n X.1 X.2.1 dX7_tell_15 rfl (lv_at hl 0 rfl) ?_
  refine mm_rgr X I fl_X7_10 dX7_tell_16 h (fun v1 h => ?_)
  refine lv_iconst (v := 0) X.1 X.2.1 dX7_tell_19 (by decide) ?_
  refine mm_rpi X I fl_X7_26 dX7_tell_20 h (fun M H locs I h => ?_)
  exact mm_xv X I hr hlk dX7_tell_23 h
set_option maxHeartbeats 4000000 in
set_option maxRecDepth 100000 in
theorem wpX8_append_l3 {p : Program} {l : Launch} {e : Env} {s : State} {m : MethodId} {args : Array Value} {below : List Frame} {meth : Method} {c : Code} {D : va_G} {dA : Nat → ClassId} {lo : Nat} (X : mm_C D dA lo cX8_append RX8 4 p s m args c) (hr : meth.sig.returnType = (some .boolean)) (hlk : meth.locks = false) (n : Nat) {o : Int32 × mm_M} (k : Nat) : ∀ (M : mm_M) (a0 : Nat) (x1 : Int32) (x2 : Int32) (H : Heap) (locs : List Loc) (ls : Array Slot), mm_I D dA lo s M H locs → lv_has ls 4 [(0, .ref a0), (1, .int x1), (2, .int x2)] → pX8_append_l3 n k M a0 x1 x2 = some o → W p l e (mm_rm 0 0 0 0) s m args below meth c H locs 0 0 (MQ below (mm_Q D dA lo (some (.int o.1)) o.2) args s 0 0 (mm_fr lo)) (F0 m 3 ls []) := by
  induction k with
  | zero =>
    intro M a0 x1 x2 H locs ls I hl h
    have h : (none : Option (Int32 × mm_M)) = some o := h
    cases h
  | succ k ih =>
    intro M a0 x1 x2 H locs ls I hl h
    have h : pX8_append_l3b n (pX8_append_l3 n k) M a0 x1 x2 = some o := h
    unfold pX8_append_l3b at h
    refine lv_iload_n X.1 X.2.1 dX8_append_3 rfl (lv_at hl 2 rfl) ?_
    refine mm_jlt (tgt := 59) X dX8_append_4 (by decide) h (fun h => ?_) (fun h => ?_)
    · refine lv_iconst (v := 1) X.1 X.2.1 dX8_append_59 (by decide) ?_
      exact mm_xz1 X I hr hlk dX8_append_60 h
    · refine lv_iload_n X.1 X.2.1 dX8_append_7 rfl (lv_at hl 1 rfl) ?_
      refine lv_iload_n X.1 X.2.1 dX8_append_8 rfl (lv_at hl 2 rfl) ?_
      refine lv_iushr (v := (mm_ushr x1 x2)) X.1 X.2.1 dX8_append_9 rfl ?_
      refine lv_sipush (v := 255) X.1 X.2.1 dX8_append_10 (by decide) ?_
      refine lv_iand X.1 X.2.1 dX8_append_13 ?_
      refine lv_istore_n (lv' := [(3, .int ((mm_ushr x1 x2) &&& 255)), (0, .ref a0), (1, .int x1), (2, .int x2)]) X.1 X.2.1 dX8_append_14 rfl hl (by decide) rfl (fun ls hl => ?_)
      refine lv_iload_n X.1 X.2.1 dX8_append_15 rfl (lv_at hl 0 rfl) ?_
      refine mm_jeq (tgt := 53) X dX8_append_16 (by decide) h (fun h => ?_) (fun h => ?_)
      · refine lv_iinc (v := (x2 + (-8))) (lv' := [(2, .int (x2 + (-8))), (3, .int ((mm_ushr x1 x2) &&& 255)), (0, .ref a0), (1, .int x1)]) X.1 X.2.1 dX8_append_53 hl (k := 3) rfl rfl (by decide) rfl (fun ls hl => ?_)
        refine lv_goto (tgt := 3) X.1 X.2.1 dX8_append_56 (by decide) ?_
        exact ih M _ _ _ _ _ _ I (lv_sub hl [2, 3, 0] rfl) h
      · refine lv_aload_n X.1 X.2.1 dX8_append_19 rfl (lv_at hl 1 rfl) ?_
        refine mm_rgi X I fl_X8_15 dX8_append_20 h (fun v1 h => ?_)
        refine lv_aload_n X.1 X.2.1 dX8_append_23 rfl (lv_at hl 1 rfl) ?_
        refine mm_rgr X I fl_X8_9 dX8_append_24 h (fun v2 h => ?_)
        refine mm_rlen X I dX8_append_27 h (fun v3 h => ?_)
        refine mm_klt (tgt := 33) X dX8_append_28 (by decide) h (fun h => ?_) (fun h => ?_)
        · refine lv_aload_n X.1 X.2.1 dX8_append_33 rfl (lv_at hl 1 rfl) ?_
          refine mm_rgr X I fl_X8_9 dX8_append_34 h (fun v4 h => ?_)
          refine lv_aload_n X.1 X.2.1 dX8_append_37 rfl (lv_at hl 1 rfl) ?_
          refine mm_rgi X I fl_X8_15 dX8_append_38 h (fun v5 h => ?_)
          refine lv_iload_n X.1 X.2.1 dX8_append_41 rfl (lv_at hl 0 rfl) ?_
          refine mm_ris X I dX8_append_42 h (fun M H locs I h => ?_)
          refine lv_aload_n X.1 X.2.1 dX8_append_43 rfl (lv_at hl 1 rfl) ?_
          refine lv_dup X.1 X.2.1 dX8_append_44 rfl ?_
          refine mm_rgi X I fl_X8_15 dX8_append_45 h (fun v6 h => ?_)
          refine lv_iconst (v := 1) X.1 X.2.1 dX8_append_48 (by decide) ?_
          refine lv_iadd X.1 X.2.1 dX8_append_49 ?_
          refine mm_rpi X I fl_X8_15 dX8_append_50 h (fun M H locs I h => ?_)
          refine lv_iinc (v := (x2 + (-8))) (lv' := [(2, .int (x2 + (-8))), (3, .int ((mm_ushr x1 x2) &&& 255)), (0, .ref a0), (1, .int x1)]) X.1 X.2.1 dX8_append_53 hl (k := 3) rfl rfl (by decide) rfl (fun ls hl => ?_)
          refine lv_goto (tgt := 3) X.1 X.2.1 dX8_append_56 (by decide) ?_
          exact ih M _ _ _ _ _ _ I (lv_sub hl [2, 3, 0] rfl) h
        · refine lv_iconst (v := 0) X.1 X.2.1 dX8_append_31 (by decide) ?_
          exact mm_xz0 X I hr hlk dX8_append_32 h
set_option maxHeartbeats 4000000 in
set_option maxRecDepth 100000 in
theorem kX8_append {l : Launch} {D : va_G} {dA : Nat → ClassId} {lo : Nat} {n : Nat} {M : mm_M} {a0 : Nat} {x1 : Int32} (o : Int32 × mm_M) (h : pX8_append n M a0 x1 = some o) : (∃ fs, M.2 a0 = some (mm_ob 8 fs)) ∧ mm_Met l D dA lo yX8_append cX8_append 4 (some .boolean) 0 0 0 0 [.ref a0, .int x1] M (some (.int o.1)) o.2 := by
  unfold pX8_append at h
  obtain ⟨hob, h⟩ := mm_v_some h
  refine ⟨hob, mm_enter (by decide) (Nat.le_of_ble_eq_true rfl) (fun p e s m args below meth c ls X hr hlk hnm I hl => ?_)⟩
  have X : mm_C D dA lo cX8_append RX8 4 p s m args c := X
  have hl : lv_has ls 4 [(0, .ref a0), (1, .int x1)] := hl
  refine lv_bipush (v := 24) X.1 X.2.1 dX8_append_0 (by decide) ?_
  refine lv_istore_n (lv' := [(2, .int 24), (0, .ref a0), (1, .int x1)]) X.1 X.2.1 dX8_append_2 rfl hl (by decide) rfl (fun ls hl => ?_)
  exact wpX8_append_l3 X hr hlk n  n M _ _ _ _ _ _ I (lv_sub hl [1, 2, 0] rfl) h
set_option maxHeartbeats 4000000 in
set_option maxRecDepth 100000 in
theorem wpX8_peek_b38 {p : Program} {l : Launch} {e : Env} {s : State} {m : MethodId} {args : Array Value} {below : List Frame} {meth : Method} {c : Code} {D : va_G} {dA : Nat → ClassId} {lo : Nat} (X : mm_C D dA lo cX8_peek RX8 1 p s m args c) (hr : meth.sig.returnType = (some .int)) (hlk : meth.locks = false) (n : Nat) {o : Int32 × mm_M}  : ∀ (M : mm_M) (a0 : Nat) (H : Heap) (locs : List Loc) (ls : Array Slot), mm_I D dA lo s M H locs → lv_has ls 1 [(0, .ref a0)] → pX8_peek_b38 n M a0 = some o → W p l e (mm_rm 0 0 0 0) s m args below meth c H locs 0 0 (MQ below (mm_Q D dA lo (some (.int o.1)) o.2) args s 0 0 (mm_fr lo)) (F0 m 38 ls []) := by
  intro M a0 H locs ls I hl h
  unfold pX8_peek_b38 at h
  refine lv_aload_n X.1 X.2.1 dX8_peek_38 rfl (lv_at hl 0 rfl) ?_
  refine mm_rgi X I fl_X8_19 dX8_peek_39 h (fun v1 h => ?_)
  refine lv_aload_n X.1 X.2.1 dX8_peek_42 rfl (lv_at hl 0 rfl) ?_
  refine mm_rgi X I fl_X8_15 dX8_peek_43 h (fun v2 h => ?_)
  refine mm_kge (tgt := 61) X dX8_peek_46 (by decide) h (fun h => ?_) (fun h => ?_)
  · refine lv_iconst (v := (-1)) X.1 X.2.1 dX8_peek_61 (by decide) ?_
    exact mm_xi X I hr hlk dX8_peek_62 h
  · refine lv_aload_n X.1 X.2.1 dX8_peek_49 rfl (lv_at hl 0 rfl) ?_
    refine mm_rgr X I fl_X8_9 dX8_peek_50 h (fun v3 h => ?_)
    refine lv_aload_n X.1 X.2.1 dX8_peek_53 rfl (lv_at hl 0 rfl) ?_
    refine mm_rgi X I fl_X8_19 dX8_peek_54 h (fun v4 h => ?_)
    refine mm_ria X I dX8_peek_57 h (fun v5 h => ?_)
    refine lv_goto (tgt := 62) X.1 X.2.1 dX8_peek_58 (by decide) ?_
    exact mm_xi X I hr hlk dX8_peek_62 h
set_option maxHeartbeats 4000000 in
set_option maxRecDepth 100000 in
theorem wpX8_peek_l0 {p : Program} {l : Launch} {e : Env} {s : State} {m : MethodId} {args : Array Value} {below : List Frame} {meth : Method} {c : Code} {D : va_G} {dA : Nat → ClassId} {lo : Nat} (X : mm_C D dA lo cX8_peek RX8 1 p s m args c) (hr : meth.sig.returnType = (some .int)) (hlk : meth.locks = false) (n : Nat) {o : Int32 × mm_M} (k : Nat) : ∀ (M : mm_M) (a0 : Nat) (H : Heap) (locs : List Loc) (ls : Array Slot), mm_I D dA lo s M H locs → lv_has ls 1 [(0, .ref a0)] → pX8_peek_l0 n k M a0 = some o → W p l e (mm_rm 0 0 0 0) s m args below meth c H locs 0 0 (MQ below (mm_Q D dA lo (some (.int o.1)) o.2) args s 0 0 (mm_fr lo)) (F0 m 0 ls []) := by
  induction k with
  | zero =>
    intro M a0 H locs ls I hl h
    have h : (none : Option (Int32 × mm_M)) = some o := h
    cases h
  | succ k ih =>
    intro M a0 H locs ls I hl h
    have h : pX8_peek_l0b n (pX8_peek_l0 n k) M a0 = some o := h
    unfold pX8_peek_l0b at h
    refine lv_aload_n X.1 X.2.1 dX8_peek_0 rfl (lv_at hl 0 rfl) ?_
    refine mm_rgi X I fl_X8_19 dX8_peek_1 h (fun v1 h => ?_)
    refine lv_aload_n X.1 X.2.1 dX8_peek_4 rfl (lv_at hl 0 rfl) ?_
    refine mm_rgi X I fl_X8_15 dX8_peek_5 h (fun v2 h => ?_)
    refine mm_kge (tgt := 38) X dX8_peek_8 (by decide) h (fun h => ?_) (fun h => ?_)
    · exact wpX8_peek_b38 X hr hlk n  M _ _ _ _ I (lv_sub hl [0] rfl) h
    · refine lv_aload_n X.1 X.2.1 dX8_peek_11 rfl (lv_at hl 0 rfl) ?_
      refine mm_rgr X I fl_X8_9 dX8_peek_12 h (fun v3 h => ?_)
      refine lv_aload_n X.1 X.2.1 dX8_peek_15 rfl (lv_at hl 0 rfl) ?_
      refine mm_rgi X I fl_X8_19 dX8_peek_16 h (fun v4 h => ?_)
      refine mm_ria X I dX8_peek_19 h (fun v5 h => ?_)
      refine lv_bipush (v := 32) X.1 X.2.1 dX8_peek_20 (by decide) ?_
      refine mm_kne (tgt := 38) X dX8_peek_22 (by decide) h (fun h => ?_) (fun h => ?_)
      · exact wpX8_peek_b38 X hr hlk n  M _ _ _ _ I (lv_sub hl [0] rfl) h
      · refine lv_aload_n X.1 X.2.1 dX8_peek_25 rfl (lv_at hl 0 rfl) ?_
        refine lv_dup X.1 X.2.1 dX8_peek_26 rfl ?_
        refine mm_rgi X I fl_X8_19 dX8_peek_27 h (fun v6 h => ?_)
        refine lv_iconst (v := 1) X.1 X.2.1 dX8_peek_30 (by decide) ?_
        refine lv_iadd X.1 X.2.1 dX8_peek_31 ?_
        refine mm_rpi X I fl_X8_19 dX8_peek_32 h (fun M H locs I h => ?_)
        refine lv_goto (tgt := 0) X.1 X.2.1 dX8_peek_35 (by decide) ?_
        exact ih M _ _ _ _ I (lv_sub hl [0] rfl) h
set_option maxHeartbeats 4000000 in
set_option maxRecDepth 100000 in
theorem kX8_peek {l : Launch} {D : va_G} {dA : Nat → ClassId} {lo : Nat} {n : Nat} {M : mm_M} {a0 : Nat} (o : Int32 × mm_M) (h : pX8_peek n M a0 = some o) : (∃ fs, M.2 a0 = some (mm_ob 8 fs)) ∧ mm_Met l D dA lo yX8_peek cX8_peek 1 (some .int) 0 0 0 0 [.ref a0] M (some (.int o.1)) o.2 := by
  unfold pX8_peek at h
  obtain ⟨hob, h⟩ := mm_v_some h
  refine ⟨hob, mm_enter (by decide) (Nat.le_of_ble_eq_true rfl) (fun p e s m args below meth c ls X hr hlk hnm I hl => ?_)⟩
  have X : mm_C D dA lo cX8_peek RX8 1 p s m args c := X
  have hl : lv_has ls 1 [(0, .ref a0)] := hl
  exact wpX8_peek_l0 X hr hlk n  n M _ _ _ _ I (lv_sub hl [0] rfl) h
set_option maxHeartbeats 4000000 in
set_option maxRecDepth 100000 in
theorem kX8_isSign {l : Launch} {D : va_G} {dA : Nat → ClassId} {lo : Nat} {n : Nat} {M : mm_M} {x0 : Int32} (o : Int32 × mm_M) (h : pX8_isSign n M x0 = some o) : mm_Met l D dA lo yX8_isSign cX8_isSign 1 (some .boolean) 0 0 0 0 [.int x0] M (some (.int o.1)) o.2 := by
  unfold pX8_isSign at h
  refine mm_enter (by decide) (Nat.le_of_ble_eq_true rfl) (fun p e s m args below meth c ls X hr hlk hnm I hl => ?_)
  have X : mm_C D dA lo cX8_isSign RX8 1 p s m args c := X
  have hl : lv_has ls 1 [(0, .int x0)] := hl
  refine lv_iload_n X.1 X.2.1 dX8_isSign_0 rfl (lv_at hl 0 rfl) ?_
  refine lv_bipush (v := 95) X.1 X.2.1 dX8_isSign_1 (by decide) ?_
  refine mm_keq (tgt := 18) X dX8_isSign_3 (by decide) h (fun h => ?_) (fun h => ?_)
  · refine lv_iconst (v := 1) X.1 X.2.1 dX8_isSign_18 (by decide) ?_
    refine lv_goto (tgt := 23) X.1 X.2.1 dX8_isSign_19 (by decide) ?_
    exact mm_xz1 X I hr hlk dX8_isSign_23 h
  · refine lv_iload_n X.1 X.2.1 dX8_isSign_6 rfl (lv_at hl 0 rfl) ?_
    refine lv_bipush (v := 97) X.1 X.2.1 dX8_isSign_7 (by decide) ?_
    refine mm_klt (tgt := 22) X dX8_isSign_9 (by decide) h (fun h => ?_) (fun h => ?_)
    · refine lv_iconst (v := 0) X.1 X.2.1 dX8_isSign_22 (by decide) ?_
      exact mm_xz0 X I hr hlk dX8_isSign_23 h
    · refine lv_iload_n X.1 X.2.1 dX8_isSign_12 rfl (lv_at hl 0 rfl) ?_
      refine lv_bipush (v := 122) X.1 X.2.1 dX8_isSign_13 (by decide) ?_
      refine mm_kgt (tgt := 22) X dX8_isSign_15 (by decide) h (fun h => ?_) (fun h => ?_)
      · refine lv_iconst (v := 0) X.1 X.2.1 dX8_isSign_22 (by decide) ?_
        exact mm_xz0 X I hr hlk dX8_isSign_23 h
      · refine lv_iconst (v := 1) X.1 X.2.1 dX8_isSign_18 (by decide) ?_
        refine lv_goto (tgt := 23) X.1 X.2.1 dX8_isSign_19 (by decide) ?_
        exact mm_xz1 X I hr hlk dX8_isSign_23 h
set_option maxHeartbeats 4000000 in
set_option maxRecDepth 100000 in
theorem wpX8_readSigns_b46 {p : Program} {l : Launch} {e : Env} {s : State} {m : MethodId} {args : Array Value} {below : List Frame} {meth : Method} {c : Code} {D : va_G} {dA : Nat → ClassId} {lo : Nat} (X : mm_C D dA lo cX8_readSigns RX8 4 p s m args c) (hr : meth.sig.returnType = (some .boolean)) (hlk : meth.locks = false) (n : Nat) {o : Int32 × mm_M}  : ∀ (M : mm_M) (a1 : Nat) (H : Heap) (locs : List Loc) (ls : Array Slot), mm_I D dA lo s M H locs → lv_has ls 4 [(1, .ref a1)] → pX8_readSigns_b46 n M a1 = some o → W p l e (mm_rm 1 21 0 0) s m args below meth c H locs 0 0 (MQ below (mm_Q D dA lo (some (.int o.1)) o.2) args s 0 0 (mm_fr lo)) (F0 m 46 ls []) := by
  intro M a1 H locs ls I hl h
  unfold pX8_readSigns_b46 at h
  refine lv_aload_n X.1 X.2.1 dX8_readSigns_46 rfl (lv_at hl 0 rfl) ?_
  refine mm_rgi X I fl_X8_85 dX8_readSigns_47 h (fun v1 h => ?_)
  refine mm_jle (tgt := 57) X dX8_readSigns_50 (by decide) h (fun h => ?_) (fun h => ?_)
  · refine lv_iconst (v := 0) X.1 X.2.1 dX8_readSigns_57 (by decide) ?_
    exact mm_xz0 X I hr hlk dX8_readSigns_58 h
  · refine lv_iconst (v := 1) X.1 X.2.1 dX8_readSigns_53 (by decide) ?_
    refine lv_goto (tgt := 58) X.1 X.2.1 dX8_readSigns_54 (by decide) ?_
    exact mm_xz1 X I hr hlk dX8_readSigns_58 h
set_option maxHeartbeats 4000000 in
set_option maxRecDepth 100000 in
theorem wpX8_readSigns_l7 {p : Program} {l : Launch} {e : Env} {s : State} {m : MethodId} {args : Array Value} {below : List Frame} {meth : Method} {c : Code} {D : va_G} {dA : Nat → ClassId} {lo : Nat} (X : mm_C D dA lo cX8_readSigns RX8 4 p s m args c) (hr : meth.sig.returnType = (some .boolean)) (hlk : meth.locks = false) (n : Nat) {o : Int32 × mm_M} (k : Nat) : ∀ (M : mm_M) (a0 : Nat) (a1 : Nat) (x2 : Int32) (x3 : Int32) (H : Heap) (locs : List Loc) (ls : Array Slot), mm_I D dA lo s M H locs → lv_has ls 4 [(0, .ref a0), (1, .ref a1), (2, .int x2), (3, .int x3)] → pX8_readSigns_l7 n k M a0 a1 x2 x3 = some o → W p l e (mm_rm 1 21 0 0) s m args below meth c H locs 0 0 (MQ below (mm_Q D dA lo (some (.int o.1)) o.2) args s 0 0 (mm_fr lo)) (F0 m 7 ls []) := by
  induction k with
  | zero =>
    intro M a0 a1 x2 x3 H locs ls I hl h
    have h : (none : Option (Int32 × mm_M)) = some o := h
    cases h
  | succ k ih =>
    intro M a0 a1 x2 x3 H locs ls I hl h
    have h : pX8_readSigns_l7b n (pX8_readSigns_l7 n k) M a0 a1 x2 x3 = some o := h
    unfold pX8_readSigns_l7b at h
    refine lv_iload_n X.1 X.2.1 dX8_readSigns_7 rfl (lv_at hl 3 rfl) ?_
    refine lv_iload_n X.1 X.2.1 dX8_readSigns_8 rfl (lv_at hl 2 rfl) ?_
    refine mm_kge (tgt := 46) X dX8_readSigns_9 (by decide) h (fun h => ?_) (fun h => ?_)
    · exact wpX8_readSigns_b46 X hr hlk n  M _ _ _ _ I (lv_sub hl [1] rfl) h
    · refine lv_aload_n X.1 X.2.1 dX8_readSigns_12 rfl (lv_at hl 0 rfl) ?_
      refine mm_cVi X I hl (As := []) (ci := 8) md_X8_peek mv_X8_peek ml_X8_26 rfl (kX8_peek (n := n)) (by decide) ⟨Nat.le_refl 0, Nat.le_refl 0⟩ rfl rfl (Nat.le_of_ble_eq_true rfl) dX8_readSigns_13 h (fun v1 M H locs I h => ?_)
      refine mm_cSi X I hl (As := [.int v1]) md_X8_isSign mv_X8_isSign ml_X8_88 (kX8_isSign (n := n)) (by decide) ⟨Nat.le_refl 0, Nat.le_refl 0⟩ rfl rfl (Nat.le_of_ble_eq_true rfl) dX8_readSigns_16 h (fun v2 M H locs I h => ?_)
      refine mm_jeq (tgt := 46) X dX8_readSigns_19 (by decide) h (fun h => ?_) (fun h => ?_)
      · exact wpX8_readSigns_b46 X hr hlk n  M _ _ _ _ I (lv_sub hl [1] rfl) h
      · refine lv_aload_n X.1 X.2.1 dX8_readSigns_22 rfl (lv_at hl 1 rfl) ?_
        refine lv_aload_n X.1 X.2.1 dX8_readSigns_23 rfl (lv_at hl 0 rfl) ?_
        refine mm_cVi X I hl (As := []) (ci := 8) md_X8_peek mv_X8_peek ml_X8_26 rfl (kX8_peek (n := n)) (by decide) ⟨Nat.le_refl 0, Nat.le_refl 0⟩ rfl rfl (Nat.le_of_ble_eq_true rfl) dX8_readSigns_24 h (fun v3 M H locs I h => ?_)
        refine mm_cVv X I hl (As := [.int v3]) (ci := 5) md_X5_add mv_X5_add ml_X8_91 rfl (kX5_add (n := n)) (by decide) ⟨Nat.le_refl 0, Nat.le_refl 0⟩ rfl rfl (Nat.le_of_ble_eq_true rfl) dX8_readSigns_27 h (fun M H locs I h => ?_)
        refine lv_aload_n X.1 X.2.1 dX8_readSigns_30 rfl (lv_at hl 0 rfl) ?_
        refine lv_dup X.1 X.2.1 dX8_readSigns_31 rfl ?_
        refine mm_rgi X I fl_X8_19 dX8_readSigns_32 h (fun v5 h => ?_)
        refine lv_iconst (v := 1) X.1 X.2.1 dX8_readSigns_35 (by decide) ?_
        refine lv_iadd X.1 X.2.1 dX8_readSigns_36 ?_
        refine mm_rpi X I fl_X8_19 dX8_readSigns_37 h (fun M H locs I h => ?_)
        refine lv_iinc (v := (x3 + 1)) (lv' := [(3, .int (x3 + 1)), (0, .ref a0), (1, .ref a1), (2, .int x2)]) X.1 X.2.1 dX8_readSigns_40 hl (k := 3) rfl rfl (by decide) rfl (fun ls hl => ?_)
        refine lv_goto (tgt := 7) X.1 X.2.1 dX8_readSigns_43 (by decide) ?_
        exact ih M _ _ _ _ _ _ _ I (lv_sub hl [1, 2, 3, 0] rfl) h
set_option maxHeartbeats 4000000 in
set_option maxRecDepth 100000 in
theorem kX8_readSigns {l : Launch} {D : va_G} {dA : Nat → ClassId} {lo : Nat} {n : Nat} {M : mm_M} {a0 : Nat} {a1 : Nat} {x2 : Int32} (o : Int32 × mm_M) (h : pX8_readSigns n M a0 a1 x2 = some o) : (∃ fs, M.2 a0 = some (mm_ob 8 fs)) ∧ mm_Met l D dA lo yX8_readSigns cX8_readSigns 4 (some .boolean) 1 21 0 0 [.ref a0, .ref a1, .int x2] M (some (.int o.1)) o.2 := by
  unfold pX8_readSigns at h
  obtain ⟨hob, h⟩ := mm_v_some h
  refine ⟨hob, mm_enter (by decide) (Nat.le_of_ble_eq_true rfl) (fun p e s m args below meth c ls X hr hlk hnm I hl => ?_)⟩
  have X : mm_C D dA lo cX8_readSigns RX8 4 p s m args c := X
  have hl : lv_has ls 4 [(0, .ref a0), (1, .ref a1), (2, .int x2)] := hl
  refine lv_aload_n X.1 X.2.1 dX8_readSigns_0 rfl (lv_at hl 1 rfl) ?_
  refine lv_iconst (v := 0) X.1 X.2.1 dX8_readSigns_1 (by decide) ?_
  refine mm_rpi X I fl_X8_85 dX8_readSigns_2 h (fun M H locs I h => ?_)
  refine lv_iconst (v := 0) X.1 X.2.1 dX8_readSigns_5 (by decide) ?_
  refine lv_istore_n (lv' := [(3, .int 0), (0, .ref a0), (1, .ref a1), (2, .int x2)]) X.1 X.2.1 dX8_readSigns_6 rfl hl (by decide) rfl (fun ls hl => ?_)
  exact wpX8_readSigns_l7 X hr hlk n  n M _ _ _ _ _ _ _ I (lv_sub hl [1, 2, 3, 0] rfl) h
set_option maxHeartbeats 4000000 in
set_option maxRecDepth 100000 in
theorem kX8_rowFault {l : Launch} {D : va_G} {dA : Nat → ClassId} {lo : Nat} {n : Nat} {M : mm_M} {a0 : Nat} {a1 : Nat} {x2 : Int32} (o : Int32 × mm_M) (h : pX8_rowFault n M a0 a1 x2 = some o) : (∃ fs, M.2 a0 = some (mm_ob 8 fs)) ∧ mm_Met l D dA lo yX8_rowFault cX8_rowFault 3 (some .int) 2 44 0 0 [.ref a0, .ref a1, .int x2] M (some (.int o.1)) o.2 := by
  unfold pX8_rowFault at h
  obtain ⟨hob, h⟩ := mm_v_some h
  refine ⟨hob, mm_enter (by decide) (Nat.le_of_ble_eq_true rfl) (fun p e s m args below meth c ls X hr hlk hnm I hl => ?_)⟩
  have X : mm_C D dA lo cX8_rowFault RX8 3 p s m args c := X
  have hl : lv_has ls 3 [(0, .ref a0), (1, .ref a1), (2, .int x2)] := hl
  refine lv_aload_n X.1 X.2.1 dX8_rowFault_0 rfl (lv_at hl 0 rfl) ?_
  refine lv_iconst (v := 0) X.1 X.2.1 dX8_rowFault_1 (by decide) ?_
  refine mm_rpi X I fl_X8_19 dX8_rowFault_2 h (fun M H locs I h => ?_)
  refine lv_aload_n X.1 X.2.1 dX8_rowFault_5 rfl (lv_at hl 0 rfl) ?_
  refine lv_aload_n X.1 X.2.1 dX8_rowFault_6 rfl (lv_at hl 1 rfl) ?_
  refine lv_iload_n X.1 X.2.1 dX8_rowFault_7 rfl (lv_at hl 2 rfl) ?_
  refine mm_cVi X I hl (As := [.ref a1, .int x2]) (ci := 8) md_X8_readSigns mv_X8_readSigns ml_X8_22 rfl (kX8_readSigns (n := n)) (by decide) ⟨Nat.le_refl 0, Nat.le_refl 0⟩ rfl rfl (Nat.le_of_ble_eq_true rfl) dX8_rowFault_8 h (fun v1 M H locs I h => ?_)
  refine mm_jeq (tgt := 26) X dX8_rowFault_11 (by decide) h (fun h => ?_) (fun h => ?_)
  · refine lv_aload_n X.1 X.2.1 dX8_rowFault_26 rfl (lv_at hl 0 rfl) ?_
    refine mm_rgi X I fl_X8_19 dX8_rowFault_27 h (fun v2 h => ?_)
    exact mm_xi X I hr hlk dX8_rowFault_30 h
  · refine lv_aload_n X.1 X.2.1 dX8_rowFault_14 rfl (lv_at hl 0 rfl) ?_
    refine mm_cVi X I hl (As := []) (ci := 8) md_X8_peek mv_X8_peek ml_X8_26 rfl (kX8_peek (n := n)) (by decide) ⟨Nat.le_refl 0, Nat.le_refl 0⟩ rfl rfl (Nat.le_of_ble_eq_true rfl) dX8_rowFault_15 h (fun v3 M H locs I h => ?_)
    refine lv_iconst (v := (-1)) X.1 X.2.1 dX8_rowFault_18 (by decide) ?_
    refine mm_kne (tgt := 26) X dX8_rowFault_19 (by decide) h (fun h => ?_) (fun h => ?_)
    · refine lv_aload_n X.1 X.2.1 dX8_rowFault_26 rfl (lv_at hl 0 rfl) ?_
      refine mm_rgi X I fl_X8_19 dX8_rowFault_27 h (fun v4 h => ?_)
      exact mm_xi X I hr hlk dX8_rowFault_30 h
    · refine lv_iconst (v := (-1)) X.1 X.2.1 dX8_rowFault_22 (by decide) ?_
      refine lv_goto (tgt := 30) X.1 X.2.1 dX8_rowFault_23 (by decide) ?_
      exact mm_xi X I hr hlk dX8_rowFault_30 h
set_option maxHeartbeats 4000000 in
set_option maxRecDepth 100000 in
theorem kX8_skip {l : Launch} {D : va_G} {dA : Nat → ClassId} {lo : Nat} {n : Nat} {M : mm_M} {a0 : Nat} {x1 : Int32} (o : Int32 × mm_M) (h : pX8_skip n M a0 x1 = some o) : (∃ fs, M.2 a0 = some (mm_ob 8 fs)) ∧ mm_Met l D dA lo yX8_skip cX8_skip 2 (some .boolean) 1 20 0 0 [.ref a0, .int x1] M (some (.int o.1)) o.2 := by
  unfold pX8_skip at h
  obtain ⟨hob, h⟩ := mm_v_some h
  refine ⟨hob, mm_enter (by decide) (Nat.le_of_ble_eq_true rfl) (fun p e s m args below meth c ls X hr hlk hnm I hl => ?_)⟩
  have X : mm_C D dA lo cX8_skip RX8 2 p s m args c := X
  have hl : lv_has ls 2 [(0, .ref a0), (1, .int x1)] := hl
  refine lv_aload_n X.1 X.2.1 dX8_skip_0 rfl (lv_at hl 0 rfl) ?_
  refine mm_cVi X I hl (As := []) (ci := 8) md_X8_peek mv_X8_peek ml_X8_26 rfl (kX8_peek (n := n)) (by decide) ⟨Nat.le_refl 0, Nat.le_refl 0⟩ rfl rfl (Nat.le_of_ble_eq_true rfl) dX8_skip_1 h (fun v1 M H locs I h => ?_)
  refine lv_iload_n X.1 X.2.1 dX8_skip_4 rfl (lv_at hl 1 rfl) ?_
  refine mm_keq (tgt := 10) X dX8_skip_5 (by decide) h (fun h => ?_) (fun h => ?_)
  · refine lv_aload_n X.1 X.2.1 dX8_skip_10 rfl (lv_at hl 0 rfl) ?_
    refine lv_dup X.1 X.2.1 dX8_skip_11 rfl ?_
    refine mm_rgi X I fl_X8_19 dX8_skip_12 h (fun v2 h => ?_)
    refine lv_iconst (v := 1) X.1 X.2.1 dX8_skip_15 (by decide) ?_
    refine lv_iadd X.1 X.2.1 dX8_skip_16 ?_
    refine mm_rpi X I fl_X8_19 dX8_skip_17 h (fun M H locs I h => ?_)
    refine lv_iconst (v := 1) X.1 X.2.1 dX8_skip_20 (by decide) ?_
    exact mm_xz1 X I hr hlk dX8_skip_21 h
  · refine lv_iconst (v := 0) X.1 X.2.1 dX8_skip_8 (by decide) ?_
    exact mm_xz0 X I hr hlk dX8_skip_9 h
set_option maxHeartbeats 4000000 in
set_option maxRecDepth 100000 in
theorem wpX8_storeFault_l11 {p : Program} {l : Launch} {e : Env} {s : State} {m : MethodId} {args : Array Value} {below : List Frame} {meth : Method} {c : Code} {D : va_G} {dA : Nat → ClassId} {lo : Nat} (X : mm_C D dA lo cX8_storeFault RX8 3 p s m args c) (hr : meth.sig.returnType = (some .int)) (hlk : meth.locks = false) (n : Nat) {o : Int32 × mm_M} (k : Nat) : ∀ (M : mm_M) (a0 : Nat) (a1 : Nat) (x2 : Int32) (H : Heap) (locs : List Loc) (ls : Array Slot), mm_I D dA lo s M H locs → lv_has ls 3 [(0, .ref a0), (1, .ref a1), (2, .int x2)] → pX8_storeFault_l11 n k M a0 a1 x2 = some o → W p l e (mm_rm 2 44 0 0) s m args below meth c H locs 0 0 (MQ below (mm_Q D dA lo (some (.int o.1)) o.2) args s 0 0 (mm_fr lo)) (F0 m 11 ls []) := by
  induction k with
  | zero =>
    intro M a0 a1 x2 H locs ls I hl h
    have h : (none : Option (Int32 × mm_M)) = some o := h
    cases h
  | succ k ih =>
    intro M a0 a1 x2 H locs ls I hl h
    have h : pX8_storeFault_l11b n (pX8_storeFault_l11 n k) M a0 a1 x2 = some o := h
    unfold pX8_storeFault_l11b at h
    refine lv_iload_n X.1 X.2.1 dX8_storeFault_11 rfl (lv_at hl 2 rfl) ?_
    refine lv_bipush (v := 8) X.1 X.2.1 dX8_storeFault_12 (by decide) ?_
    refine mm_kge (tgt := 77) X dX8_storeFault_14 (by decide) h (fun h => ?_) (fun h => ?_)
    · refine lv_aload_n X.1 X.2.1 dX8_storeFault_77 rfl (lv_at hl 0 rfl) ?_
      refine mm_rgi X I fl_X8_19 dX8_storeFault_78 h (fun v1 h => ?_)
      exact mm_xi X I hr hlk dX8_storeFault_81 h
    · refine lv_aload_n X.1 X.2.1 dX8_storeFault_17 rfl (lv_at hl 0 rfl) ?_
      refine lv_aload_n X.1 X.2.1 dX8_storeFault_18 rfl (lv_at hl 1 rfl) ?_
      refine lv_iload_n X.1 X.2.1 dX8_storeFault_19 rfl (lv_at hl 2 rfl) ?_
      refine mm_cVr X I hl (As := [.int x2]) (ci := 6) md_X6_open mv_X6_open ml_X8_35 rfl (kX6_open (n := n)) (by decide) ⟨Nat.le_refl 0, Nat.le_refl 0⟩ rfl rfl (Nat.le_of_ble_eq_true rfl) dX8_storeFault_20 h (fun v2 M H locs I h => ?_)
      refine mm_rgr X I fl_X8_39 dX8_storeFault_23 h (fun v3 h => ?_)
      refine lv_bipush (v := 20) X.1 X.2.1 dX8_storeFault_26 (by decide) ?_
      refine mm_cVi X I hl (As := [.ref v3, .int 20]) (ci := 8) md_X8_readSigns mv_X8_readSigns ml_X8_22 rfl (kX8_readSigns (n := n)) (by decide) ⟨Nat.le_refl 0, Nat.le_refl 0⟩ rfl rfl (Nat.le_of_ble_eq_true rfl) dX8_storeFault_28 h (fun v4 M H locs I h => ?_)
      refine mm_jne (tgt := 39) X dX8_storeFault_31 (by decide) h (fun h => ?_) (fun h => ?_)
      · refine lv_aload_n X.1 X.2.1 dX8_storeFault_39 rfl (lv_at hl 0 rfl) ?_
        refine mm_cVi X I hl (As := []) (ci := 8) md_X8_peek mv_X8_peek ml_X8_26 rfl (kX8_peek (n := n)) (by decide) ⟨Nat.le_refl 0, Nat.le_refl 0⟩ rfl rfl (Nat.le_of_ble_eq_true rfl) dX8_storeFault_40 h (fun v5 M H locs I h => ?_)
        refine lv_iconst (v := (-1)) X.1 X.2.1 dX8_storeFault_43 (by decide) ?_
        refine mm_kne (tgt := 49) X dX8_storeFault_44 (by decide) h (fun h => ?_) (fun h => ?_)
        · refine lv_iload_n X.1 X.2.1 dX8_storeFault_49 rfl (lv_at hl 2 rfl) ?_
          refine lv_iconst (v := 1) X.1 X.2.1 dX8_storeFault_50 (by decide) ?_
          refine lv_iadd X.1 X.2.1 dX8_storeFault_51 ?_
          refine lv_bipush (v := 8) X.1 X.2.1 dX8_storeFault_52 (by decide) ?_
          refine mm_keq (tgt := 66) X dX8_storeFault_54 (by decide) h (fun h => ?_) (fun h => ?_)
          · refine lv_aload_n X.1 X.2.1 dX8_storeFault_66 rfl (lv_at hl 0 rfl) ?_
            refine mm_rgi X I fl_X8_19 dX8_storeFault_67 h (fun v6 h => ?_)
            exact mm_xi X I hr hlk dX8_storeFault_70 h
          · refine lv_aload_n X.1 X.2.1 dX8_storeFault_57 rfl (lv_at hl 0 rfl) ?_
            refine lv_bipush (v := 59) X.1 X.2.1 dX8_storeFault_58 (by decide) ?_
            refine mm_cVi X I hl (As := [.int 59]) (ci := 8) md_X8_skip mv_X8_skip ml_X8_45 rfl (kX8_skip (n := n)) (by decide) ⟨Nat.le_refl 0, Nat.le_refl 0⟩ rfl rfl (Nat.le_of_ble_eq_true rfl) dX8_storeFault_60 h (fun v7 M H locs I h => ?_)
            refine mm_jne (tgt := 71) X dX8_storeFault_63 (by decide) h (fun h => ?_) (fun h => ?_)
            · refine lv_iinc (v := (x2 + 1)) (lv' := [(2, .int (x2 + 1)), (0, .ref a0), (1, .ref a1)]) X.1 X.2.1 dX8_storeFault_71 hl (k := 2) rfl rfl (by decide) rfl (fun ls hl => ?_)
              refine lv_goto (tgt := 11) X.1 X.2.1 dX8_storeFault_74 (by decide) ?_
              exact ih M _ _ _ _ _ _ I (lv_sub hl [1, 2, 0] rfl) h
            · refine lv_aload_n X.1 X.2.1 dX8_storeFault_66 rfl (lv_at hl 0 rfl) ?_
              refine mm_rgi X I fl_X8_19 dX8_storeFault_67 h (fun v8 h => ?_)
              exact mm_xi X I hr hlk dX8_storeFault_70 h
        · refine lv_iconst (v := (-1)) X.1 X.2.1 dX8_storeFault_47 (by decide) ?_
          exact mm_xi X I hr hlk dX8_storeFault_48 h
      · refine lv_aload_n X.1 X.2.1 dX8_storeFault_34 rfl (lv_at hl 0 rfl) ?_
        refine mm_rgi X I fl_X8_19 dX8_storeFault_35 h (fun v9 h => ?_)
        exact mm_xi X I hr hlk dX8_storeFault_38 h
set_option maxHeartbeats 4000000 in
set_option maxRecDepth 100000 in
theorem kX8_storeFault {l : Launch} {D : va_G} {dA : Nat → ClassId} {lo : Nat} {n : Nat} {M : mm_M} {a0 : Nat} {a1 : Nat} (o : Int32 × mm_M) (h : pX8_storeFault n M a0 a1 = some o) : (∃ fs, M.2 a0 = some (mm_ob 8 fs)) ∧ mm_Met l D dA lo yX8_storeFault cX8_storeFault 3 (some .int) 2 44 0 0 [.ref a0, .ref a1] M (some (.int o.1)) o.2 := by
  unfold pX8_storeFault at h
  obtain ⟨hob, h⟩ := mm_v_some h
  refine ⟨hob, mm_enter (by decide) (Nat.le_of_ble_eq_true rfl) (fun p e s m args below meth c ls X hr hlk hnm I hl => ?_)⟩
  have X : mm_C D dA lo cX8_storeFault RX8 3 p s m args c := X
  have hl : lv_has ls 3 [(0, .ref a0), (1, .ref a1)] := hl
  refine lv_aload_n X.1 X.2.1 dX8_storeFault_0 rfl (lv_at hl 0 rfl) ?_
  refine lv_iconst (v := 0) X.1 X.2.1 dX8_storeFault_1 (by decide) ?_
  refine mm_rpi X I fl_X8_19 dX8_storeFault_2 h (fun M H locs I h => ?_)
  refine lv_aload_n X.1 X.2.1 dX8_storeFault_5 rfl (lv_at hl 1 rfl) ?_
  refine mm_cVv X I hl (As := []) (ci := 6) md_X6_empty mv_X6_empty ml_X8_30 rfl (kX6_empty (n := n)) (by decide) ⟨Nat.le_refl 0, Nat.le_refl 0⟩ rfl rfl (Nat.le_of_ble_eq_true rfl) dX8_storeFault_6 h (fun M H locs I h => ?_)
  refine lv_iconst (v := 0) X.1 X.2.1 dX8_storeFault_9 (by decide) ?_
  refine lv_istore_n (lv' := [(2, .int 0), (0, .ref a0), (1, .ref a1)]) X.1 X.2.1 dX8_storeFault_10 rfl hl (by decide) rfl (fun ls hl => ?_)
  exact wpX8_storeFault_l11 X hr hlk n  n M _ _ _ _ _ _ I (lv_sub hl [1, 2, 0] rfl) h
set_option maxHeartbeats 4000000 in
set_option maxRecDepth 100000 in
theorem kX8_sortOf {l : Launch} {D : va_G} {dA : Nat → ClassId} {lo : Nat} {n : Nat} {M : mm_M} {x0 : Int32} (o : Int32 × mm_M) (h : pX8_sortOf n M x0 = some o) : mm_Met l D dA lo yX8_sortOf cX8_sortOf 1 (some .int) 0 0 0 0 [.int x0] M (some (.int o.1)) o.2 := by
  unfold pX8_sortOf at h
  refine mm_enter (by decide) (Nat.le_of_ble_eq_true rfl) (fun p e s m args below meth c ls X hr hlk hnm I hl => ?_)
  have X : mm_C D dA lo cX8_sortOf RX8 1 p s m args c := X
  have hl : lv_has ls 1 [(0, .int x0)] := hl
  refine lv_iload_n X.1 X.2.1 dX8_sortOf_0 rfl (lv_at hl 0 rfl) ?_
  by_cases z1_0 : x0 = 98
  · have h := mm_t z1_0 h
    refine lv_tableIn (tgt := 119) (off := 118) X.1 X.2.1 dX8_sortOf_1 (by rw [z1_0]; decide) (by rw [z1_0]; decide) (by rw [z1_0]; rfl) (by decide) ?_
    refine lv_bipush (v := 7) X.1 X.2.1 dX8_sortOf_119 (by decide) ?_
    exact mm_xi X I hr hlk dX8_sortOf_121 h
  · have h := mm_f z1_0 h
    by_cases z1_1 : x0 = 99
    · have h := mm_t z1_1 h
      refine lv_tableIn (tgt := 112) (off := 111) X.1 X.2.1 dX8_sortOf_1 (by rw [z1_1]; decide) (by rw [z1_1]; decide) (by rw [z1_1]; rfl) (by decide) ?_
      refine lv_iconst (v := 4) X.1 X.2.1 dX8_sortOf_112 (by decide) ?_
      exact mm_xi X I hr hlk dX8_sortOf_113 h
    · have h := mm_f z1_1 h
      by_cases z1_2 : x0 = 100
      · have h := mm_t z1_2 h
        refine lv_tableIn (tgt := 108) (off := 107) X.1 X.2.1 dX8_sortOf_1 (by rw [z1_2]; decide) (by rw [z1_2]; decide) (by rw [z1_2]; rfl) (by decide) ?_
        refine lv_iconst (v := 2) X.1 X.2.1 dX8_sortOf_108 (by decide) ?_
        exact mm_xi X I hr hlk dX8_sortOf_109 h
      · have h := mm_f z1_2 h
        by_cases z1_7 : x0 = 105
        · have h := mm_t z1_7 h
          refine lv_tableIn (tgt := 106) (off := 105) X.1 X.2.1 dX8_sortOf_1 (by rw [z1_7]; decide) (by rw [z1_7]; decide) (by rw [z1_7]; rfl) (by decide) ?_
          refine lv_iconst (v := 1) X.1 X.2.1 dX8_sortOf_106 (by decide) ?_
          exact mm_xi X I hr hlk dX8_sortOf_107 h
        · have h := mm_f z1_7 h
          by_cases z1_8 : x0 = 106
          · have h := mm_t z1_8 h
            refine lv_tableIn (tgt := 122) (off := 121) X.1 X.2.1 dX8_sortOf_1 (by rw [z1_8]; decide) (by rw [z1_8]; decide) (by rw [z1_8]; rfl) (by decide) ?_
            refine lv_bipush (v := 8) X.1 X.2.1 dX8_sortOf_122 (by decide) ?_
            exact mm_xi X I hr hlk dX8_sortOf_124 h
          · have h := mm_f z1_8 h
            by_cases z1_14 : x0 = 112
            · have h := mm_t z1_14 h
              refine lv_tableIn (tgt := 114) (off := 113) X.1 X.2.1 dX8_sortOf_1 (by rw [z1_14]; decide) (by rw [z1_14]; decide) (by rw [z1_14]; rfl) (by decide) ?_
              refine lv_iconst (v := 5) X.1 X.2.1 dX8_sortOf_114 (by decide) ?_
              exact mm_xi X I hr hlk dX8_sortOf_115 h
            · have h := mm_f z1_14 h
              by_cases z1_16 : x0 = 114
              · have h := mm_t z1_16 h
                refine lv_tableIn (tgt := 104) (off := 103) X.1 X.2.1 dX8_sortOf_1 (by rw [z1_16]; decide) (by rw [z1_16]; decide) (by rw [z1_16]; rfl) (by decide) ?_
                refine lv_iconst (v := 0) X.1 X.2.1 dX8_sortOf_104 (by decide) ?_
                exact mm_xi X I hr hlk dX8_sortOf_105 h
              · have h := mm_f z1_16 h
                by_cases z1_17 : x0 = 115
                · have h := mm_t z1_17 h
                  refine lv_tableIn (tgt := 110) (off := 109) X.1 X.2.1 dX8_sortOf_1 (by rw [z1_17]; decide) (by rw [z1_17]; decide) (by rw [z1_17]; rfl) (by decide) ?_
                  refine lv_iconst (v := 3) X.1 X.2.1 dX8_sortOf_110 (by decide) ?_
                  exact mm_xi X I hr hlk dX8_sortOf_111 h
                · have h := mm_f z1_17 h
                  by_cases z1_21 : x0 = 119
                  · have h := mm_t z1_21 h
                    refine lv_tableIn (tgt := 116) (off := 115) X.1 X.2.1 dX8_sortOf_1 (by rw [z1_21]; decide) (by rw [z1_21]; decide) (by rw [z1_21]; rfl) (by decide) ?_
                    refine lv_bipush (v := 6) X.1 X.2.1 dX8_sortOf_116 (by decide) ?_
                    exact mm_xi X I hr hlk dX8_sortOf_118 h
                  · have h := mm_f z1_21 h
                    have z1_q0 : ¬ Int32.toInt x0 = 98 := fun q => z1_0 (Int32.toInt_inj.mp q)
                    have z1_q1 : ¬ Int32.toInt x0 = 99 := fun q => z1_1 (Int32.toInt_inj.mp q)
                    have z1_q2 : ¬ Int32.toInt x0 = 100 := fun q => z1_2 (Int32.toInt_inj.mp q)
                    have z1_q7 : ¬ Int32.toInt x0 = 105 := fun q => z1_7 (Int32.toInt_inj.mp q)
                    have z1_q8 : ¬ Int32.toInt x0 = 106 := fun q => z1_8 (Int32.toInt_inj.mp q)
                    have z1_q14 : ¬ Int32.toInt x0 = 112 := fun q => z1_14 (Int32.toInt_inj.mp q)
                    have z1_q16 : ¬ Int32.toInt x0 = 114 := fun q => z1_16 (Int32.toInt_inj.mp q)
                    have z1_q17 : ¬ Int32.toInt x0 = 115 := fun q => z1_17 (Int32.toInt_inj.mp q)
                    have z1_q21 : ¬ Int32.toInt x0 = 119 := fun q => z1_21 (Int32.toInt_inj.mp q)
                    refine mm_tdef (tgt := 125) X dX8_sortOf_1 (by decide) (fun i hi hq => ?_) (by decide) ?_
                    · rcases (show i = 0 ∨ i = 1 ∨ i = 2 ∨ i = 3 ∨ i = 4 ∨ i = 5 ∨ i = 6 ∨ i = 7 ∨ i = 8 ∨ i = 9 ∨ i = 10 ∨ i = 11 ∨ i = 12 ∨ i = 13 ∨ i = 14 ∨ i = 15 ∨ i = 16 ∨ i = 17 ∨ i = 18 ∨ i = 19 ∨ i = 20 ∨ i = 21 by simp at hi; omega) with rfl | rfl | rfl | rfl | rfl | rfl | rfl | rfl | rfl | rfl | rfl | rfl | rfl | rfl | rfl | rfl | rfl | rfl | rfl | rfl | rfl | rfl
                      · exact absurd hq (by omega)
                      · exact absurd hq (by omega)
                      · exact absurd hq (by omega)
                      · rfl
                      · rfl
                      · rfl
                      · rfl
                      · exact absurd hq (by omega)
                      · exact absurd hq (by omega)
                      · rfl
                      · rfl
                      · rfl
                      · rfl
                      · rfl
                      · exact absurd hq (by omega)
                      · rfl
                      · exact absurd hq (by omega)
                      · exact absurd hq (by omega)
                      · rfl
                      · rfl
                      · rfl
                      · exact absurd hq (by omega)
                    · refine lv_iconst (v := (-1)) X.1 X.2.1 dX8_sortOf_125 (by decide) ?_
                      exact mm_xi X I hr hlk dX8_sortOf_126 h
set_option maxHeartbeats 4000000 in
set_option maxRecDepth 100000 in
theorem kX8_peekDigit {l : Launch} {D : va_G} {dA : Nat → ClassId} {lo : Nat} {n : Nat} {M : mm_M} {a0 : Nat} (o : Int32 × mm_M) (h : pX8_peekDigit n M a0 = some o) : (∃ fs, M.2 a0 = some (mm_ob 8 fs)) ∧ mm_Met l D dA lo yX8_peekDigit cX8_peekDigit 1 (some .boolean) 1 20 0 0 [.ref a0] M (some (.int o.1)) o.2 := by
  unfold pX8_peekDigit at h
  obtain ⟨hob, h⟩ := mm_v_some h
  refine ⟨hob, mm_enter (by decide) (Nat.le_of_ble_eq_true rfl) (fun p e s m args below meth c ls X hr hlk hnm I hl => ?_)⟩
  have X : mm_C D dA lo cX8_peekDigit RX8 1 p s m args c := X
  have hl : lv_has ls 1 [(0, .ref a0)] := hl
  refine lv_aload_n X.1 X.2.1 dX8_peekDigit_0 rfl (lv_at hl 0 rfl) ?_
  refine mm_cVi X I hl (As := []) (ci := 8) md_X8_peek mv_X8_peek ml_X8_26 rfl (kX8_peek (n := n)) (by decide) ⟨Nat.le_refl 0, Nat.le_refl 0⟩ rfl rfl (Nat.le_of_ble_eq_true rfl) dX8_peekDigit_1 h (fun v1 M H locs I h => ?_)
  refine lv_bipush (v := 48) X.1 X.2.1 dX8_peekDigit_4 (by decide) ?_
  refine mm_klt (tgt := 22) X dX8_peekDigit_6 (by decide) h (fun h => ?_) (fun h => ?_)
  · refine lv_iconst (v := 0) X.1 X.2.1 dX8_peekDigit_22 (by decide) ?_
    exact mm_xz0 X I hr hlk dX8_peekDigit_23 h
  · refine lv_aload_n X.1 X.2.1 dX8_peekDigit_9 rfl (lv_at hl 0 rfl) ?_
    refine mm_cVi X I hl (As := []) (ci := 8) md_X8_peek mv_X8_peek ml_X8_26 rfl (kX8_peek (n := n)) (by decide) ⟨Nat.le_refl 0, Nat.le_refl 0⟩ rfl rfl (Nat.le_of_ble_eq_true rfl) dX8_peekDigit_10 h (fun v2 M H locs I h => ?_)
    refine lv_bipush (v := 57) X.1 X.2.1 dX8_peekDigit_13 (by decide) ?_
    refine mm_kgt (tgt := 22) X dX8_peekDigit_15 (by decide) h (fun h => ?_) (fun h => ?_)
    · refine lv_iconst (v := 0) X.1 X.2.1 dX8_peekDigit_22 (by decide) ?_
      exact mm_xz0 X I hr hlk dX8_peekDigit_23 h
    · refine lv_iconst (v := 1) X.1 X.2.1 dX8_peekDigit_18 (by decide) ?_
      refine lv_goto (tgt := 23) X.1 X.2.1 dX8_peekDigit_19 (by decide) ?_
      exact mm_xz1 X I hr hlk dX8_peekDigit_23 h
set_option maxHeartbeats 4000000 in
set_option maxRecDepth 100000 in
theorem kX8_readDigit {l : Launch} {D : va_G} {dA : Nat → ClassId} {lo : Nat} {n : Nat} {M : mm_M} {a0 : Nat} (o : Int32 × mm_M) (h : pX8_readDigit n M a0 = some o) : (∃ fs, M.2 a0 = some (mm_ob 8 fs)) ∧ mm_Met l D dA lo yX8_readDigit cX8_readDigit 2 (some .int) 1 20 0 0 [.ref a0] M (some (.int o.1)) o.2 := by
  unfold pX8_readDigit at h
  obtain ⟨hob, h⟩ := mm_v_some h
  refine ⟨hob, mm_enter (by decide) (Nat.le_of_ble_eq_true rfl) (fun p e s m args below meth c ls X hr hlk hnm I hl => ?_)⟩
  have X : mm_C D dA lo cX8_readDigit RX8 2 p s m args c := X
  have hl : lv_has ls 2 [(0, .ref a0)] := hl
  refine lv_aload_n X.1 X.2.1 dX8_readDigit_0 rfl (lv_at hl 0 rfl) ?_
  refine mm_cVi X I hl (As := []) (ci := 8) md_X8_peek mv_X8_peek ml_X8_26 rfl (kX8_peek (n := n)) (by decide) ⟨Nat.le_refl 0, Nat.le_refl 0⟩ rfl rfl (Nat.le_of_ble_eq_true rfl) dX8_readDigit_1 h (fun v1 M H locs I h => ?_)
  refine lv_bipush (v := 48) X.1 X.2.1 dX8_readDigit_4 (by decide) ?_
  refine lv_isub X.1 X.2.1 dX8_readDigit_6 ?_
  refine lv_istore_n (lv' := [(1, .int (v1 - 48)), (0, .ref a0)]) X.1 X.2.1 dX8_readDigit_7 rfl hl (by decide) rfl (fun ls hl => ?_)
  refine lv_aload_n X.1 X.2.1 dX8_readDigit_8 rfl (lv_at hl 1 rfl) ?_
  refine lv_dup X.1 X.2.1 dX8_readDigit_9 rfl ?_
  refine mm_rgi X I fl_X8_19 dX8_readDigit_10 h (fun v2 h => ?_)
  refine lv_iconst (v := 1) X.1 X.2.1 dX8_readDigit_13 (by decide) ?_
  refine lv_iadd X.1 X.2.1 dX8_readDigit_14 ?_
  refine mm_rpi X I fl_X8_19 dX8_readDigit_15 h (fun M H locs I h => ?_)
  refine lv_iload_n X.1 X.2.1 dX8_readDigit_18 rfl (lv_at hl 0 rfl) ?_
  exact mm_xi X I hr hlk dX8_readDigit_19 h
set_option maxHeartbeats 4000000 in
set_option maxRecDepth 100000 in
theorem wpX8_readStep_b133 {p : Program} {l : Launch} {e : Env} {s : State} {m : MethodId} {args : Array Value} {below : List Frame} {meth : Method} {c : Code} {D : va_G} {dA : Nat → ClassId} {lo : Nat} (X : mm_C D dA lo cX8_readStep RX8 3 p s m args c) (hr : meth.sig.returnType = (some .boolean)) (hlk : meth.locks = false) (n : Nat) {o : Int32 × mm_M}  : ∀ (M : mm_M) (s0 : Int32) (s1 : Nat) (s2 : Nat) (H : Heap) (locs : List Loc) (ls : Array Slot), mm_I D dA lo s M H locs → lv_has ls 3 [] → pX8_readStep_b133 n M s0 s1 s2 = some o → W p l e (mm_rm 2 44 0 0) s m args below meth c H locs 0 0 (MQ below (mm_Q D dA lo (some (.int o.1)) o.2) args s 0 0 (mm_fr lo)) (F0 m 133 ls [.int s0, .ref s1, .ref s2]) := by
  intro M s0 s1 s2 H locs ls I hl h
  unfold pX8_readStep_b133 at h
  refine mm_cVi X I hl (As := [.ref s1, .int s0]) (ci := 8) md_X8_readSigns mv_X8_readSigns ml_X8_22 rfl (kX8_readSigns (n := n)) (by decide) ⟨Nat.le_refl 0, Nat.le_refl 0⟩ rfl rfl (Nat.le_of_ble_eq_true rfl) dX8_readStep_133 h (fun v1 M H locs I h => ?_)
  refine mm_jeq (tgt := 143) X dX8_readStep_136 (by decide) h (fun h => ?_) (fun h => ?_)
  · refine lv_iconst (v := 0) X.1 X.2.1 dX8_readStep_143 (by decide) ?_
    exact mm_xz0 X I hr hlk dX8_readStep_144 h
  · refine lv_iconst (v := 1) X.1 X.2.1 dX8_readStep_139 (by decide) ?_
    refine lv_goto (tgt := 144) X.1 X.2.1 dX8_readStep_140 (by decide) ?_
    exact mm_xz1 X I hr hlk dX8_readStep_144 h
set_option maxHeartbeats 4000000 in
set_option maxRecDepth 100000 in
theorem wpX8_readStep_b107 {p : Program} {l : Launch} {e : Env} {s : State} {m : MethodId} {args : Array Value} {below : List Frame} {meth : Method} {c : Code} {D : va_G} {dA : Nat → ClassId} {lo : Nat} (X : mm_C D dA lo cX8_readStep RX8 3 p s m args c) (hr : meth.sig.returnType = (some .boolean)) (hlk : meth.locks = false) (n : Nat) {o : Int32 × mm_M}  : ∀ (M : mm_M) (a0 : Nat) (a1 : Nat) (x2 : Int32) (H : Heap) (locs : List Loc) (ls : Array Slot), mm_I D dA lo s M H locs → lv_has ls 3 [(0, .ref a0), (1, .ref a1), (2, .int x2)] → pX8_readStep_b107 n M a0 a1 x2 = some o → W p l e (mm_rm 2 44 0 0) s m args below meth c H locs 0 0 (MQ below (mm_Q D dA lo (some (.int o.1)) o.2) args s 0 0 (mm_fr lo)) (F0 m 107 ls []) := by
  intro M a0 a1 x2 H locs ls I hl h
  unfold pX8_readStep_b107 at h
  refine lv_aload_n X.1 X.2.1 dX8_readStep_107 rfl (lv_at hl 0 rfl) ?_
  refine lv_bipush (v := 58) X.1 X.2.1 dX8_readStep_108 (by decide) ?_
  refine mm_cVi X I hl (As := [.int 58]) (ci := 8) md_X8_skip mv_X8_skip ml_X8_45 rfl (kX8_skip (n := n)) (by decide) ⟨Nat.le_refl 0, Nat.le_refl 0⟩ rfl rfl (Nat.le_of_ble_eq_true rfl) dX8_readStep_110 h (fun v1 M H locs I h => ?_)
  refine mm_jeq (tgt := 143) X dX8_readStep_113 (by decide) h (fun h => ?_) (fun h => ?_)
  · refine lv_iconst (v := 0) X.1 X.2.1 dX8_readStep_143 (by decide) ?_
    exact mm_xz0 X I hr hlk dX8_readStep_144 h
  · refine lv_aload_n X.1 X.2.1 dX8_readStep_116 rfl (lv_at hl 0 rfl) ?_
    refine lv_aload_n X.1 X.2.1 dX8_readStep_117 rfl (lv_at hl 1 rfl) ?_
    refine mm_rgr X I fl_X8_84 dX8_readStep_118 h (fun v2 h => ?_)
    refine lv_iload_n X.1 X.2.1 dX8_readStep_121 rfl (lv_at hl 2 rfl) ?_
    refine lv_iconst (v := 4) X.1 X.2.1 dX8_readStep_122 (by decide) ?_
    refine mm_kne (tgt := 131) X dX8_readStep_123 (by decide) h (fun h => ?_) (fun h => ?_)
    · refine lv_bipush (v := 20) X.1 X.2.1 dX8_readStep_131 (by decide) ?_
      exact wpX8_readStep_b133 X hr hlk n  M _ _ _ _ _ _ I (lv_sub hl [] rfl) h
    · refine lv_bipush (v := 6) X.1 X.2.1 dX8_readStep_126 (by decide) ?_
      refine lv_goto (tgt := 133) X.1 X.2.1 dX8_readStep_128 (by decide) ?_
      exact wpX8_readStep_b133 X hr hlk n  M _ _ _ _ _ _ I (lv_sub hl [] rfl) h
set_option maxHeartbeats 4000000 in
set_option maxRecDepth 100000 in
theorem wpX8_readStep_b93 {p : Program} {l : Launch} {e : Env} {s : State} {m : MethodId} {args : Array Value} {below : List Frame} {meth : Method} {c : Code} {D : va_G} {dA : Nat → ClassId} {lo : Nat} (X : mm_C D dA lo cX8_readStep RX8 3 p s m args c) (hr : meth.sig.returnType = (some .boolean)) (hlk : meth.locks = false) (n : Nat) {o : Int32 × mm_M}  : ∀ (M : mm_M) (a0 : Nat) (a1 : Nat) (x2 : Int32) (H : Heap) (locs : List Loc) (ls : Array Slot), mm_I D dA lo s M H locs → lv_has ls 3 [(0, .ref a0), (1, .ref a1), (2, .int x2)] → pX8_readStep_b93 n M a0 a1 x2 = some o → W p l e (mm_rm 2 44 0 0) s m args below meth c H locs 0 0 (MQ below (mm_Q D dA lo (some (.int o.1)) o.2) args s 0 0 (mm_fr lo)) (F0 m 93 ls []) := by
  intro M a0 a1 x2 H locs ls I hl h
  unfold pX8_readStep_b93 at h
  refine lv_iload_n X.1 X.2.1 dX8_readStep_93 rfl (lv_at hl 2 rfl) ?_
  refine mm_jeq (tgt := 107) X dX8_readStep_94 (by decide) h (fun h => ?_) (fun h => ?_)
  · exact wpX8_readStep_b107 X hr hlk n  M _ _ _ _ _ _ I (lv_sub hl [0, 1, 2] rfl) h
  · refine lv_iload_n X.1 X.2.1 dX8_readStep_97 rfl (lv_at hl 2 rfl) ?_
    refine lv_iconst (v := 1) X.1 X.2.1 dX8_readStep_98 (by decide) ?_
    refine mm_keq (tgt := 107) X dX8_readStep_99 (by decide) h (fun h => ?_) (fun h => ?_)
    · exact wpX8_readStep_b107 X hr hlk n  M _ _ _ _ _ _ I (lv_sub hl [0, 1, 2] rfl) h
    · refine lv_iload_n X.1 X.2.1 dX8_readStep_102 rfl (lv_at hl 2 rfl) ?_
      refine lv_iconst (v := 4) X.1 X.2.1 dX8_readStep_103 (by decide) ?_
      refine mm_kne (tgt := 145) X dX8_readStep_104 (by decide) h (fun h => ?_) (fun h => ?_)
      · refine lv_iconst (v := 1) X.1 X.2.1 dX8_readStep_145 (by decide) ?_
        exact mm_xz1 X I hr hlk dX8_readStep_146 h
      · exact wpX8_readStep_b107 X hr hlk n  M _ _ _ _ _ _ I (lv_sub hl [0, 1, 2] rfl) h
set_option maxHeartbeats 4000000 in
set_option maxRecDepth 100000 in
theorem wpX8_readStep_b67 {p : Program} {l : Launch} {e : Env} {s : State} {m : MethodId} {args : Array Value} {below : List Frame} {meth : Method} {c : Code} {D : va_G} {dA : Nat → ClassId} {lo : Nat} (X : mm_C D dA lo cX8_readStep RX8 3 p s m args c) (hr : meth.sig.returnType = (some .boolean)) (hlk : meth.locks = false) (n : Nat) {o : Int32 × mm_M}  : ∀ (M : mm_M) (a0 : Nat) (a1 : Nat) (x2 : Int32) (H : Heap) (locs : List Loc) (ls : Array Slot), mm_I D dA lo s M H locs → lv_has ls 3 [(0, .ref a0), (1, .ref a1), (2, .int x2)] → pX8_readStep_b67 n M a0 a1 x2 = some o → W p l e (mm_rm 2 44 0 0) s m args below meth c H locs 0 0 (MQ below (mm_Q D dA lo (some (.int o.1)) o.2) args s 0 0 (mm_fr lo)) (F0 m 67 ls []) := by
  intro M a0 a1 x2 H locs ls I hl h
  unfold pX8_readStep_b67 at h
  refine lv_aload_n X.1 X.2.1 dX8_readStep_67 rfl (lv_at hl 0 rfl) ?_
  refine lv_bipush (v := 44) X.1 X.2.1 dX8_readStep_68 (by decide) ?_
  refine mm_cVi X I hl (As := [.int 44]) (ci := 8) md_X8_skip mv_X8_skip ml_X8_45 rfl (kX8_skip (n := n)) (by decide) ⟨Nat.le_refl 0, Nat.le_refl 0⟩ rfl rfl (Nat.le_of_ble_eq_true rfl) dX8_readStep_70 h (fun v1 M H locs I h => ?_)
  refine mm_jeq (tgt := 83) X dX8_readStep_73 (by decide) h (fun h => ?_) (fun h => ?_)
  · refine lv_iconst (v := 0) X.1 X.2.1 dX8_readStep_83 (by decide) ?_
    exact mm_xz0 X I hr hlk dX8_readStep_84 h
  · refine lv_aload_n X.1 X.2.1 dX8_readStep_76 rfl (lv_at hl 0 rfl) ?_
    refine mm_cVi X I hl (As := []) (ci := 8) md_X8_peekDigit mv_X8_peekDigit ml_X8_71 rfl (kX8_peekDigit (n := n)) (by decide) ⟨Nat.le_refl 0, Nat.le_refl 0⟩ rfl rfl (Nat.le_of_ble_eq_true rfl) dX8_readStep_77 h (fun v2 M H locs I h => ?_)
    refine mm_jne (tgt := 85) X dX8_readStep_80 (by decide) h (fun h => ?_) (fun h => ?_)
    · refine lv_aload_n X.1 X.2.1 dX8_readStep_85 rfl (lv_at hl 1 rfl) ?_
      refine lv_aload_n X.1 X.2.1 dX8_readStep_86 rfl (lv_at hl 0 rfl) ?_
      refine mm_cVi X I hl (As := []) (ci := 8) md_X8_readDigit mv_X8_readDigit ml_X8_75 rfl (kX8_readDigit (n := n)) (by decide) ⟨Nat.le_refl 0, Nat.le_refl 0⟩ rfl rfl (Nat.le_of_ble_eq_true rfl) dX8_readStep_87 h (fun v3 M H locs I h => ?_)
      refine mm_rpi X I fl_X8_81 dX8_readStep_90 h (fun M H locs I h => ?_)
      exact wpX8_readStep_b93 X hr hlk n  M _ _ _ _ _ _ I (lv_sub hl [0, 1, 2] rfl) h
    · refine lv_iconst (v := 0) X.1 X.2.1 dX8_readStep_83 (by decide) ?_
      exact mm_xz0 X I hr hlk dX8_readStep_84 h
set_option maxHeartbeats 4000000 in
set_option maxRecDepth 100000 in
theorem kX8_readStep {l : Launch} {D : va_G} {dA : Nat → ClassId} {lo : Nat} {n : Nat} {M : mm_M} {a0 : Nat} {a1 : Nat} (o : Int32 × mm_M) (h : pX8_readStep n M a0 a1 = some o) : (∃ fs, M.2 a0 = some (mm_ob 8 fs)) ∧ mm_Met l D dA lo yX8_readStep cX8_readStep 3 (some .boolean) 2 44 0 0 [.ref a0, .ref a1] M (some (.int o.1)) o.2 := by
  unfold pX8_readStep at h
  obtain ⟨hob, h⟩ := mm_v_some h
  refine ⟨hob, mm_enter (by decide) (Nat.le_of_ble_eq_true rfl) (fun p e s m args below meth c ls X hr hlk hnm I hl => ?_)⟩
  have X : mm_C D dA lo cX8_readStep RX8 3 p s m args c := X
  have hl : lv_has ls 3 [(0, .ref a0), (1, .ref a1)] := hl
  refine lv_aload_n X.1 X.2.1 dX8_readStep_0 rfl (lv_at hl 0 rfl) ?_
  refine mm_cVi X I hl (As := []) (ci := 8) md_X8_peek mv_X8_peek ml_X8_26 rfl (kX8_peek (n := n)) (by decide) ⟨Nat.le_refl 0, Nat.le_refl 0⟩ rfl rfl (Nat.le_of_ble_eq_true rfl) dX8_readStep_1 h (fun v1 M H locs I h => ?_)
  refine mm_cSi X I hl (As := [.int v1]) md_X8_sortOf mv_X8_sortOf ml_X8_60 (kX8_sortOf (n := n)) (by decide) ⟨Nat.le_refl 0, Nat.le_refl 0⟩ rfl rfl (Nat.le_of_ble_eq_true rfl) dX8_readStep_4 h (fun v2 M H locs I h => ?_)
  refine lv_istore_n (lv' := [(2, .int v2), (0, .ref a0), (1, .ref a1)]) X.1 X.2.1 dX8_readStep_7 rfl hl (by decide) rfl (fun ls hl => ?_)
  refine lv_iload_n X.1 X.2.1 dX8_readStep_8 rfl (lv_at hl 0 rfl) ?_
  refine lv_iconst (v := (-1)) X.1 X.2.1 dX8_readStep_9 (by decide) ?_
  refine mm_kne (tgt := 15) X dX8_readStep_10 (by decide) h (fun h => ?_) (fun h => ?_)
  · refine lv_aload_n X.1 X.2.1 dX8_readStep_15 rfl (lv_at hl 1 rfl) ?_
    refine lv_dup X.1 X.2.1 dX8_readStep_16 rfl ?_
    refine mm_rgi X I fl_X8_19 dX8_readStep_17 h (fun v3 h => ?_)
    refine lv_iconst (v := 1) X.1 X.2.1 dX8_readStep_20 (by decide) ?_
    refine lv_iadd X.1 X.2.1 dX8_readStep_21 ?_
    refine mm_rpi X I fl_X8_19 dX8_readStep_22 h (fun M H locs I h => ?_)
    refine lv_aload_n X.1 X.2.1 dX8_readStep_25 rfl (lv_at hl 2 rfl) ?_
    refine lv_iload_n X.1 X.2.1 dX8_readStep_26 rfl (lv_at hl 0 rfl) ?_
    refine lv_ldc (v := (-1000000)) X.1 X.2.1 X.2.2.2.1 (X.2.2.2.2.1 _ cn_X8_64) dX8_readStep_27 ?_
    refine lv_ldc (v := (-1000000)) X.1 X.2.1 X.2.2.2.1 (X.2.2.2.2.1 _ cn_X8_64) dX8_readStep_29 ?_
    refine mm_cVv X I hl (As := [.int v2, .int (-1000000), .int (-1000000)]) (ci := 7) md_X7_tell mv_X7_tell ml_X8_65 rfl (kX7_tell (n := n)) (by decide) ⟨Nat.le_refl 0, Nat.le_refl 0⟩ rfl rfl (Nat.le_of_ble_eq_true rfl) dX8_readStep_31 h (fun M H locs I h => ?_)
    refine lv_aload_n X.1 X.2.1 dX8_readStep_34 rfl (lv_at hl 1 rfl) ?_
    refine mm_cVi X I hl (As := []) (ci := 8) md_X8_peekDigit mv_X8_peekDigit ml_X8_71 rfl (kX8_peekDigit (n := n)) (by decide) ⟨Nat.le_refl 0, Nat.le_refl 0⟩ rfl rfl (Nat.le_of_ble_eq_true rfl) dX8_readStep_35 h (fun v5 M H locs I h => ?_)
    refine mm_jne (tgt := 43) X dX8_readStep_38 (by decide) h (fun h => ?_) (fun h => ?_)
    · refine lv_aload_n X.1 X.2.1 dX8_readStep_43 rfl (lv_at hl 2 rfl) ?_
      refine lv_aload_n X.1 X.2.1 dX8_readStep_44 rfl (lv_at hl 1 rfl) ?_
      refine mm_cVi X I hl (As := []) (ci := 8) md_X8_readDigit mv_X8_readDigit ml_X8_75 rfl (kX8_readDigit (n := n)) (by decide) ⟨Nat.le_refl 0, Nat.le_refl 0⟩ rfl rfl (Nat.le_of_ble_eq_true rfl) dX8_readStep_45 h (fun v6 M H locs I h => ?_)
      refine mm_rpi X I fl_X8_78 dX8_readStep_48 h (fun M H locs I h => ?_)
      refine lv_iload_n X.1 X.2.1 dX8_readStep_51 rfl (lv_at hl 0 rfl) ?_
      refine lv_iconst (v := 3) X.1 X.2.1 dX8_readStep_52 (by decide) ?_
      refine mm_keq (tgt := 67) X dX8_readStep_53 (by decide) h (fun h => ?_) (fun h => ?_)
      · exact wpX8_readStep_b67 X hr hlk n  M _ _ _ _ _ _ I (lv_sub hl [1, 2, 0] rfl) h
      · refine lv_iload_n X.1 X.2.1 dX8_readStep_56 rfl (lv_at hl 0 rfl) ?_
        refine lv_iconst (v := 4) X.1 X.2.1 dX8_readStep_57 (by decide) ?_
        refine mm_keq (tgt := 67) X dX8_readStep_58 (by decide) h (fun h => ?_) (fun h => ?_)
        · exact wpX8_readStep_b67 X hr hlk n  M _ _ _ _ _ _ I (lv_sub hl [1, 2, 0] rfl) h
        · refine lv_iload_n X.1 X.2.1 dX8_readStep_61 rfl (lv_at hl 0 rfl) ?_
          refine lv_bipush (v := 7) X.1 X.2.1 dX8_readStep_62 (by decide) ?_
          refine mm_kne (tgt := 93) X dX8_readStep_64 (by decide) h (fun h => ?_) (fun h => ?_)
          · exact wpX8_readStep_b93 X hr hlk n  M _ _ _ _ _ _ I (lv_sub hl [1, 2, 0] rfl) h
          · exact wpX8_readStep_b67 X hr hlk n  M _ _ _ _ _ _ I (lv_sub hl [1, 2, 0] rfl) h
    · refine lv_iconst (v := 0) X.1 X.2.1 dX8_readStep_41 (by decide) ?_
      exact mm_xz0 X I hr hlk dX8_readStep_42 h
  · refine lv_iconst (v := 0) X.1 X.2.1 dX8_readStep_13 (by decide) ?_
    exact mm_xz0 X I hr hlk dX8_readStep_14 h
set_option maxHeartbeats 4000000 in
set_option maxRecDepth 100000 in
theorem wpX8_scriptFault_b39 {p : Program} {l : Launch} {e : Env} {s : State} {m : MethodId} {args : Array Value} {below : List Frame} {meth : Method} {c : Code} {D : va_G} {dA : Nat → ClassId} {lo : Nat} (X : mm_C D dA lo cX8_scriptFault RX8 3 p s m args c) (hr : meth.sig.returnType = (some .int)) (hlk : meth.locks = false) (n : Nat) {o : Int32 × mm_M}  : ∀ (M : mm_M) (a1 : Nat) (x2 : Int32) (H : Heap) (locs : List Loc) (ls : Array Slot), mm_I D dA lo s M H locs → lv_has ls 3 [(1, .ref a1), (2, .int x2)] → pX8_scriptFault_b39 n M a1 x2 = some o → W p l e (mm_rm 3 66 0 0) s m args below meth c H locs 0 0 (MQ below (mm_Q D dA lo (some (.int o.1)) o.2) args s 0 0 (mm_fr lo)) (F0 m 39 ls []) := by
  intro M a1 x2 H locs ls I hl h
  unfold pX8_scriptFault_b39 at h
  refine lv_aload_n X.1 X.2.1 dX8_scriptFault_39 rfl (lv_at hl 0 rfl) ?_
  refine lv_iload_n X.1 X.2.1 dX8_scriptFault_40 rfl (lv_at hl 1 rfl) ?_
  refine lv_iconst (v := 1) X.1 X.2.1 dX8_scriptFault_41 (by decide) ?_
  refine lv_iadd X.1 X.2.1 dX8_scriptFault_42 ?_
  refine mm_rpi X I fl_X8_59 dX8_scriptFault_43 h (fun M H locs I h => ?_)
  refine lv_iconst (v := (-1)) X.1 X.2.1 dX8_scriptFault_46 (by decide) ?_
  exact mm_xi X I hr hlk dX8_scriptFault_47 h
set_option maxHeartbeats 4000000 in
set_option maxRecDepth 100000 in
theorem wpX8_scriptFault_l7 {p : Program} {l : Launch} {e : Env} {s : State} {m : MethodId} {args : Array Value} {below : List Frame} {meth : Method} {c : Code} {D : va_G} {dA : Nat → ClassId} {lo : Nat} (X : mm_C D dA lo cX8_scriptFault RX8 3 p s m args c) (hr : meth.sig.returnType = (some .int)) (hlk : meth.locks = false) (n : Nat) {o : Int32 × mm_M} (k : Nat) : ∀ (M : mm_M) (a0 : Nat) (a1 : Nat) (x2 : Int32) (H : Heap) (locs : List Loc) (ls : Array Slot), mm_I D dA lo s M H locs → lv_has ls 3 [(0, .ref a0), (1, .ref a1), (2, .int x2)] → pX8_scriptFault_l7 n k M a0 a1 x2 = some o → W p l e (mm_rm 3 66 0 0) s m args below meth c H locs 0 0 (MQ below (mm_Q D dA lo (some (.int o.1)) o.2) args s 0 0 (mm_fr lo)) (F0 m 7 ls []) := by
  induction k with
  | zero =>
    intro M a0 a1 x2 H locs ls I hl h
    have h : (none : Option (Int32 × mm_M)) = some o := h
    cases h
  | succ k ih =>
    intro M a0 a1 x2 H locs ls I hl h
    have h : pX8_scriptFault_l7b n (pX8_scriptFault_l7 n k) M a0 a1 x2 = some o := h
    unfold pX8_scriptFault_l7b at h
    refine lv_iload_n X.1 X.2.1 dX8_scriptFault_7 rfl (lv_at hl 2 rfl) ?_
    refine lv_bipush (v := 12) X.1 X.2.1 dX8_scriptFault_8 (by decide) ?_
    refine mm_kge (tgt := 76) X dX8_scriptFault_10 (by decide) h (fun h => ?_) (fun h => ?_)
    · refine lv_aload_n X.1 X.2.1 dX8_scriptFault_76 rfl (lv_at hl 0 rfl) ?_
      refine mm_rgi X I fl_X8_19 dX8_scriptFault_77 h (fun v1 h => ?_)
      exact mm_xi X I hr hlk dX8_scriptFault_80 h
    · refine lv_aload_n X.1 X.2.1 dX8_scriptFault_13 rfl (lv_at hl 0 rfl) ?_
      refine lv_aload_n X.1 X.2.1 dX8_scriptFault_14 rfl (lv_at hl 1 rfl) ?_
      refine mm_rgr X I fl_X8_49 dX8_scriptFault_15 h (fun v2 h => ?_)
      refine lv_iload_n X.1 X.2.1 dX8_scriptFault_18 rfl (lv_at hl 2 rfl) ?_
      refine mm_rra X I dX8_scriptFault_19 h (fun v3 h => ?_)
      refine mm_cVi X I hl (As := [.ref v3]) (ci := 8) md_X8_readStep mv_X8_readStep ml_X8_55 rfl (kX8_readStep (n := n)) (by decide) ⟨Nat.le_refl 0, Nat.le_refl 0⟩ rfl rfl (Nat.le_of_ble_eq_true rfl) dX8_scriptFault_20 h (fun v4 M H locs I h => ?_)
      refine mm_jne (tgt := 31) X dX8_scriptFault_23 (by decide) h (fun h => ?_) (fun h => ?_)
      · refine lv_aload_n X.1 X.2.1 dX8_scriptFault_31 rfl (lv_at hl 0 rfl) ?_
        refine mm_cVi X I hl (As := []) (ci := 8) md_X8_peek mv_X8_peek ml_X8_26 rfl (kX8_peek (n := n)) (by decide) ⟨Nat.le_refl 0, Nat.le_refl 0⟩ rfl rfl (Nat.le_of_ble_eq_true rfl) dX8_scriptFault_32 h (fun v5 M H locs I h => ?_)
        refine lv_iconst (v := (-1)) X.1 X.2.1 dX8_scriptFault_35 (by decide) ?_
        refine mm_kne (tgt := 48) X dX8_scriptFault_36 (by decide) h (fun h => ?_) (fun h => ?_)
        · refine lv_iload_n X.1 X.2.1 dX8_scriptFault_48 rfl (lv_at hl 2 rfl) ?_
          refine lv_iconst (v := 1) X.1 X.2.1 dX8_scriptFault_49 (by decide) ?_
          refine lv_iadd X.1 X.2.1 dX8_scriptFault_50 ?_
          refine lv_bipush (v := 12) X.1 X.2.1 dX8_scriptFault_51 (by decide) ?_
          refine mm_keq (tgt := 65) X dX8_scriptFault_53 (by decide) h (fun h => ?_) (fun h => ?_)
          · refine lv_aload_n X.1 X.2.1 dX8_scriptFault_65 rfl (lv_at hl 0 rfl) ?_
            refine mm_rgi X I fl_X8_19 dX8_scriptFault_66 h (fun v6 h => ?_)
            exact mm_xi X I hr hlk dX8_scriptFault_69 h
          · refine lv_aload_n X.1 X.2.1 dX8_scriptFault_56 rfl (lv_at hl 0 rfl) ?_
            refine lv_bipush (v := 59) X.1 X.2.1 dX8_scriptFault_57 (by decide) ?_
            refine mm_cVi X I hl (As := [.int 59]) (ci := 8) md_X8_skip mv_X8_skip ml_X8_45 rfl (kX8_skip (n := n)) (by decide) ⟨Nat.le_refl 0, Nat.le_refl 0⟩ rfl rfl (Nat.le_of_ble_eq_true rfl) dX8_scriptFault_59 h (fun v7 M H locs I h => ?_)
            refine mm_jne (tgt := 70) X dX8_scriptFault_62 (by decide) h (fun h => ?_) (fun h => ?_)
            · refine lv_iinc (v := (x2 + 1)) (lv' := [(2, .int (x2 + 1)), (0, .ref a0), (1, .ref a1)]) X.1 X.2.1 dX8_scriptFault_70 hl (k := 2) rfl rfl (by decide) rfl (fun ls hl => ?_)
              refine lv_goto (tgt := 7) X.1 X.2.1 dX8_scriptFault_73 (by decide) ?_
              exact ih M _ _ _ _ _ _ I (lv_sub hl [1, 2, 0] rfl) h
            · refine lv_aload_n X.1 X.2.1 dX8_scriptFault_65 rfl (lv_at hl 0 rfl) ?_
              refine mm_rgi X I fl_X8_19 dX8_scriptFault_66 h (fun v8 h => ?_)
              exact mm_xi X I hr hlk dX8_scriptFault_69 h
        · exact wpX8_scriptFault_b39 X hr hlk n  M _ _ _ _ _ I (lv_sub hl [1, 2] rfl) h
      · refine lv_aload_n X.1 X.2.1 dX8_scriptFault_26 rfl (lv_at hl 0 rfl) ?_
        refine mm_rgi X I fl_X8_19 dX8_scriptFault_27 h (fun v9 h => ?_)
        exact mm_xi X I hr hlk dX8_scriptFault_30 h
set_option maxHeartbeats 4000000 in
set_option maxRecDepth 100000 in
theorem kX8_scriptFault {l : Launch} {D : va_G} {dA : Nat → ClassId} {lo : Nat} {n : Nat} {M : mm_M} {a0 : Nat} {a1 : Nat} (o : Int32 × mm_M) (h : pX8_scriptFault n M a0 a1 = some o) : (∃ fs, M.2 a0 = some (mm_ob 8 fs)) ∧ mm_Met l D dA lo yX8_scriptFault cX8_scriptFault 3 (some .int) 3 66 0 0 [.ref a0, .ref a1] M (some (.int o.1)) o.2 := by
  unfold pX8_scriptFault at h
  obtain ⟨hob, h⟩ := mm_v_some h
  refine ⟨hob, mm_enter (by decide) (Nat.le_of_ble_eq_true rfl) (fun p e s m args below meth c ls X hr hlk hnm I hl => ?_)⟩
  have X : mm_C D dA lo cX8_scriptFault RX8 3 p s m args c := X
  have hl : lv_has ls 3 [(0, .ref a0), (1, .ref a1)] := hl
  refine lv_aload_n X.1 X.2.1 dX8_scriptFault_0 rfl (lv_at hl 0 rfl) ?_
  refine lv_iconst (v := 0) X.1 X.2.1 dX8_scriptFault_1 (by decide) ?_
  refine mm_rpi X I fl_X8_19 dX8_scriptFault_2 h (fun M H locs I h => ?_)
  refine lv_iconst (v := 0) X.1 X.2.1 dX8_scriptFault_5 (by decide) ?_
  refine lv_istore_n (lv' := [(2, .int 0), (0, .ref a0), (1, .ref a1)]) X.1 X.2.1 dX8_scriptFault_6 rfl hl (by decide) rfl (fun ls hl => ?_)
  exact wpX8_scriptFault_l7 X hr hlk n  n M _ _ _ _ _ _ I (lv_sub hl [1, 2, 0] rfl) h
set_option maxHeartbeats 4000000 in
set_option maxRecDepth 100000 in
theorem kJ_bitCount {l : Launch} {D : va_G} {dA : Nat → ClassId} {lo : Nat} {n : Nat} {M : mm_M} {x0 : Int32} (o : Int32 × mm_M) (h : pJ_bitCount n M x0 = some o) : mm_Met l D dA lo yJ_bitCount cJ_bitCount 1 (some .int) 0 0 0 0 [.int x0] M (some (.int o.1)) o.2 := by
  unfold pJ_bitCount at h
  refine mm_enter (by decide) (Nat.le_of_ble_eq_true rfl) (fun p e s m args below meth c ls X hr hlk hnm I hl => ?_)
  have X : mm_C D dA lo cJ_bitCount RJ 1 p s m args c := X
  have hl : lv_has ls 1 [(0, .int x0)] := hl
  refine lv_iload_n X.1 X.2.1 dJ_bitCount_0 rfl (lv_at hl 0 rfl) ?_
  refine lv_iload_n X.1 X.2.1 dJ_bitCount_1 rfl (lv_at hl 0 rfl) ?_
  refine lv_iconst (v := 1) X.1 X.2.1 dJ_bitCount_2 (by decide) ?_
  refine lv_iushr (v := (mm_ushr x0 1)) X.1 X.2.1 dJ_bitCount_3 rfl ?_
  refine lv_ldcw (v := 1431655765) X.1 X.2.1 X.2.2.2.1 (X.2.2.2.2.1 _ cn_J_265) dJ_bitCount_4 ?_
  refine lv_iand X.1 X.2.1 dJ_bitCount_7 ?_
  refine lv_isub X.1 X.2.1 dJ_bitCount_8 ?_
  refine lv_istore_n (lv' := [(0, .int (x0 - ((mm_ushr x0 1) &&& 1431655765)))]) X.1 X.2.1 dJ_bitCount_9 rfl hl (by decide) rfl (fun ls hl => ?_)
  refine lv_iload_n X.1 X.2.1 dJ_bitCount_10 rfl (lv_at hl 0 rfl) ?_
  refine lv_ldcw (v := 858993459) X.1 X.2.1 X.2.2.2.1 (X.2.2.2.2.1 _ cn_J_266) dJ_bitCount_11 ?_
  refine lv_iand X.1 X.2.1 dJ_bitCount_14 ?_
  refine lv_iload_n X.1 X.2.1 dJ_bitCount_15 rfl (lv_at hl 0 rfl) ?_
  refine lv_iconst (v := 2) X.1 X.2.1 dJ_bitCount_16 (by decide) ?_
  refine lv_iushr (v := (mm_ushr (x0 - ((mm_ushr x0 1) &&& 1431655765)) 2)) X.1 X.2.1 dJ_bitCount_17 rfl ?_
  refine lv_ldcw (v := 858993459) X.1 X.2.1 X.2.2.2.1 (X.2.2.2.2.1 _ cn_J_266) dJ_bitCount_18 ?_
  refine lv_iand X.1 X.2.1 dJ_bitCount_21 ?_
  refine lv_iadd X.1 X.2.1 dJ_bitCount_22 ?_
  refine lv_istore_n (lv' := [(0, .int (((x0 - ((mm_ushr x0 1) &&& 1431655765)) &&& 858993459) + ((mm_ushr (x0 - ((mm_ushr x0 1) &&& 1431655765)) 2) &&& 858993459)))]) X.1 X.2.1 dJ_bitCount_23 rfl hl (by decide) rfl (fun ls hl => ?_)
  refine lv_iload_n X.1 X.2.1 dJ_bitCount_24 rfl (lv_at hl 0 rfl) ?_
  refine lv_iload_n X.1 X.2.1 dJ_bitCount_25 rfl (lv_at hl 0 rfl) ?_
  refine lv_iconst (v := 4) X.1 X.2.1 dJ_bitCount_26 (by decide) ?_
  refine lv_iushr (v := (mm_ushr (((x0 - ((mm_ushr x0 1) &&& 1431655765)) &&& 858993459) + ((mm_ushr (x0 - ((mm_ushr x0 1) &&& 1431655765)) 2) &&& 858993459)) 4)) X.1 X.2.1 dJ_bitCount_27 rfl ?_
  refine lv_iadd X.1 X.2.1 dJ_bitCount_28 ?_
  refine lv_ldcw (v := 252645135) X.1 X.2.1 X.2.2.2.1 (X.2.2.2.2.1 _ cn_J_267) dJ_bitCount_29 ?_
  refine lv_iand X.1 X.2.1 dJ_bitCount_32 ?_
  refine lv_istore_n (lv' := [(0, .int (((((x0 - ((mm_ushr x0 1) &&& 1431655765)) &&& 858993459) + ((mm_ushr (x0 - ((mm_ushr x0 1) &&& 1431655765)) 2) &&& 858993459)) + (mm_ushr (((x0 - ((mm_ushr x0 1) &&& 1431655765)) &&& 858993459) + ((mm_ushr (x0 - ((mm_ushr x0 1) &&& 1431655765)) 2) &&& 858993459)) 4)) &&& 252645135))]) X.1 X.2.1 dJ_bitCount_33 rfl hl (by decide) rfl (fun ls hl => ?_)
  refine lv_iload_n X.1 X.2.1 dJ_bitCount_34 rfl (lv_at hl 0 rfl) ?_
  refine lv_iload_n X.1 X.2.1 dJ_bitCount_35 rfl (lv_at hl 0 rfl) ?_
  refine lv_bipush (v := 8) X.1 X.2.1 dJ_bitCount_36 (by decide) ?_
  refine lv_iushr (v := (mm_ushr (((((x0 - ((mm_ushr x0 1) &&& 1431655765)) &&& 858993459) + ((mm_ushr (x0 - ((mm_ushr x0 1) &&& 1431655765)) 2) &&& 858993459)) + (mm_ushr (((x0 - ((mm_ushr x0 1) &&& 1431655765)) &&& 858993459) + ((mm_ushr (x0 - ((mm_ushr x0 1) &&& 1431655765)) 2) &&& 858993459)) 4)) &&& 252645135) 8)) X.1 X.2.1 dJ_bitCount_38 rfl ?_
  refine lv_iadd X.1 X.2.1 dJ_bitCount_39 ?_
  refine lv_istore_n (lv' := [(0, .int ((((((x0 - ((mm_ushr x0 1) &&& 1431655765)) &&& 858993459) + ((mm_ushr (x0 - ((mm_ushr x0 1) &&& 1431655765)) 2) &&& 858993459)) + (mm_ushr (((x0 - ((mm_ushr x0 1) &&& 1431655765)) &&& 858993459) + ((mm_ushr (x0 - ((mm_ushr x0 1) &&& 1431655765)) 2) &&& 858993459)) 4)) &&& 252645135) + (mm_ushr (((((x0 - ((mm_ushr x0 1) &&& 1431655765)) &&& 858993459) + ((mm_ushr (x0 - ((mm_ushr x0 1) &&& 1431655765)) 2) &&& 858993459)) + (mm_ushr (((x0 - ((mm_ushr x0 1) &&& 1431655765)) &&& 858993459) + ((mm_ushr (x0 - ((mm_ushr x0 1) &&& 1431655765)) 2) &&& 858993459)) 4)) &&& 252645135) 8)))]) X.1 X.2.1 dJ_bitCount_40 rfl hl (by decide) rfl (fun ls hl => ?_)
  refine lv_iload_n X.1 X.2.1 dJ_bitCount_41 rfl (lv_at hl 0 rfl) ?_
  refine lv_iload_n X.1 X.2.1 dJ_bitCount_42 rfl (lv_at hl 0 rfl) ?_
  refine lv_bipush (v := 16) X.1 X.2.1 dJ_bitCount_43 (by decide) ?_
  refine lv_iushr (v := (mm_ushr ((((((x0 - ((mm_ushr x0 1) &&& 1431655765)) &&& 858993459) + ((mm_ushr (x0 - ((mm_ushr x0 1) &&& 1431655765)) 2) &&& 858993459)) + (mm_ushr (((x0 - ((mm_ushr x0 1) &&& 1431655765)) &&& 858993459) + ((mm_ushr (x0 - ((mm_ushr x0 1) &&& 1431655765)) 2) &&& 858993459)) 4)) &&& 252645135) + (mm_ushr (((((x0 - ((mm_ushr x0 1) &&& 1431655765)) &&& 858993459) + ((mm_ushr (x0 - ((mm_ushr x0 1) &&& 1431655765)) 2) &&& 858993459)) + (mm_ushr (((x0 - ((mm_ushr x0 1) &&& 1431655765)) &&& 858993459) + ((mm_ushr (x0 - ((mm_ushr x0 1) &&& 1431655765)) 2) &&& 858993459)) 4)) &&& 252645135) 8)) 16)) X.1 X.2.1 dJ_bitCount_45 rfl ?_
  refine lv_iadd X.1 X.2.1 dJ_bitCount_46 ?_
  refine lv_istore_n (lv' := [(0, .int (((((((x0 - ((mm_ushr x0 1) &&& 1431655765)) &&& 858993459) + ((mm_ushr (x0 - ((mm_ushr x0 1) &&& 1431655765)) 2) &&& 858993459)) + (mm_ushr (((x0 - ((mm_ushr x0 1) &&& 1431655765)) &&& 858993459) + ((mm_ushr (x0 - ((mm_ushr x0 1) &&& 1431655765)) 2) &&& 858993459)) 4)) &&& 252645135) + (mm_ushr (((((x0 - ((mm_ushr x0 1) &&& 1431655765)) &&& 858993459) + ((mm_ushr (x0 - ((mm_ushr x0 1) &&& 1431655765)) 2) &&& 858993459)) + (mm_ushr (((x0 - ((mm_ushr x0 1) &&& 1431655765)) &&& 858993459) + ((mm_ushr (x0 - ((mm_ushr x0 1) &&& 1431655765)) 2) &&& 858993459)) 4)) &&& 252645135) 8)) + (mm_ushr ((((((x0 - ((mm_ushr x0 1) &&& 1431655765)) &&& 858993459) + ((mm_ushr (x0 - ((mm_ushr x0 1) &&& 1431655765)) 2) &&& 858993459)) + (mm_ushr (((x0 - ((mm_ushr x0 1) &&& 1431655765)) &&& 858993459) + ((mm_ushr (x0 - ((mm_ushr x0 1) &&& 1431655765)) 2) &&& 858993459)) 4)) &&& 252645135) + (mm_ushr (((((x0 - ((mm_ushr x0 1) &&& 1431655765)) &&& 858993459) + ((mm_ushr (x0 - ((mm_ushr x0 1) &&& 1431655765)) 2) &&& 858993459)) + (mm_ushr (((x0 - ((mm_ushr x0 1) &&& 1431655765)) &&& 858993459) + ((mm_ushr (x0 - ((mm_ushr x0 1) &&& 1431655765)) 2) &&& 858993459)) 4)) &&& 252645135) 8)) 16)))]) X.1 X.2.1 dJ_bitCount_47 rfl hl (by decide) rfl (fun ls hl => ?_)
  refine lv_iload_n X.1 X.2.1 dJ_bitCount_48 rfl (lv_at hl 0 rfl) ?_
  refine lv_bipush (v := 63) X.1 X.2.1 dJ_bitCount_49 (by decide) ?_
  refine lv_iand X.1 X.2.1 dJ_bitCount_51 ?_
  exact mm_xi X I hr hlk dJ_bitCount_52 h
