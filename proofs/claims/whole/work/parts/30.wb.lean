set_option maxHeartbeats 4000000 in
set_option maxRecDepth 100000 in
theorem wpX9_feed_b71 {p : Program} {l : Launch} {e : Env} {s : State} {m : MethodId} {args : Array Value} {below : List Frame} {meth : Method} {c : Code} {D : va_G} {dA : Nat → ClassId} {lo : Nat} (X : mm_C D dA lo cX9_feed RX9 8 p s m args c) (hr : meth.sig.returnType = (some .int)) (hlk : meth.locks = false) (n : Nat) {o : Int32 × mm_M}  : ∀ (M : mm_M) (a0 : Nat) (x6 : Int32) (s0 : Int32) (H : Heap) (locs : List Loc) (ls : Array Slot), mm_I D dA lo s M H locs → lv_has ls 8 [(0, .ref a0), (6, .int x6)] → pX9_feed_b71 n M a0 x6 s0 = some o → W p l e (mm_rm 1 23 0 0) s m args below meth c H locs 0 0 (MQ below (mm_Q D dA lo (some (.int o.1)) o.2) args s 0 0 (mm_fr lo)) (F0 m 71 ls [.int s0]) := by
  intro M a0 x6 s0 H locs ls I hl h
  unfold pX9_feed_b71 at h
  refine lv_istore (lv' := [(7, .int s0), (0, .ref a0), (6, .int x6)]) X.1 X.2.1 dX9_feed_71 hl (by decide) rfl (fun ls hl => ?_)
  refine lv_iload X.1 X.2.1 dX9_feed_73 (lv_at hl 0 rfl) ?_
  refine mm_jne (tgt := 89) X dX9_feed_75 (by decide) h (fun h => ?_) (fun h => ?_)
  · refine lv_aload_n X.1 X.2.1 dX9_feed_89 rfl (lv_at hl 1 rfl) ?_
    refine mm_rgr X I fl_X9_10 dX9_feed_90 h (fun v1 h => ?_)
    refine mm_rgi X I fl_X9_76 dX9_feed_93 h (fun v2 h => ?_)
    exact mm_xi X I hr hlk dX9_feed_96 h
  · refine lv_aload_n X.1 X.2.1 dX9_feed_78 rfl (lv_at hl 1 rfl) ?_
    refine mm_rgr X I fl_X9_10 dX9_feed_79 h (fun v3 h => ?_)
    refine lv_iload X.1 X.2.1 dX9_feed_82 (lv_at hl 2 rfl) ?_
    refine mm_rpi X I fl_X9_76 dX9_feed_84 h (fun M H locs I h => ?_)
    refine lv_iconst (v := (-1)) X.1 X.2.1 dX9_feed_87 (by decide) ?_
    exact mm_xi X I hr hlk dX9_feed_88 h
set_option maxHeartbeats 4000000 in
set_option maxRecDepth 100000 in
theorem kX9_feed {l : Launch} {D : va_G} {dA : Nat → ClassId} {lo : Nat} {n : Nat} {M : mm_M} {a0 : Nat} {x1 : Int32} {x2 : Int32} {x3 : Int32} {x4 : Int32} {x5 : Int32} (o : Int32 × mm_M) (h : pX9_feed n M a0 x1 x2 x3 x4 x5 = some o) : (∃ fs, M.2 a0 = some (mm_ob 9 fs)) ∧ mm_Met l D dA lo yX9_feed cX9_feed 8 (some .int) 1 23 0 0 [.ref a0, .int x1, .int x2, .int x3, .int x4, .int x5] M (some (.int o.1)) o.2 := by
  unfold pX9_feed at h
  obtain ⟨hob, h⟩ := mm_v_some h
  refine ⟨hob, mm_enter (by decide) (Nat.le_of_ble_eq_true rfl) (fun p e s m args below meth c ls X hr hlk hnm I hl => ?_)⟩
  have X : mm_C D dA lo cX9_feed RX9 8 p s m args c := X
  have hl : lv_has ls 8 [(0, .ref a0), (1, .int x1), (2, .int x2), (3, .int x3), (4, .int x4), (5, .int x5)] := hl
  refine lv_aload_n X.1 X.2.1 dX9_feed_0 rfl (lv_at hl 0 rfl) ?_
  refine mm_rgr X I fl_X9_10 dX9_feed_1 h (fun v1 h => ?_)
  refine mm_rgi X I fl_X9_76 dX9_feed_4 h (fun v2 h => ?_)
  refine lv_istore (lv' := [(6, .int v2), (0, .ref a0), (1, .int x1), (2, .int x2), (3, .int x3), (4, .int x4), (5, .int x5)]) X.1 X.2.1 dX9_feed_7 hl (by decide) rfl (fun ls hl => ?_)
  refine lv_aload_n X.1 X.2.1 dX9_feed_9 rfl (lv_at hl 1 rfl) ?_
  refine mm_rgr X I fl_X9_10 dX9_feed_10 h (fun v3 h => ?_)
  refine lv_iload_n X.1 X.2.1 dX9_feed_13 rfl (lv_at hl 2 rfl) ?_
  refine mm_cVi X I hl (As := [.int x1]) (ci := 8) md_X8_append mv_X8_append ml_X9_80 rfl (kX8_append (n := n)) (by decide) ⟨Nat.le_refl 0, Nat.le_refl 0⟩ rfl rfl (Nat.le_of_ble_eq_true rfl) dX9_feed_14 h (fun v4 M H locs I h => ?_)
  refine mm_jeq (tgt := 70) X dX9_feed_17 (by decide) h (fun h => ?_) (fun h => ?_)
  · refine lv_iconst (v := 0) X.1 X.2.1 dX9_feed_70 (by decide) ?_
    exact wpX9_feed_b71 X hr hlk n  M _ _ _ _ _ _ I (lv_sub hl [1, 0] rfl) h
  · refine lv_aload_n X.1 X.2.1 dX9_feed_20 rfl (lv_at hl 1 rfl) ?_
    refine mm_rgr X I fl_X9_10 dX9_feed_21 h (fun v5 h => ?_)
    refine lv_iload_n X.1 X.2.1 dX9_feed_24 rfl (lv_at hl 3 rfl) ?_
    refine mm_cVi X I hl (As := [.int x2]) (ci := 8) md_X8_append mv_X8_append ml_X9_80 rfl (kX8_append (n := n)) (by decide) ⟨Nat.le_refl 0, Nat.le_refl 0⟩ rfl rfl (Nat.le_of_ble_eq_true rfl) dX9_feed_25 h (fun v6 M H locs I h => ?_)
    refine mm_jeq (tgt := 70) X dX9_feed_28 (by decide) h (fun h => ?_) (fun h => ?_)
    · refine lv_iconst (v := 0) X.1 X.2.1 dX9_feed_70 (by decide) ?_
      exact wpX9_feed_b71 X hr hlk n  M _ _ _ _ _ _ I (lv_sub hl [1, 0] rfl) h
    · refine lv_aload_n X.1 X.2.1 dX9_feed_31 rfl (lv_at hl 1 rfl) ?_
      refine mm_rgr X I fl_X9_10 dX9_feed_32 h (fun v7 h => ?_)
      refine lv_iload_n X.1 X.2.1 dX9_feed_35 rfl (lv_at hl 4 rfl) ?_
      refine mm_cVi X I hl (As := [.int x3]) (ci := 8) md_X8_append mv_X8_append ml_X9_80 rfl (kX8_append (n := n)) (by decide) ⟨Nat.le_refl 0, Nat.le_refl 0⟩ rfl rfl (Nat.le_of_ble_eq_true rfl) dX9_feed_36 h (fun v8 M H locs I h => ?_)
      refine mm_jeq (tgt := 70) X dX9_feed_39 (by decide) h (fun h => ?_) (fun h => ?_)
      · refine lv_iconst (v := 0) X.1 X.2.1 dX9_feed_70 (by decide) ?_
        exact wpX9_feed_b71 X hr hlk n  M _ _ _ _ _ _ I (lv_sub hl [1, 0] rfl) h
      · refine lv_aload_n X.1 X.2.1 dX9_feed_42 rfl (lv_at hl 1 rfl) ?_
        refine mm_rgr X I fl_X9_10 dX9_feed_43 h (fun v9 h => ?_)
        refine lv_iload X.1 X.2.1 dX9_feed_46 (lv_at hl 5 rfl) ?_
        refine mm_cVi X I hl (As := [.int x4]) (ci := 8) md_X8_append mv_X8_append ml_X9_80 rfl (kX8_append (n := n)) (by decide) ⟨Nat.le_refl 0, Nat.le_refl 0⟩ rfl rfl (Nat.le_of_ble_eq_true rfl) dX9_feed_48 h (fun v10 M H locs I h => ?_)
        refine mm_jeq (tgt := 70) X dX9_feed_51 (by decide) h (fun h => ?_) (fun h => ?_)
        · refine lv_iconst (v := 0) X.1 X.2.1 dX9_feed_70 (by decide) ?_
          exact wpX9_feed_b71 X hr hlk n  M _ _ _ _ _ _ I (lv_sub hl [1, 0] rfl) h
        · refine lv_aload_n X.1 X.2.1 dX9_feed_54 rfl (lv_at hl 1 rfl) ?_
          refine mm_rgr X I fl_X9_10 dX9_feed_55 h (fun v11 h => ?_)
          refine lv_iload X.1 X.2.1 dX9_feed_58 (lv_at hl 6 rfl) ?_
          refine mm_cVi X I hl (As := [.int x5]) (ci := 8) md_X8_append mv_X8_append ml_X9_80 rfl (kX8_append (n := n)) (by decide) ⟨Nat.le_refl 0, Nat.le_refl 0⟩ rfl rfl (Nat.le_of_ble_eq_true rfl) dX9_feed_60 h (fun v12 M H locs I h => ?_)
          refine mm_jeq (tgt := 70) X dX9_feed_63 (by decide) h (fun h => ?_) (fun h => ?_)
          · refine lv_iconst (v := 0) X.1 X.2.1 dX9_feed_70 (by decide) ?_
            exact wpX9_feed_b71 X hr hlk n  M _ _ _ _ _ _ I (lv_sub hl [1, 0] rfl) h
          · refine lv_iconst (v := 1) X.1 X.2.1 dX9_feed_66 (by decide) ?_
            refine lv_goto (tgt := 71) X.1 X.2.1 dX9_feed_67 (by decide) ?_
            exact wpX9_feed_b71 X hr hlk n  M _ _ _ _ _ _ I (lv_sub hl [1, 0] rfl) h
set_option maxHeartbeats 4000000 in
set_option maxRecDepth 100000 in
theorem kX9_end {l : Launch} {D : va_G} {dA : Nat → ClassId} {lo : Nat} {n : Nat} {M : mm_M} {a0 : Nat} {x1 : Int32} (o : Int32 × mm_M) (h : pX9_end n M a0 x1 = some o) : (∃ fs, M.2 a0 = some (mm_ob 9 fs)) ∧ mm_Met l D dA lo yX9_end cX9_end 2 (some .boolean) 0 0 0 0 [.ref a0, .int x1] M (some (.int o.1)) o.2 := by
  unfold pX9_end at h
  obtain ⟨hob, h⟩ := mm_v_some h
  refine ⟨hob, mm_enter (by decide) (Nat.le_of_ble_eq_true rfl) (fun p e s m args below meth c ls X hr hlk hnm I hl => ?_)⟩
  have X : mm_C D dA lo cX9_end RX9 2 p s m args c := X
  have hl : lv_has ls 2 [(0, .ref a0), (1, .int x1)] := hl
  refine lv_iload_n X.1 X.2.1 dX9_end_0 rfl (lv_at hl 1 rfl) ?_
  refine mm_jlt (tgt := 15) X dX9_end_1 (by decide) h (fun h => ?_) (fun h => ?_)
  · refine lv_iconst (v := 0) X.1 X.2.1 dX9_end_15 (by decide) ?_
    exact mm_xz0 X I hr hlk dX9_end_16 h
  · refine lv_iload_n X.1 X.2.1 dX9_end_4 rfl (lv_at hl 1 rfl) ?_
    refine lv_aload_n X.1 X.2.1 dX9_end_5 rfl (lv_at hl 0 rfl) ?_
    refine mm_rgr X I fl_X9_10 dX9_end_6 h (fun v1 h => ?_)
    refine mm_rgi X I fl_X9_76 dX9_end_9 h (fun v2 h => ?_)
    refine mm_kle (tgt := 17) X dX9_end_12 (by decide) h (fun h => ?_) (fun h => ?_)
    · refine lv_aload_n X.1 X.2.1 dX9_end_17 rfl (lv_at hl 0 rfl) ?_
      refine mm_rgr X I fl_X9_10 dX9_end_18 h (fun v3 h => ?_)
      refine lv_iload_n X.1 X.2.1 dX9_end_21 rfl (lv_at hl 1 rfl) ?_
      refine mm_rpi X I fl_X9_76 dX9_end_22 h (fun M H locs I h => ?_)
      refine lv_iconst (v := 1) X.1 X.2.1 dX9_end_25 (by decide) ?_
      exact mm_xz1 X I hr hlk dX9_end_26 h
    · refine lv_iconst (v := 0) X.1 X.2.1 dX9_end_15 (by decide) ?_
      exact mm_xz0 X I hr hlk dX9_end_16 h
set_option maxHeartbeats 4000000 in
set_option maxRecDepth 100000 in
theorem kX9_fault {l : Launch} {D : va_G} {dA : Nat → ClassId} {lo : Nat} {n : Nat} {M : mm_M} {a0 : Nat} {x1 : Int32} (o : Int32 × mm_M) (h : pX9_fault n M a0 x1 = some o) : (∃ fs, M.2 a0 = some (mm_ob 9 fs)) ∧ mm_Met l D dA lo yX9_fault cX9_fault 2 (some .int) 4 88 0 0 [.ref a0, .int x1] M (some (.int o.1)) o.2 := by
  unfold pX9_fault at h
  obtain ⟨hob, h⟩ := mm_v_some h
  refine ⟨hob, mm_enter (by decide) (Nat.le_of_ble_eq_true rfl) (fun p e s m args below meth c ls X hr hlk hnm I hl => ?_)⟩
  have X : mm_C D dA lo cX9_fault RX9 2 p s m args c := X
  have hl : lv_has ls 2 [(0, .ref a0), (1, .int x1)] := hl
  refine lv_iload_n X.1 X.2.1 dX9_fault_0 rfl (lv_at hl 1 rfl) ?_
  by_cases z1_0 : x1 = 0
  · have h := mm_t z1_0 h
    refine lv_tableIn (tgt := 32) (off := 31) X.1 X.2.1 dX9_fault_1 (by rw [z1_0]; decide) (by rw [z1_0]; decide) (by rw [z1_0]; rfl) (by decide) ?_
    refine lv_aload_n X.1 X.2.1 dX9_fault_32 rfl (lv_at hl 0 rfl) ?_
    refine mm_rgr X I fl_X9_10 dX9_fault_33 h (fun v2 h => ?_)
    refine lv_aload_n X.1 X.2.1 dX9_fault_36 rfl (lv_at hl 0 rfl) ?_
    refine mm_rgr X I fl_X9_19 dX9_fault_37 h (fun v3 h => ?_)
    refine mm_cVi X I hl (As := [.ref v3]) (ci := 8) md_X8_storeFault mv_X8_storeFault ml_X9_84 rfl (kX8_storeFault (n := n)) (by decide) ⟨Nat.le_refl 0, Nat.le_refl 0⟩ rfl rfl (Nat.le_of_ble_eq_true rfl) dX9_fault_40 h (fun v4 M H locs I h => ?_)
    exact mm_xi X I hr hlk dX9_fault_43 h
  · have h := mm_f z1_0 h
    by_cases z1_1 : x1 = 1
    · have h := mm_t z1_1 h
      refine lv_tableIn (tgt := 44) (off := 43) X.1 X.2.1 dX9_fault_1 (by rw [z1_1]; decide) (by rw [z1_1]; decide) (by rw [z1_1]; rfl) (by decide) ?_
      refine lv_aload_n X.1 X.2.1 dX9_fault_44 rfl (lv_at hl 0 rfl) ?_
      refine mm_rgr X I fl_X9_10 dX9_fault_45 h (fun v5 h => ?_)
      refine lv_aload_n X.1 X.2.1 dX9_fault_48 rfl (lv_at hl 0 rfl) ?_
      refine mm_rgr X I fl_X9_52 dX9_fault_49 h (fun v6 h => ?_)
      refine lv_aload_n X.1 X.2.1 dX9_fault_52 rfl (lv_at hl 0 rfl) ?_
      refine mm_rgi X I fl_X9_88 dX9_fault_53 h (fun v7 h => ?_)
      refine mm_rra X I dX9_fault_56 h (fun v8 h => ?_)
      refine mm_cVi X I hl (As := [.ref v8]) (ci := 8) md_X8_scriptFault mv_X8_scriptFault ml_X9_91 rfl (kX8_scriptFault (n := n)) (by decide) ⟨Nat.le_refl 0, Nat.le_refl 0⟩ rfl rfl (Nat.le_of_ble_eq_true rfl) dX9_fault_57 h (fun v9 M H locs I h => ?_)
      exact mm_xi X I hr hlk dX9_fault_60 h
    · have h := mm_f z1_1 h
      by_cases z1_2 : x1 = 2
      · have h := mm_t z1_2 h
        refine lv_tableIn (tgt := 61) (off := 60) X.1 X.2.1 dX9_fault_1 (by rw [z1_2]; decide) (by rw [z1_2]; decide) (by rw [z1_2]; rfl) (by decide) ?_
        refine lv_aload_n X.1 X.2.1 dX9_fault_61 rfl (lv_at hl 0 rfl) ?_
        refine mm_rgr X I fl_X9_10 dX9_fault_62 h (fun v10 h => ?_)
        refine lv_aload_n X.1 X.2.1 dX9_fault_65 rfl (lv_at hl 0 rfl) ?_
        refine mm_rgr X I fl_X9_40 dX9_fault_66 h (fun v11 h => ?_)
        refine lv_bipush (v := 20) X.1 X.2.1 dX9_fault_69 (by decide) ?_
        refine mm_cVi X I hl (As := [.ref v11, .int 20]) (ci := 8) md_X8_rowFault mv_X8_rowFault ml_X9_95 rfl (kX8_rowFault (n := n)) (by decide) ⟨Nat.le_refl 0, Nat.le_refl 0⟩ rfl rfl (Nat.le_of_ble_eq_true rfl) dX9_fault_71 h (fun v12 M H locs I h => ?_)
        exact mm_xi X I hr hlk dX9_fault_74 h
      · have h := mm_f z1_2 h
        by_cases z1_3 : x1 = 3
        · have h := mm_t z1_3 h
          refine lv_tableIn (tgt := 75) (off := 74) X.1 X.2.1 dX9_fault_1 (by rw [z1_3]; decide) (by rw [z1_3]; decide) (by rw [z1_3]; rfl) (by decide) ?_
          refine lv_aload_n X.1 X.2.1 dX9_fault_75 rfl (lv_at hl 0 rfl) ?_
          refine mm_rgr X I fl_X9_10 dX9_fault_76 h (fun v13 h => ?_)
          refine lv_aload_n X.1 X.2.1 dX9_fault_79 rfl (lv_at hl 0 rfl) ?_
          refine mm_rgr X I fl_X9_40 dX9_fault_80 h (fun v14 h => ?_)
          refine lv_bipush (v := 6) X.1 X.2.1 dX9_fault_83 (by decide) ?_
          refine mm_cVi X I hl (As := [.ref v14, .int 6]) (ci := 8) md_X8_rowFault mv_X8_rowFault ml_X9_95 rfl (kX8_rowFault (n := n)) (by decide) ⟨Nat.le_refl 0, Nat.le_refl 0⟩ rfl rfl (Nat.le_of_ble_eq_true rfl) dX9_fault_85 h (fun v15 M H locs I h => ?_)
          exact mm_xi X I hr hlk dX9_fault_88 h
        · have h := mm_f z1_3 h
          have z1_q0 : ¬ Int32.toInt x1 = 0 := fun q => z1_0 (Int32.toInt_inj.mp q)
          have z1_q1 : ¬ Int32.toInt x1 = 1 := fun q => z1_1 (Int32.toInt_inj.mp q)
          have z1_q2 : ¬ Int32.toInt x1 = 2 := fun q => z1_2 (Int32.toInt_inj.mp q)
          have z1_q3 : ¬ Int32.toInt x1 = 3 := fun q => z1_3 (Int32.toInt_inj.mp q)
          refine mm_tdef (tgt := 89) X dX9_fault_1 (by decide) (fun i hi hq => ?_) (by decide) ?_
          · rcases (show i = 0 ∨ i = 1 ∨ i = 2 ∨ i = 3 by simp at hi; omega) with rfl | rfl | rfl | rfl
            · exact absurd hq (by omega)
            · exact absurd hq (by omega)
            · exact absurd hq (by omega)
            · exact absurd hq (by omega)
          · refine lv_bipush (v := (-2)) X.1 X.2.1 dX9_fault_89 (by decide) ?_
            exact mm_xi X I hr hlk dX9_fault_91 h
set_option maxHeartbeats 4000000 in
set_option maxRecDepth 100000 in
theorem kX9_forgetRankings {l : Launch} {D : va_G} {dA : Nat → ClassId} {lo : Nat} {n : Nat} {M : mm_M} {a0 : Nat} (o : mm_M) (h : pX9_forgetRankings n M a0 = some o) : (∃ fs, M.2 a0 = some (mm_ob 9 fs)) ∧ mm_Met l D dA lo yX9_forgetRankings cX9_forgetRankings 1 none 0 0 0 0 [.ref a0] M none o := by
  unfold pX9_forgetRankings at h
  obtain ⟨hob, h⟩ := mm_v_some h
  refine ⟨hob, mm_enter (by decide) (Nat.le_of_ble_eq_true rfl) (fun p e s m args below meth c ls X hr hlk hnm I hl => ?_)⟩
  have X : mm_C D dA lo cX9_forgetRankings RX9 1 p s m args c := X
  have hl : lv_has ls 1 [(0, .ref a0)] := hl
  refine lv_aload_n X.1 X.2.1 dX9_forgetRankings_0 rfl (lv_at hl 0 rfl) ?_
  refine mm_rgr X I fl_X9_68 dX9_forgetRankings_1 h (fun v1 h => ?_)
  refine lv_iconst (v := 0) X.1 X.2.1 dX9_forgetRankings_4 (by decide) ?_
  refine mm_rpz X I fl_X9_347 dX9_forgetRankings_5 h (fun M H locs I h => ?_)
  refine lv_aload_n X.1 X.2.1 dX9_forgetRankings_8 rfl (lv_at hl 0 rfl) ?_
  refine mm_rgr X I fl_X9_72 dX9_forgetRankings_9 h (fun v2 h => ?_)
  refine lv_iconst (v := 0) X.1 X.2.1 dX9_forgetRankings_12 (by decide) ?_
  refine mm_rpz X I fl_X9_347 dX9_forgetRankings_13 h (fun M H locs I h => ?_)
  exact mm_xv X I hr hlk dX9_forgetRankings_16 h
set_option maxHeartbeats 4000000 in
set_option maxRecDepth 100000 in
theorem kX9_takeStore {l : Launch} {D : va_G} {dA : Nat → ClassId} {lo : Nat} {n : Nat} {M : mm_M} {a0 : Nat} (o : Int32 × mm_M) (h : pX9_takeStore n M a0 = some o) : (∃ fs, M.2 a0 = some (mm_ob 9 fs)) ∧ mm_Met l D dA lo yX9_takeStore cX9_takeStore 1 (some .int) 5 125 0 0 [.ref a0] M (some (.int o.1)) o.2 := by
  unfold pX9_takeStore at h
  obtain ⟨hob, h⟩ := mm_v_some h
  refine ⟨hob, mm_enter (by decide) (Nat.le_of_ble_eq_true rfl) (fun p e s m args below meth c ls X hr hlk hnm I hl => ?_)⟩
  have X : mm_C D dA lo cX9_takeStore RX9 1 p s m args c := X
  have hl : lv_has ls 1 [(0, .ref a0)] := hl
  refine lv_aload_n X.1 X.2.1 dX9_takeStore_0 rfl (lv_at hl 0 rfl) ?_
  refine mm_rgr X I fl_X9_10 dX9_takeStore_1 h (fun v1 h => ?_)
  refine lv_aload_n X.1 X.2.1 dX9_takeStore_4 rfl (lv_at hl 0 rfl) ?_
  refine mm_rgr X I fl_X9_19 dX9_takeStore_5 h (fun v2 h => ?_)
  refine mm_cVi X I hl (As := [.ref v2]) (ci := 8) md_X8_storeFault mv_X8_storeFault ml_X9_84 rfl (kX8_storeFault (n := n)) (by decide) ⟨Nat.le_refl 0, Nat.le_refl 0⟩ rfl rfl (Nat.le_of_ble_eq_true rfl) dX9_takeStore_8 h (fun v3 M H locs I h => ?_)
  refine lv_iconst (v := (-1)) X.1 X.2.1 dX9_takeStore_11 (by decide) ?_
  refine mm_keq (tgt := 17) X dX9_takeStore_12 (by decide) h (fun h => ?_) (fun h => ?_)
  · refine lv_aload_n X.1 X.2.1 dX9_takeStore_17 rfl (lv_at hl 0 rfl) ?_
    refine mm_rgr X I fl_X9_10 dX9_takeStore_18 h (fun v4 h => ?_)
    refine lv_iconst (v := 0) X.1 X.2.1 dX9_takeStore_21 (by decide) ?_
    refine mm_rpi X I fl_X9_76 dX9_takeStore_22 h (fun M H locs I h => ?_)
    refine lv_aload_n X.1 X.2.1 dX9_takeStore_25 rfl (lv_at hl 0 rfl) ?_
    refine mm_rgr X I fl_X9_60 dX9_takeStore_26 h (fun v5 h => ?_)
    refine lv_aload_n X.1 X.2.1 dX9_takeStore_29 rfl (lv_at hl 0 rfl) ?_
    refine mm_rgr X I fl_X9_19 dX9_takeStore_30 h (fun v6 h => ?_)
    refine mm_cVv X I hl (As := [.ref v6]) (ci := 6) md_X6_copyFrom mv_X6_copyFrom ml_X9_106 rfl (kX6_copyFrom (n := n)) (by decide) ⟨Nat.le_refl 0, Nat.le_refl 0⟩ rfl rfl (Nat.le_of_ble_eq_true rfl) dX9_takeStore_33 h (fun M H locs I h => ?_)
    refine lv_aload_n X.1 X.2.1 dX9_takeStore_36 rfl (lv_at hl 0 rfl) ?_
    refine mm_rgr X I fl_X9_33 dX9_takeStore_37 h (fun v8 h => ?_)
    refine lv_iconst (v := 0) X.1 X.2.1 dX9_takeStore_40 (by decide) ?_
    refine mm_rpi X I fl_X9_109 dX9_takeStore_41 h (fun M H locs I h => ?_)
    refine lv_aload_n X.1 X.2.1 dX9_takeStore_44 rfl (lv_at hl 0 rfl) ?_
    refine lv_iconst (v := 0) X.1 X.2.1 dX9_takeStore_45 (by decide) ?_
    refine mm_rpi X I fl_X9_110 dX9_takeStore_46 h (fun M H locs I h => ?_)
    refine lv_aload_n X.1 X.2.1 dX9_takeStore_49 rfl (lv_at hl 0 rfl) ?_
    refine lv_iconst (v := 0) X.1 X.2.1 dX9_takeStore_50 (by decide) ?_
    refine mm_rpz X I fl_X9_113 dX9_takeStore_51 h (fun M H locs I h => ?_)
    refine lv_aload_n X.1 X.2.1 dX9_takeStore_54 rfl (lv_at hl 0 rfl) ?_
    refine mm_cVv X I hl (As := []) (ci := 9) md_X9_forgetRankings mv_X9_forgetRankings ml_X9_117 rfl (kX9_forgetRankings (n := n)) (by decide) ⟨Nat.le_refl 0, Nat.le_refl 0⟩ rfl rfl (Nat.le_of_ble_eq_true rfl) dX9_takeStore_55 h (fun M H locs I h => ?_)
    refine lv_aload_n X.1 X.2.1 dX9_takeStore_58 rfl (lv_at hl 0 rfl) ?_
    refine mm_rgr X I fl_X9_60 dX9_takeStore_59 h (fun v10 h => ?_)
    refine mm_rgi X I fl_X9_120 dX9_takeStore_62 h (fun v11 h => ?_)
    exact mm_xi X I hr hlk dX9_takeStore_65 h
  · refine lv_iconst (v := (-1)) X.1 X.2.1 dX9_takeStore_15 (by decide) ?_
    exact mm_xi X I hr hlk dX9_takeStore_16 h
set_option maxHeartbeats 4000000 in
set_option maxRecDepth 100000 in
theorem kX9_takeScript {l : Launch} {D : va_G} {dA : Nat → ClassId} {lo : Nat} {n : Nat} {M : mm_M} {a0 : Nat} (o : Int32 × mm_M) (h : pX9_takeScript n M a0 = some o) : (∃ fs, M.2 a0 = some (mm_ob 9 fs)) ∧ mm_Met l D dA lo yX9_takeScript cX9_takeScript 1 (some .int) 4 88 0 0 [.ref a0] M (some (.int o.1)) o.2 := by
  unfold pX9_takeScript at h
  obtain ⟨hob, h⟩ := mm_v_some h
  refine ⟨hob, mm_enter (by decide) (Nat.le_of_ble_eq_true rfl) (fun p e s m args below meth c ls X hr hlk hnm I hl => ?_)⟩
  have X : mm_C D dA lo cX9_takeScript RX9 1 p s m args c := X
  have hl : lv_has ls 1 [(0, .ref a0)] := hl
  refine lv_aload_n X.1 X.2.1 dX9_takeScript_0 rfl (lv_at hl 0 rfl) ?_
  refine mm_rgi X I fl_X9_88 dX9_takeScript_1 h (fun v1 h => ?_)
  refine lv_iconst (v := 4) X.1 X.2.1 dX9_takeScript_4 (by decide) ?_
  refine mm_kge (tgt := 28) X dX9_takeScript_5 (by decide) h (fun h => ?_) (fun h => ?_)
  · refine lv_iconst (v := (-1)) X.1 X.2.1 dX9_takeScript_28 (by decide) ?_
    exact mm_xi X I hr hlk dX9_takeScript_29 h
  · refine lv_aload_n X.1 X.2.1 dX9_takeScript_8 rfl (lv_at hl 0 rfl) ?_
    refine mm_rgr X I fl_X9_10 dX9_takeScript_9 h (fun v2 h => ?_)
    refine lv_aload_n X.1 X.2.1 dX9_takeScript_12 rfl (lv_at hl 0 rfl) ?_
    refine mm_rgr X I fl_X9_52 dX9_takeScript_13 h (fun v3 h => ?_)
    refine lv_aload_n X.1 X.2.1 dX9_takeScript_16 rfl (lv_at hl 0 rfl) ?_
    refine mm_rgi X I fl_X9_88 dX9_takeScript_17 h (fun v4 h => ?_)
    refine mm_rra X I dX9_takeScript_20 h (fun v5 h => ?_)
    refine mm_cVi X I hl (As := [.ref v5]) (ci := 8) md_X8_scriptFault mv_X8_scriptFault ml_X9_91 rfl (kX8_scriptFault (n := n)) (by decide) ⟨Nat.le_refl 0, Nat.le_refl 0⟩ rfl rfl (Nat.le_of_ble_eq_true rfl) dX9_takeScript_21 h (fun v6 M H locs I h => ?_)
    refine lv_iconst (v := (-1)) X.1 X.2.1 dX9_takeScript_24 (by decide) ?_
    refine mm_keq (tgt := 30) X dX9_takeScript_25 (by decide) h (fun h => ?_) (fun h => ?_)
    · refine lv_aload_n X.1 X.2.1 dX9_takeScript_30 rfl (lv_at hl 0 rfl) ?_
      refine mm_rgr X I fl_X9_10 dX9_takeScript_31 h (fun v7 h => ?_)
      refine lv_iconst (v := 0) X.1 X.2.1 dX9_takeScript_34 (by decide) ?_
      refine mm_rpi X I fl_X9_76 dX9_takeScript_35 h (fun M H locs I h => ?_)
      refine lv_aload_n X.1 X.2.1 dX9_takeScript_38 rfl (lv_at hl 0 rfl) ?_
      refine lv_dup X.1 X.2.1 dX9_takeScript_39 rfl ?_
      refine mm_rgi X I fl_X9_88 dX9_takeScript_40 h (fun v8 h => ?_)
      refine lv_iconst (v := 1) X.1 X.2.1 dX9_takeScript_43 (by decide) ?_
      refine lv_iadd X.1 X.2.1 dX9_takeScript_44 ?_
      refine mm_rpi X I fl_X9_88 dX9_takeScript_45 h (fun M H locs I h => ?_)
      refine lv_aload_n X.1 X.2.1 dX9_takeScript_48 rfl (lv_at hl 0 rfl) ?_
      refine mm_rgi X I fl_X9_88 dX9_takeScript_49 h (fun v9 h => ?_)
      refine lv_iconst (v := 1) X.1 X.2.1 dX9_takeScript_52 (by decide) ?_
      refine lv_isub X.1 X.2.1 dX9_takeScript_53 ?_
      exact mm_xi X I hr hlk dX9_takeScript_54 h
    · refine lv_iconst (v := (-1)) X.1 X.2.1 dX9_takeScript_28 (by decide) ?_
      exact mm_xi X I hr hlk dX9_takeScript_29 h
set_option maxHeartbeats 4000000 in
set_option maxRecDepth 100000 in
theorem kX9_text {l : Launch} {D : va_G} {dA : Nat → ClassId} {lo : Nat} {n : Nat} {M : mm_M} {a0 : Nat} {x1 : Int32} (o : Int32 × mm_M) (h : pX9_text n M a0 x1 = some o) : (∃ fs, M.2 a0 = some (mm_ob 9 fs)) ∧ mm_Met l D dA lo yX9_text cX9_text 2 (some .int) 6 145 0 0 [.ref a0, .int x1] M (some (.int o.1)) o.2 := by
  unfold pX9_text at h
  obtain ⟨hob, h⟩ := mm_v_some h
  refine ⟨hob, mm_enter (by decide) (Nat.le_of_ble_eq_true rfl) (fun p e s m args below meth c ls X hr hlk hnm I hl => ?_)⟩
  have X : mm_C D dA lo cX9_text RX9 2 p s m args c := X
  have hl : lv_has ls 2 [(0, .ref a0), (1, .int x1)] := hl
  refine lv_iload_n X.1 X.2.1 dX9_text_0 rfl (lv_at hl 1 rfl) ?_
  by_cases z1_0 : x1 = 0
  · have h := mm_t z1_0 h
    refine lv_lookup (tgt := 28) (off := 27) X.1 X.2.1 dX9_text_1 (by decide) (by rw [z1_0]; rfl) (by decide) ?_
    refine lv_aload_n X.1 X.2.1 dX9_text_28 rfl (lv_at hl 0 rfl) ?_
    refine mm_cVi X I hl (As := []) (ci := 9) md_X9_takeStore mv_X9_takeStore ml_X9_99 rfl (kX9_takeStore (n := n)) (by decide) ⟨Nat.le_refl 0, Nat.le_refl 0⟩ rfl rfl (Nat.le_of_ble_eq_true rfl) dX9_text_29 h (fun v2 M H locs I h => ?_)
    exact mm_xi X I hr hlk dX9_text_32 h
  · have h := mm_f z1_0 h
    by_cases z1_1 : x1 = 1
    · have h := mm_t z1_1 h
      refine lv_lookup (tgt := 33) (off := 32) X.1 X.2.1 dX9_text_1 (by decide) (by rw [z1_1]; rfl) (by decide) ?_
      refine lv_aload_n X.1 X.2.1 dX9_text_33 rfl (lv_at hl 0 rfl) ?_
      refine mm_cVi X I hl (As := []) (ci := 9) md_X9_takeScript mv_X9_takeScript ml_X9_103 rfl (kX9_takeScript (n := n)) (by decide) ⟨Nat.le_refl 0, Nat.le_refl 0⟩ rfl rfl (Nat.le_of_ble_eq_true rfl) dX9_text_34 h (fun v3 M H locs I h => ?_)
      exact mm_xi X I hr hlk dX9_text_37 h
    · have h := mm_f z1_1 h
      have z1_q0 : ¬ Int32.toInt x1 = 0 := fun q => z1_0 (Int32.toInt_inj.mp q)
      have z1_q1 : ¬ Int32.toInt x1 = 1 := fun q => z1_1 (Int32.toInt_inj.mp q)
      refine lv_lookup (tgt := 38) (off := 37) X.1 X.2.1 dX9_text_1 (by decide) (by simp [Op.lookupswitch.offset, z1_q0, Ne.symm z1_q0, z1_q1, Ne.symm z1_q1]) (by decide) ?_
      refine lv_iconst (v := (-1)) X.1 X.2.1 dX9_text_38 (by decide) ?_
      exact mm_xi X I hr hlk dX9_text_39 h
set_option maxHeartbeats 4000000 in
set_option maxRecDepth 100000 in
theorem kX9_rankedHits {l : Launch} {D : va_G} {dA : Nat → ClassId} {lo : Nat} {n : Nat} {M : mm_M} {a0 : Nat} (o : Nat × mm_M) (h : pX9_rankedHits n M a0 = some o) : (∃ fs, M.2 a0 = some (mm_ob 9 fs)) ∧ mm_Met l D dA lo yX9_rankedHits cX9_rankedHits 1 (some (.object "KwicStore$Ranking")) 4 106 0 0 [.ref a0] M (some (.ref o.1)) o.2 := by
  unfold pX9_rankedHits at h
  obtain ⟨hob, h⟩ := mm_v_some h
  refine ⟨hob, mm_enter (by decide) (Nat.le_of_ble_eq_true rfl) (fun p e s m args below meth c ls X hr hlk hnm I hl => ?_)⟩
  have X : mm_C D dA lo cX9_rankedHits RX9 1 p s m args c := X
  have hl : lv_has ls 1 [(0, .ref a0)] := hl
  refine lv_aload_n X.1 X.2.1 dX9_rankedHits_0 rfl (lv_at hl 0 rfl) ?_
  refine mm_rgr X I fl_X9_68 dX9_rankedHits_1 h (fun v1 h => ?_)
  refine mm_rgi X I fl_X9_347 dX9_rankedHits_4 h (fun v2 h => ?_)
  refine mm_jne (tgt := 47) X dX9_rankedHits_7 (by decide) h (fun h => ?_) (fun h => ?_)
  · refine lv_aload_n X.1 X.2.1 dX9_rankedHits_47 rfl (lv_at hl 0 rfl) ?_
    refine mm_rgr X I fl_X9_68 dX9_rankedHits_48 h (fun v3 h => ?_)
    exact mm_xr X I hr (Or.inl ⟨_, rfl⟩) hlk dX9_rankedHits_51 h
  · refine lv_aload_n X.1 X.2.1 dX9_rankedHits_10 rfl (lv_at hl 0 rfl) ?_
    refine mm_rgr X I fl_X9_68 dX9_rankedHits_11 h (fun v4 h => ?_)
    refine lv_iconst (v := 0) X.1 X.2.1 dX9_rankedHits_14 (by decide) ?_
    refine mm_rpi X I fl_X9_130 dX9_rankedHits_15 h (fun M H locs I h => ?_)
    refine lv_aload_n X.1 X.2.1 dX9_rankedHits_18 rfl (lv_at hl 0 rfl) ?_
    refine mm_rgr X I fl_X9_33 dX9_rankedHits_19 h (fun v5 h => ?_)
    refine mm_rgi X I fl_X9_109 dX9_rankedHits_22 h (fun v6 h => ?_)
    refine mm_jle (tgt := 39) X dX9_rankedHits_25 (by decide) h (fun h => ?_) (fun h => ?_)
    · refine lv_aload_n X.1 X.2.1 dX9_rankedHits_39 rfl (lv_at hl 0 rfl) ?_
      refine mm_rgr X I fl_X9_68 dX9_rankedHits_40 h (fun v7 h => ?_)
      refine lv_iconst (v := 1) X.1 X.2.1 dX9_rankedHits_43 (by decide) ?_
      refine mm_rpz X I fl_X9_347 dX9_rankedHits_44 h (fun M H locs I h => ?_)
      refine lv_aload_n X.1 X.2.1 dX9_rankedHits_47 rfl (lv_at hl 0 rfl) ?_
      refine mm_rgr X I fl_X9_68 dX9_rankedHits_48 h (fun v8 h => ?_)
      exact mm_xr X I hr (Or.inl ⟨_, rfl⟩) hlk dX9_rankedHits_51 h
    · refine lv_aload_n X.1 X.2.1 dX9_rankedHits_28 rfl (lv_at hl 0 rfl) ?_
      refine mm_rgr X I fl_X9_68 dX9_rankedHits_29 h (fun v9 h => ?_)
      refine lv_aload_n X.1 X.2.1 dX9_rankedHits_32 rfl (lv_at hl 0 rfl) ?_
      refine mm_rgr X I fl_X9_33 dX9_rankedHits_33 h (fun v10 h => ?_)
      refine mm_cVv X I hl (As := [.ref v10]) (ci := 3) md_X3_fill mv_X3_fill ml_X9_350 rfl (kX3_fill (n := n)) (by decide) ⟨Nat.le_refl 0, Nat.le_refl 0⟩ rfl rfl (Nat.le_of_ble_eq_true rfl) dX9_rankedHits_36 h (fun M H locs I h => ?_)
      refine lv_aload_n X.1 X.2.1 dX9_rankedHits_39 rfl (lv_at hl 0 rfl) ?_
      refine mm_rgr X I fl_X9_68 dX9_rankedHits_40 h (fun v12 h => ?_)
      refine lv_iconst (v := 1) X.1 X.2.1 dX9_rankedHits_43 (by decide) ?_
      refine mm_rpz X I fl_X9_347 dX9_rankedHits_44 h (fun M H locs I h => ?_)
      refine lv_aload_n X.1 X.2.1 dX9_rankedHits_47 rfl (lv_at hl 0 rfl) ?_
      refine mm_rgr X I fl_X9_68 dX9_rankedHits_48 h (fun v13 h => ?_)
      exact mm_xr X I hr (Or.inl ⟨_, rfl⟩) hlk dX9_rankedHits_51 h
set_option maxHeartbeats 4000000 in
set_option maxRecDepth 100000 in
theorem kX9_word {l : Launch} {D : va_G} {dA : Nat → ClassId} {lo : Nat} {n : Nat} {M : mm_M} {a0 : Nat} (o : Int32 × mm_M) (h : pX9_word n M a0 = some o) : (∃ fs, M.2 a0 = some (mm_ob 9 fs)) ∧ mm_Met l D dA lo yX9_word cX9_word 1 (some .int) 5 126 0 0 [.ref a0] M (some (.int o.1)) o.2 := by
  unfold pX9_word at h
  obtain ⟨hob, h⟩ := mm_v_some h
  refine ⟨hob, mm_enter (by decide) (Nat.le_of_ble_eq_true rfl) (fun p e s m args below meth c ls X hr hlk hnm I hl => ?_)⟩
  have X : mm_C D dA lo cX9_word RX9 1 p s m args c := X
  have hl : lv_has ls 1 [(0, .ref a0)] := hl
  refine lv_aload_n X.1 X.2.1 dX9_word_0 rfl (lv_at hl 0 rfl) ?_
  refine mm_rgr X I fl_X9_60 dX9_word_1 h (fun v1 h => ?_)
  refine mm_rgi X I fl_X9_120 dX9_word_4 h (fun v2 h => ?_)
  refine mm_jeq (tgt := 27) X dX9_word_7 (by decide) h (fun h => ?_) (fun h => ?_)
  · refine lv_iconst (v := (-1)) X.1 X.2.1 dX9_word_27 (by decide) ?_
    exact mm_xi X I hr hlk dX9_word_28 h
  · refine lv_aload_n X.1 X.2.1 dX9_word_10 rfl (lv_at hl 0 rfl) ?_
    refine mm_rgr X I fl_X9_10 dX9_word_11 h (fun v3 h => ?_)
    refine lv_aload_n X.1 X.2.1 dX9_word_14 rfl (lv_at hl 0 rfl) ?_
    refine mm_rgr X I fl_X9_40 dX9_word_15 h (fun v4 h => ?_)
    refine lv_bipush (v := 6) X.1 X.2.1 dX9_word_18 (by decide) ?_
    refine mm_cVi X I hl (As := [.ref v4, .int 6]) (ci := 8) md_X8_rowFault mv_X8_rowFault ml_X9_95 rfl (kX8_rowFault (n := n)) (by decide) ⟨Nat.le_refl 0, Nat.le_refl 0⟩ rfl rfl (Nat.le_of_ble_eq_true rfl) dX9_word_20 h (fun v5 M H locs I h => ?_)
    refine lv_iconst (v := (-1)) X.1 X.2.1 dX9_word_23 (by decide) ?_
    refine mm_keq (tgt := 29) X dX9_word_24 (by decide) h (fun h => ?_) (fun h => ?_)
    · refine lv_aload_n X.1 X.2.1 dX9_word_29 rfl (lv_at hl 0 rfl) ?_
      refine mm_rgr X I fl_X9_10 dX9_word_30 h (fun v6 h => ?_)
      refine lv_iconst (v := 0) X.1 X.2.1 dX9_word_33 (by decide) ?_
      refine mm_rpi X I fl_X9_76 dX9_word_34 h (fun M H locs I h => ?_)
      refine lv_aload_n X.1 X.2.1 dX9_word_37 rfl (lv_at hl 0 rfl) ?_
      refine mm_rgr X I fl_X9_33 dX9_word_38 h (fun v7 h => ?_)
      refine lv_aload_n X.1 X.2.1 dX9_word_41 rfl (lv_at hl 0 rfl) ?_
      refine mm_rgr X I fl_X9_40 dX9_word_42 h (fun v8 h => ?_)
      refine mm_cVv X I hl (As := [.ref v8]) (ci := 5) md_X5_copyFrom mv_X5_copyFrom ml_X9_123 rfl (kX5_copyFrom (n := n)) (by decide) ⟨Nat.le_refl 0, Nat.le_refl 0⟩ rfl rfl (Nat.le_of_ble_eq_true rfl) dX9_word_45 h (fun M H locs I h => ?_)
      refine lv_aload_n X.1 X.2.1 dX9_word_48 rfl (lv_at hl 0 rfl) ?_
      refine mm_cVv X I hl (As := []) (ci := 9) md_X9_forgetRankings mv_X9_forgetRankings ml_X9_117 rfl (kX9_forgetRankings (n := n)) (by decide) ⟨Nat.le_refl 0, Nat.le_refl 0⟩ rfl rfl (Nat.le_of_ble_eq_true rfl) dX9_word_49 h (fun M H locs I h => ?_)
      refine lv_aload_n X.1 X.2.1 dX9_word_52 rfl (lv_at hl 0 rfl) ?_
      refine mm_cVr X I hl (As := []) (ci := 9) md_X9_rankedHits mv_X9_rankedHits ml_X9_126 rfl (kX9_rankedHits (n := n)) (by decide) ⟨Nat.le_refl 0, Nat.le_refl 0⟩ rfl rfl (Nat.le_of_ble_eq_true rfl) dX9_word_53 h (fun v11 M H locs I h => ?_)
      refine mm_rgi X I fl_X9_130 dX9_word_56 h (fun v12 h => ?_)
      exact mm_xi X I hr hlk dX9_word_59 h
    · refine lv_iconst (v := (-1)) X.1 X.2.1 dX9_word_27 (by decide) ?_
      exact mm_xi X I hr hlk dX9_word_28 h
set_option maxHeartbeats 4000000 in
set_option maxRecDepth 100000 in
theorem kX9_rule {l : Launch} {D : va_G} {dA : Nat → ClassId} {lo : Nat} {n : Nat} {M : mm_M} {a0 : Nat} {x1 : Int32} (o : Int32 × mm_M) (h : pX9_rule n M a0 x1 = some o) : (∃ fs, M.2 a0 = some (mm_ob 9 fs)) ∧ mm_Met l D dA lo yX9_rule cX9_rule 2 (some .int) 5 126 0 0 [.ref a0, .int x1] M (some (.int o.1)) o.2 := by
  unfold pX9_rule at h
  obtain ⟨hob, h⟩ := mm_v_some h
  refine ⟨hob, mm_enter (by decide) (Nat.le_of_ble_eq_true rfl) (fun p e s m args below meth c ls X hr hlk hnm I hl => ?_)⟩
  have X : mm_C D dA lo cX9_rule RX9 2 p s m args c := X
  have hl : lv_has ls 2 [(0, .ref a0), (1, .int x1)] := hl
  refine lv_aload_n X.1 X.2.1 dX9_rule_0 rfl (lv_at hl 0 rfl) ?_
  refine mm_rgr X I fl_X9_60 dX9_rule_1 h (fun v1 h => ?_)
  refine mm_rgi X I fl_X9_120 dX9_rule_4 h (fun v2 h => ?_)
  refine mm_jne (tgt := 12) X dX9_rule_7 (by decide) h (fun h => ?_) (fun h => ?_)
  · refine lv_iload_n X.1 X.2.1 dX9_rule_12 rfl (lv_at hl 1 rfl) ?_
    by_cases z3_0 : x1 = 0
    · have h := mm_t z3_0 h
      refine lv_tableIn (tgt := 44) (off := 31) X.1 X.2.1 dX9_rule_13 (by rw [z3_0]; decide) (by rw [z3_0]; decide) (by rw [z3_0]; rfl) (by decide) ?_
      refine lv_aload_n X.1 X.2.1 dX9_rule_44 rfl (lv_at hl 0 rfl) ?_
      refine mm_rgr X I fl_X9_60 dX9_rule_45 h (fun v4 h => ?_)
      refine mm_rgi X I fl_X9_120 dX9_rule_48 h (fun v5 h => ?_)
      exact mm_xi X I hr hlk dX9_rule_51 h
    · have h := mm_f z3_0 h
      by_cases z3_1 : x1 = 1
      · have h := mm_t z3_1 h
        refine lv_tableIn (tgt := 52) (off := 39) X.1 X.2.1 dX9_rule_13 (by rw [z3_1]; decide) (by rw [z3_1]; decide) (by rw [z3_1]; rfl) (by decide) ?_
        refine lv_aload_n X.1 X.2.1 dX9_rule_52 rfl (lv_at hl 0 rfl) ?_
        refine mm_rgr X I fl_X9_60 dX9_rule_53 h (fun v6 h => ?_)
        refine mm_cVi X I hl (As := []) (ci := 6) md_X6_allSigns mv_X6_allSigns ml_X9_131 rfl (kX6_allSigns (n := n)) (by decide) ⟨Nat.le_refl 0, Nat.le_refl 0⟩ rfl rfl (Nat.le_of_ble_eq_true rfl) dX9_rule_56 h (fun v7 M H locs I h => ?_)
        exact mm_xi X I hr hlk dX9_rule_59 h
      · have h := mm_f z3_1 h
        by_cases z3_2 : x1 = 2
        · have h := mm_t z3_2 h
          refine lv_tableIn (tgt := 60) (off := 47) X.1 X.2.1 dX9_rule_13 (by rw [z3_2]; decide) (by rw [z3_2]; decide) (by rw [z3_2]; rfl) (by decide) ?_
          refine lv_aload_n X.1 X.2.1 dX9_rule_60 rfl (lv_at hl 0 rfl) ?_
          refine mm_cVr X I hl (As := []) (ci := 9) md_X9_rankedHits mv_X9_rankedHits ml_X9_126 rfl (kX9_rankedHits (n := n)) (by decide) ⟨Nat.le_refl 0, Nat.le_refl 0⟩ rfl rfl (Nat.le_of_ble_eq_true rfl) dX9_rule_61 h (fun v8 M H locs I h => ?_)
          refine mm_rgi X I fl_X9_130 dX9_rule_64 h (fun v9 h => ?_)
          exact mm_xi X I hr hlk dX9_rule_67 h
        · have h := mm_f z3_2 h
          by_cases z3_3 : x1 = 3
          · have h := mm_t z3_3 h
            refine lv_tableIn (tgt := 68) (off := 55) X.1 X.2.1 dX9_rule_13 (by rw [z3_3]; decide) (by rw [z3_3]; decide) (by rw [z3_3]; rfl) (by decide) ?_
            refine lv_aload_n X.1 X.2.1 dX9_rule_68 rfl (lv_at hl 0 rfl) ?_
            refine mm_rgr X I fl_X9_33 dX9_rule_69 h (fun v10 h => ?_)
            refine mm_rgi X I fl_X9_109 dX9_rule_72 h (fun v11 h => ?_)
            exact mm_xi X I hr hlk dX9_rule_75 h
          · have h := mm_f z3_3 h
            have z3_q0 : ¬ Int32.toInt x1 = 0 := fun q => z3_0 (Int32.toInt_inj.mp q)
            have z3_q1 : ¬ Int32.toInt x1 = 1 := fun q => z3_1 (Int32.toInt_inj.mp q)
            have z3_q2 : ¬ Int32.toInt x1 = 2 := fun q => z3_2 (Int32.toInt_inj.mp q)
            have z3_q3 : ¬ Int32.toInt x1 = 3 := fun q => z3_3 (Int32.toInt_inj.mp q)
            refine mm_tdef (tgt := 76) X dX9_rule_13 (by decide) (fun i hi hq => ?_) (by decide) ?_
            · rcases (show i = 0 ∨ i = 1 ∨ i = 2 ∨ i = 3 by simp at hi; omega) with rfl | rfl | rfl | rfl
              · exact absurd hq (by omega)
              · exact absurd hq (by omega)
              · exact absurd hq (by omega)
              · exact absurd hq (by omega)
            · refine lv_iconst (v := (-1)) X.1 X.2.1 dX9_rule_76 (by decide) ?_
              exact mm_xi X I hr hlk dX9_rule_77 h
  · refine lv_iconst (v := (-1)) X.1 X.2.1 dX9_rule_10 (by decide) ?_
    exact mm_xi X I hr hlk dX9_rule_11 h
set_option maxHeartbeats 4000000 in
set_option maxRecDepth 100000 in
theorem kX9_sign {l : Launch} {D : va_G} {dA : Nat → ClassId} {lo : Nat} {n : Nat} {M : mm_M} {a0 : Nat} {x1 : Int32} {x2 : Int32} (o : Int32 × mm_M) (h : pX9_sign n M a0 x1 x2 = some o) : (∃ fs, M.2 a0 = some (mm_ob 9 fs)) ∧ mm_Met l D dA lo yX9_sign cX9_sign 3 (some .int) 1 21 0 0 [.ref a0, .int x1, .int x2] M (some (.int o.1)) o.2 := by
  unfold pX9_sign at h
  obtain ⟨hob, h⟩ := mm_v_some h
  refine ⟨hob, mm_enter (by decide) (Nat.le_of_ble_eq_true rfl) (fun p e s m args below meth c ls X hr hlk hnm I hl => ?_)⟩
  have X : mm_C D dA lo cX9_sign RX9 3 p s m args c := X
  have hl : lv_has ls 3 [(0, .ref a0), (1, .int x1), (2, .int x2)] := hl
  refine lv_aload_n X.1 X.2.1 dX9_sign_0 rfl (lv_at hl 0 rfl) ?_
  refine mm_rgr X I fl_X9_60 dX9_sign_1 h (fun v1 h => ?_)
  refine lv_iload_n X.1 X.2.1 dX9_sign_4 rfl (lv_at hl 1 rfl) ?_
  refine mm_cVi X I hl (As := [.int x1]) (ci := 6) md_X6_hasLine mv_X6_hasLine ml_X9_134 rfl (kX6_hasLine (n := n)) (by decide) ⟨Nat.le_refl 0, Nat.le_refl 0⟩ rfl rfl (Nat.le_of_ble_eq_true rfl) dX9_sign_5 h (fun v2 M H locs I h => ?_)
  refine mm_jeq (tgt := 30) X dX9_sign_8 (by decide) h (fun h => ?_) (fun h => ?_)
  · refine lv_iconst (v := (-1)) X.1 X.2.1 dX9_sign_30 (by decide) ?_
    exact mm_xi X I hr hlk dX9_sign_31 h
  · refine lv_aload_n X.1 X.2.1 dX9_sign_11 rfl (lv_at hl 0 rfl) ?_
    refine mm_rgr X I fl_X9_60 dX9_sign_12 h (fun v3 h => ?_)
    refine mm_rgr X I fl_X9_140 dX9_sign_15 h (fun v4 h => ?_)
    refine lv_iload_n X.1 X.2.1 dX9_sign_18 rfl (lv_at hl 1 rfl) ?_
    refine mm_rra X I dX9_sign_19 h (fun v5 h => ?_)
    refine mm_rgr X I fl_X9_149 dX9_sign_20 h (fun v6 h => ?_)
    refine lv_iload_n X.1 X.2.1 dX9_sign_23 rfl (lv_at hl 2 rfl) ?_
    refine mm_cVi X I hl (As := [.int x2]) (ci := 5) md_X5_at mv_X5_at ml_X9_152 rfl (kX5_at (n := n)) (by decide) ⟨Nat.le_refl 0, Nat.le_refl 0⟩ rfl rfl (Nat.le_of_ble_eq_true rfl) dX9_sign_24 h (fun v7 M H locs I h => ?_)
    refine lv_goto (tgt := 31) X.1 X.2.1 dX9_sign_27 (by decide) ?_
    exact mm_xi X I hr hlk dX9_sign_31 h
set_option maxHeartbeats 4000000 in
set_option maxRecDepth 100000 in
theorem kX9_hit {l : Launch} {D : va_G} {dA : Nat → ClassId} {lo : Nat} {n : Nat} {M : mm_M} {a0 : Nat} {x1 : Int32} {x2 : Int32} (o : Int32 × mm_M) (h : pX9_hit n M a0 x1 x2 = some o) : (∃ fs, M.2 a0 = some (mm_ob 9 fs)) ∧ mm_Met l D dA lo yX9_hit cX9_hit 4 (some .int) 5 126 0 0 [.ref a0, .int x1, .int x2] M (some (.int o.1)) o.2 := by
  unfold pX9_hit at h
  obtain ⟨hob, h⟩ := mm_v_some h
  refine ⟨hob, mm_enter (by decide) (Nat.le_of_ble_eq_true rfl) (fun p e s m args below meth c ls X hr hlk hnm I hl => ?_)⟩
  have X : mm_C D dA lo cX9_hit RX9 4 p s m args c := X
  have hl : lv_has ls 4 [(0, .ref a0), (1, .int x1), (2, .int x2)] := hl
  refine lv_aload_n X.1 X.2.1 dX9_hit_0 rfl (lv_at hl 0 rfl) ?_
  refine mm_cVr X I hl (As := []) (ci := 9) md_X9_rankedHits mv_X9_rankedHits ml_X9_126 rfl (kX9_rankedHits (n := n)) (by decide) ⟨Nat.le_refl 0, Nat.le_refl 0⟩ rfl rfl (Nat.le_of_ble_eq_true rfl) dX9_hit_1 h (fun v1 M H locs I h => ?_)
  refine lv_astore_n (lv' := [(3, .ref v1), (0, .ref a0), (1, .int x1), (2, .int x2)]) X.1 X.2.1 dX9_hit_4 rfl hl (by decide) rfl (fun ls hl => ?_)
  refine lv_aload_n X.1 X.2.1 dX9_hit_5 rfl (lv_at hl 0 rfl) ?_
  refine lv_iload_n X.1 X.2.1 dX9_hit_6 rfl (lv_at hl 2 rfl) ?_
  refine mm_cVi X I hl (As := [.int x1]) (ci := 3) md_X3_has mv_X3_has ml_X9_156 rfl (kX3_has (n := n)) (by decide) ⟨Nat.le_refl 0, Nat.le_refl 0⟩ rfl rfl (Nat.le_of_ble_eq_true rfl) dX9_hit_7 h (fun v2 M H locs I h => ?_)
  refine mm_jne (tgt := 15) X dX9_hit_10 (by decide) h (fun h => ?_) (fun h => ?_)
  · refine lv_iload_n X.1 X.2.1 dX9_hit_15 rfl (lv_at hl 3 rfl) ?_
    by_cases z3_0 : x2 = 0
    · have h := mm_t z3_0 h
      refine lv_tableIn (tgt := 48) (off := 32) X.1 X.2.1 dX9_hit_16 (by rw [z3_0]; decide) (by rw [z3_0]; decide) (by rw [z3_0]; rfl) (by decide) ?_
      refine lv_aload_n X.1 X.2.1 dX9_hit_48 rfl (lv_at hl 0 rfl) ?_
      refine lv_iload_n X.1 X.2.1 dX9_hit_49 rfl (lv_at hl 2 rfl) ?_
      refine mm_cVi X I hl (As := [.int x1]) (ci := 3) md_X3_lineOf mv_X3_lineOf ml_X9_159 rfl (kX3_lineOf (n := n)) (by decide) ⟨Nat.le_refl 0, Nat.le_refl 0⟩ rfl rfl (Nat.le_of_ble_eq_true rfl) dX9_hit_50 h (fun v4 M H locs I h => ?_)
      exact mm_xi X I hr hlk dX9_hit_53 h
    · have h := mm_f z3_0 h
      by_cases z3_1 : x2 = 1
      · have h := mm_t z3_1 h
        refine lv_tableIn (tgt := 54) (off := 38) X.1 X.2.1 dX9_hit_16 (by rw [z3_1]; decide) (by rw [z3_1]; decide) (by rw [z3_1]; rfl) (by decide) ?_
        refine lv_aload_n X.1 X.2.1 dX9_hit_54 rfl (lv_at hl 0 rfl) ?_
        refine lv_iload_n X.1 X.2.1 dX9_hit_55 rfl (lv_at hl 2 rfl) ?_
        refine mm_cVi X I hl (As := [.int x1]) (ci := 3) md_X3_placeOf mv_X3_placeOf ml_X9_162 rfl (kX3_placeOf (n := n)) (by decide) ⟨Nat.le_refl 0, Nat.le_refl 0⟩ rfl rfl (Nat.le_of_ble_eq_true rfl) dX9_hit_56 h (fun v5 M H locs I h => ?_)
        exact mm_xi X I hr hlk dX9_hit_59 h
      · have h := mm_f z3_1 h
        by_cases z3_2 : x2 = 2
        · have h := mm_t z3_2 h
          refine lv_tableIn (tgt := 60) (off := 44) X.1 X.2.1 dX9_hit_16 (by rw [z3_2]; decide) (by rw [z3_2]; decide) (by rw [z3_2]; rfl) (by decide) ?_
          refine lv_aload_n X.1 X.2.1 dX9_hit_60 rfl (lv_at hl 0 rfl) ?_
          refine lv_iload_n X.1 X.2.1 dX9_hit_61 rfl (lv_at hl 2 rfl) ?_
          refine mm_cVi X I hl (As := [.int x1]) (ci := 3) md_X3_signsFrom mv_X3_signsFrom ml_X9_165 rfl (kX3_signsFrom (n := n)) (by decide) ⟨Nat.le_refl 0, Nat.le_refl 0⟩ rfl rfl (Nat.le_of_ble_eq_true rfl) dX9_hit_62 h (fun v6 M H locs I h => ?_)
          refine lv_aload_n X.1 X.2.1 dX9_hit_65 rfl (lv_at hl 1 rfl) ?_
          refine mm_rgr X I fl_X9_33 dX9_hit_66 h (fun v7 h => ?_)
          refine mm_rgi X I fl_X9_109 dX9_hit_69 h (fun v8 h => ?_)
          refine lv_isub X.1 X.2.1 dX9_hit_72 ?_
          exact mm_xi X I hr hlk dX9_hit_73 h
        · have h := mm_f z3_2 h
          by_cases z3_3 : x2 = 3
          · have h := mm_t z3_3 h
            refine lv_tableIn (tgt := 54) (off := 38) X.1 X.2.1 dX9_hit_16 (by rw [z3_3]; decide) (by rw [z3_3]; decide) (by rw [z3_3]; rfl) (by decide) ?_
            refine lv_aload_n X.1 X.2.1 dX9_hit_54 rfl (lv_at hl 0 rfl) ?_
            refine lv_iload_n X.1 X.2.1 dX9_hit_55 rfl (lv_at hl 2 rfl) ?_
            refine mm_cVi X I hl (As := [.int x1]) (ci := 3) md_X3_placeOf mv_X3_placeOf ml_X9_162 rfl (kX3_placeOf (n := n)) (by decide) ⟨Nat.le_refl 0, Nat.le_refl 0⟩ rfl rfl (Nat.le_of_ble_eq_true rfl) dX9_hit_56 h (fun v9 M H locs I h => ?_)
            exact mm_xi X I hr hlk dX9_hit_59 h
          · have h := mm_f z3_3 h
            have z3_q0 : ¬ Int32.toInt x2 = 0 := fun q => z3_0 (Int32.toInt_inj.mp q)
            have z3_q1 : ¬ Int32.toInt x2 = 1 := fun q => z3_1 (Int32.toInt_inj.mp q)
            have z3_q2 : ¬ Int32.toInt x2 = 2 := fun q => z3_2 (Int32.toInt_inj.mp q)
            have z3_q3 : ¬ Int32.toInt x2 = 3 := fun q => z3_3 (Int32.toInt_inj.mp q)
            refine mm_tdef (tgt := 74) X dX9_hit_16 (by decide) (fun i hi hq => ?_) (by decide) ?_
            · rcases (show i = 0 ∨ i = 1 ∨ i = 2 ∨ i = 3 by simp at hi; omega) with rfl | rfl | rfl | rfl
              · exact absurd hq (by omega)
              · exact absurd hq (by omega)
              · exact absurd hq (by omega)
              · exact absurd hq (by omega)
            · refine lv_iconst (v := (-1)) X.1 X.2.1 dX9_hit_74 (by decide) ?_
              exact mm_xi X I hr hlk dX9_hit_75 h
  · refine lv_iconst (v := (-1)) X.1 X.2.1 dX9_hit_13 (by decide) ?_
    exact mm_xi X I hr hlk dX9_hit_14 h
set_option maxHeartbeats 4000000 in
set_option maxRecDepth 100000 in
theorem kX9_rank {l : Launch} {D : va_G} {dA : Nat → ClassId} {lo : Nat} {n : Nat} {M : mm_M} {a0 : Nat} {x1 : Int32} {x2 : Int32} (o : Int32 × mm_M) (h : pX9_rank n M a0 x1 x2 = some o) : (∃ fs, M.2 a0 = some (mm_ob 9 fs)) ∧ mm_Met l D dA lo yX9_rank cX9_rank 3 (some .int) 5 126 0 0 [.ref a0, .int x1, .int x2] M (some (.int o.1)) o.2 := by
  unfold pX9_rank at h
  obtain ⟨hob, h⟩ := mm_v_some h
  refine ⟨hob, mm_enter (by decide) (Nat.le_of_ble_eq_true rfl) (fun p e s m args below meth c ls X hr hlk hnm I hl => ?_)⟩
  have X : mm_C D dA lo cX9_rank RX9 3 p s m args c := X
  have hl : lv_has ls 3 [(0, .ref a0), (1, .int x1), (2, .int x2)] := hl
  refine lv_aload_n X.1 X.2.1 dX9_rank_0 rfl (lv_at hl 0 rfl) ?_
  refine mm_cVr X I hl (As := []) (ci := 9) md_X9_rankedHits mv_X9_rankedHits ml_X9_126 rfl (kX9_rankedHits (n := n)) (by decide) ⟨Nat.le_refl 0, Nat.le_refl 0⟩ rfl rfl (Nat.le_of_ble_eq_true rfl) dX9_rank_1 h (fun v1 M H locs I h => ?_)
  refine lv_iload_n X.1 X.2.1 dX9_rank_4 rfl (lv_at hl 1 rfl) ?_
  refine lv_iload_n X.1 X.2.1 dX9_rank_5 rfl (lv_at hl 2 rfl) ?_
  refine mm_cVi X I hl (As := [.int x1, .int x2]) (ci := 3) md_X3_find mv_X3_find ml_X9_168 rfl (kX3_find (n := n)) (by decide) ⟨Nat.le_refl 0, Nat.le_refl 0⟩ rfl rfl (Nat.le_of_ble_eq_true rfl) dX9_rank_6 h (fun v2 M H locs I h => ?_)
  exact mm_xi X I hr hlk dX9_rank_9 h
set_option maxHeartbeats 4000000 in
set_option maxRecDepth 100000 in
theorem kX9_rankedPlaces {l : Launch} {D : va_G} {dA : Nat → ClassId} {lo : Nat} {n : Nat} {M : mm_M} {a0 : Nat} (o : Nat × mm_M) (h : pX9_rankedPlaces n M a0 = some o) : (∃ fs, M.2 a0 = some (mm_ob 9 fs)) ∧ mm_Met l D dA lo yX9_rankedPlaces cX9_rankedPlaces 1 (some (.object "KwicStore$Ranking")) 4 106 0 0 [.ref a0] M (some (.ref o.1)) o.2 := by
  unfold pX9_rankedPlaces at h
  obtain ⟨hob, h⟩ := mm_v_some h
  refine ⟨hob, mm_enter (by decide) (Nat.le_of_ble_eq_true rfl) (fun p e s m args below meth c ls X hr hlk hnm I hl => ?_)⟩
  have X : mm_C D dA lo cX9_rankedPlaces RX9 1 p s m args c := X
  have hl : lv_has ls 1 [(0, .ref a0)] := hl
  refine lv_aload_n X.1 X.2.1 dX9_rankedPlaces_0 rfl (lv_at hl 0 rfl) ?_
  refine mm_rgr X I fl_X9_72 dX9_rankedPlaces_1 h (fun v1 h => ?_)
  refine mm_rgi X I fl_X9_347 dX9_rankedPlaces_4 h (fun v2 h => ?_)
  refine mm_jne (tgt := 37) X dX9_rankedPlaces_7 (by decide) h (fun h => ?_) (fun h => ?_)
  · refine lv_aload_n X.1 X.2.1 dX9_rankedPlaces_37 rfl (lv_at hl 0 rfl) ?_
    refine mm_rgr X I fl_X9_72 dX9_rankedPlaces_38 h (fun v3 h => ?_)
    exact mm_xr X I hr (Or.inl ⟨_, rfl⟩) hlk dX9_rankedPlaces_41 h
  · refine lv_aload_n X.1 X.2.1 dX9_rankedPlaces_10 rfl (lv_at hl 0 rfl) ?_
    refine mm_rgr X I fl_X9_72 dX9_rankedPlaces_11 h (fun v4 h => ?_)
    refine lv_iconst (v := 0) X.1 X.2.1 dX9_rankedPlaces_14 (by decide) ?_
    refine mm_rpi X I fl_X9_130 dX9_rankedPlaces_15 h (fun M H locs I h => ?_)
    refine lv_aload_n X.1 X.2.1 dX9_rankedPlaces_18 rfl (lv_at hl 0 rfl) ?_
    refine mm_rgr X I fl_X9_72 dX9_rankedPlaces_19 h (fun v5 h => ?_)
    refine lv_aload_n X.1 X.2.1 dX9_rankedPlaces_22 rfl (lv_at hl 0 rfl) ?_
    refine mm_rgr X I fl_X9_37 dX9_rankedPlaces_23 h (fun v6 h => ?_)
    refine mm_cVv X I hl (As := [.ref v6]) (ci := 3) md_X3_fill mv_X3_fill ml_X9_350 rfl (kX3_fill (n := n)) (by decide) ⟨Nat.le_refl 0, Nat.le_refl 0⟩ rfl rfl (Nat.le_of_ble_eq_true rfl) dX9_rankedPlaces_26 h (fun M H locs I h => ?_)
    refine lv_aload_n X.1 X.2.1 dX9_rankedPlaces_29 rfl (lv_at hl 0 rfl) ?_
    refine mm_rgr X I fl_X9_72 dX9_rankedPlaces_30 h (fun v8 h => ?_)
    refine lv_iconst (v := 1) X.1 X.2.1 dX9_rankedPlaces_33 (by decide) ?_
    refine mm_rpz X I fl_X9_347 dX9_rankedPlaces_34 h (fun M H locs I h => ?_)
    refine lv_aload_n X.1 X.2.1 dX9_rankedPlaces_37 rfl (lv_at hl 0 rfl) ?_
    refine mm_rgr X I fl_X9_72 dX9_rankedPlaces_38 h (fun v9 h => ?_)
    exact mm_xr X I hr (Or.inl ⟨_, rfl⟩) hlk dX9_rankedPlaces_41 h
set_option maxHeartbeats 4000000 in
set_option maxRecDepth 100000 in
theorem kX9_all {l : Launch} {D : va_G} {dA : Nat → ClassId} {lo : Nat} {n : Nat} {M : mm_M} {a0 : Nat} {x1 : Int32} {x2 : Int32} (o : Int32 × mm_M) (h : pX9_all n M a0 x1 x2 = some o) : (∃ fs, M.2 a0 = some (mm_ob 9 fs)) ∧ mm_Met l D dA lo yX9_all cX9_all 4 (some .int) 5 126 0 0 [.ref a0, .int x1, .int x2] M (some (.int o.1)) o.2 := by
  unfold pX9_all at h
  obtain ⟨hob, h⟩ := mm_v_some h
  refine ⟨hob, mm_enter (by decide) (Nat.le_of_ble_eq_true rfl) (fun p e s m args below meth c ls X hr hlk hnm I hl => ?_)⟩
  have X : mm_C D dA lo cX9_all RX9 4 p s m args c := X
  have hl : lv_has ls 4 [(0, .ref a0), (1, .int x1), (2, .int x2)] := hl
  refine lv_aload_n X.1 X.2.1 dX9_all_0 rfl (lv_at hl 0 rfl) ?_
  refine mm_cVr X I hl (As := []) (ci := 9) md_X9_rankedPlaces mv_X9_rankedPlaces ml_X9_172 rfl (kX9_rankedPlaces (n := n)) (by decide) ⟨Nat.le_refl 0, Nat.le_refl 0⟩ rfl rfl (Nat.le_of_ble_eq_true rfl) dX9_all_1 h (fun v1 M H locs I h => ?_)
  refine lv_astore_n (lv' := [(3, .ref v1), (0, .ref a0), (1, .int x1), (2, .int x2)]) X.1 X.2.1 dX9_all_4 rfl hl (by decide) rfl (fun ls hl => ?_)
  refine lv_aload_n X.1 X.2.1 dX9_all_5 rfl (lv_at hl 0 rfl) ?_
  refine lv_iload_n X.1 X.2.1 dX9_all_6 rfl (lv_at hl 2 rfl) ?_
  refine mm_cVi X I hl (As := [.int x1]) (ci := 3) md_X3_has mv_X3_has ml_X9_156 rfl (kX3_has (n := n)) (by decide) ⟨Nat.le_refl 0, Nat.le_refl 0⟩ rfl rfl (Nat.le_of_ble_eq_true rfl) dX9_all_7 h (fun v2 M H locs I h => ?_)
  refine mm_jne (tgt := 15) X dX9_all_10 (by decide) h (fun h => ?_) (fun h => ?_)
  · refine lv_iload_n X.1 X.2.1 dX9_all_15 rfl (lv_at hl 3 rfl) ?_
    by_cases z3_0 : x2 = 0
    · have h := mm_t z3_0 h
      refine lv_tableIn (tgt := 44) (off := 28) X.1 X.2.1 dX9_all_16 (by rw [z3_0]; decide) (by rw [z3_0]; decide) (by rw [z3_0]; rfl) (by decide) ?_
      refine lv_aload_n X.1 X.2.1 dX9_all_44 rfl (lv_at hl 0 rfl) ?_
      refine lv_iload_n X.1 X.2.1 dX9_all_45 rfl (lv_at hl 2 rfl) ?_
      refine mm_cVi X I hl (As := [.int x1]) (ci := 3) md_X3_lineOf mv_X3_lineOf ml_X9_159 rfl (kX3_lineOf (n := n)) (by decide) ⟨Nat.le_refl 0, Nat.le_refl 0⟩ rfl rfl (Nat.le_of_ble_eq_true rfl) dX9_all_46 h (fun v4 M H locs I h => ?_)
      exact mm_xi X I hr hlk dX9_all_49 h
    · have h := mm_f z3_0 h
      by_cases z3_1 : x2 = 1
      · have h := mm_t z3_1 h
        refine lv_tableIn (tgt := 50) (off := 34) X.1 X.2.1 dX9_all_16 (by rw [z3_1]; decide) (by rw [z3_1]; decide) (by rw [z3_1]; rfl) (by decide) ?_
        refine lv_aload_n X.1 X.2.1 dX9_all_50 rfl (lv_at hl 0 rfl) ?_
        refine lv_iload_n X.1 X.2.1 dX9_all_51 rfl (lv_at hl 2 rfl) ?_
        refine mm_cVi X I hl (As := [.int x1]) (ci := 3) md_X3_placeOf mv_X3_placeOf ml_X9_162 rfl (kX3_placeOf (n := n)) (by decide) ⟨Nat.le_refl 0, Nat.le_refl 0⟩ rfl rfl (Nat.le_of_ble_eq_true rfl) dX9_all_52 h (fun v5 M H locs I h => ?_)
        exact mm_xi X I hr hlk dX9_all_55 h
      · have h := mm_f z3_1 h
        by_cases z3_2 : x2 = 2
        · have h := mm_t z3_2 h
          refine lv_tableIn (tgt := 56) (off := 40) X.1 X.2.1 dX9_all_16 (by rw [z3_2]; decide) (by rw [z3_2]; decide) (by rw [z3_2]; rfl) (by decide) ?_
          refine lv_aload_n X.1 X.2.1 dX9_all_56 rfl (lv_at hl 0 rfl) ?_
          refine lv_iload_n X.1 X.2.1 dX9_all_57 rfl (lv_at hl 2 rfl) ?_
          refine mm_cVi X I hl (As := [.int x1]) (ci := 3) md_X3_shared mv_X3_shared ml_X9_175 rfl (kX3_shared (n := n)) (by decide) ⟨Nat.le_refl 0, Nat.le_refl 0⟩ rfl rfl (Nat.le_of_ble_eq_true rfl) dX9_all_58 h (fun v6 M H locs I h => ?_)
          exact mm_xi X I hr hlk dX9_all_61 h
        · have h := mm_f z3_2 h
          have z3_q0 : ¬ Int32.toInt x2 = 0 := fun q => z3_0 (Int32.toInt_inj.mp q)
          have z3_q1 : ¬ Int32.toInt x2 = 1 := fun q => z3_1 (Int32.toInt_inj.mp q)
          have z3_q2 : ¬ Int32.toInt x2 = 2 := fun q => z3_2 (Int32.toInt_inj.mp q)
          refine mm_tdef (tgt := 62) X dX9_all_16 (by decide) (fun i hi hq => ?_) (by decide) ?_
          · rcases (show i = 0 ∨ i = 1 ∨ i = 2 by simp at hi; omega) with rfl | rfl | rfl
            · exact absurd hq (by omega)
            · exact absurd hq (by omega)
            · exact absurd hq (by omega)
          · refine lv_iconst (v := (-1)) X.1 X.2.1 dX9_all_62 (by decide) ?_
            exact mm_xi X I hr hlk dX9_all_63 h
  · refine lv_iconst (v := (-1)) X.1 X.2.1 dX9_all_13 (by decide) ?_
    exact mm_xi X I hr hlk dX9_all_14 h
set_option maxHeartbeats 4000000 in
set_option maxRecDepth 100000 in
theorem kX9_twice {l : Launch} {D : va_G} {dA : Nat → ClassId} {lo : Nat} {n : Nat} {M : mm_M} {a0 : Nat} {x1 : Int32} (o : Int32 × mm_M) (h : pX9_twice n M a0 x1 = some o) : (∃ fs, M.2 a0 = some (mm_ob 9 fs)) ∧ mm_Met l D dA lo yX9_twice cX9_twice 4 (some .int) 5 126 0 0 [.ref a0, .int x1] M (some (.int o.1)) o.2 := by
  unfold pX9_twice at h
  obtain ⟨hob, h⟩ := mm_v_some h
  refine ⟨hob, mm_enter (by decide) (Nat.le_of_ble_eq_true rfl) (fun p e s m args below meth c ls X hr hlk hnm I hl => ?_)⟩
  have X : mm_C D dA lo cX9_twice RX9 4 p s m args c := X
  have hl : lv_has ls 4 [(0, .ref a0), (1, .int x1)] := hl
  refine lv_aload_n X.1 X.2.1 dX9_twice_0 rfl (lv_at hl 0 rfl) ?_
  refine mm_cVr X I hl (As := []) (ci := 9) md_X9_rankedPlaces mv_X9_rankedPlaces ml_X9_172 rfl (kX9_rankedPlaces (n := n)) (by decide) ⟨Nat.le_refl 0, Nat.le_refl 0⟩ rfl rfl (Nat.le_of_ble_eq_true rfl) dX9_twice_1 h (fun v1 M H locs I h => ?_)
  refine lv_astore_n (lv' := [(2, .ref v1), (0, .ref a0), (1, .int x1)]) X.1 X.2.1 dX9_twice_4 rfl hl (by decide) rfl (fun ls hl => ?_)
  refine lv_aload_n X.1 X.2.1 dX9_twice_5 rfl (lv_at hl 0 rfl) ?_
  refine mm_cVi X I hl (As := []) (ci := 3) md_X3_mostShared mv_X3_mostShared ml_X9_178 rfl (kX3_mostShared (n := n)) (by decide) ⟨Nat.le_refl 0, Nat.le_refl 0⟩ rfl rfl (Nat.le_of_ble_eq_true rfl) dX9_twice_6 h (fun v2 M H locs I h => ?_)
  refine lv_istore_n (lv' := [(3, .int v2), (2, .ref v1), (0, .ref a0), (1, .int x1)]) X.1 X.2.1 dX9_twice_9 rfl hl (by decide) rfl (fun ls hl => ?_)
  refine lv_iload_n X.1 X.2.1 dX9_twice_10 rfl (lv_at hl 3 rfl) ?_
  by_cases z3_0 : x1 = 0
  · have h := mm_t z3_0 h
    refine lv_lookup (tgt := 36) (off := 25) X.1 X.2.1 dX9_twice_11 (by decide) (by rw [z3_0]; rfl) (by decide) ?_
    refine lv_iload_n X.1 X.2.1 dX9_twice_36 rfl (lv_at hl 0 rfl) ?_
    exact mm_xi X I hr hlk dX9_twice_37 h
  · have h := mm_f z3_0 h
    by_cases z3_1 : x1 = 1
    · have h := mm_t z3_1 h
      refine lv_lookup (tgt := 38) (off := 27) X.1 X.2.1 dX9_twice_11 (by decide) (by rw [z3_1]; rfl) (by decide) ?_
      refine lv_aload_n X.1 X.2.1 dX9_twice_38 rfl (lv_at hl 1 rfl) ?_
      refine lv_iload_n X.1 X.2.1 dX9_twice_39 rfl (lv_at hl 0 rfl) ?_
      refine mm_cVi X I hl (As := [.int v2]) (ci := 3) md_X3_shared mv_X3_shared ml_X9_175 rfl (kX3_shared (n := n)) (by decide) ⟨Nat.le_refl 0, Nat.le_refl 0⟩ rfl rfl (Nat.le_of_ble_eq_true rfl) dX9_twice_40 h (fun v4 M H locs I h => ?_)
      exact mm_xi X I hr hlk dX9_twice_43 h
    · have h := mm_f z3_1 h
      have z3_q0 : ¬ Int32.toInt x1 = 0 := fun q => z3_0 (Int32.toInt_inj.mp q)
      have z3_q1 : ¬ Int32.toInt x1 = 1 := fun q => z3_1 (Int32.toInt_inj.mp q)
      refine lv_lookup (tgt := 44) (off := 33) X.1 X.2.1 dX9_twice_11 (by decide) (by simp [Op.lookupswitch.offset, z3_q0, Ne.symm z3_q0, z3_q1, Ne.symm z3_q1]) (by decide) ?_
      refine lv_iconst (v := (-1)) X.1 X.2.1 dX9_twice_44 (by decide) ?_
      exact mm_xi X I hr hlk dX9_twice_45 h
set_option maxHeartbeats 4000000 in
set_option maxRecDepth 100000 in
theorem wpX9_unlike_l33 {p : Program} {l : Launch} {e : Env} {s : State} {m : MethodId} {args : Array Value} {below : List Frame} {meth : Method} {c : Code} {D : va_G} {dA : Nat → ClassId} {lo : Nat} (X : mm_C D dA lo cX9_unlike RX9 5 p s m args c) (hr : meth.sig.returnType = (some .int)) (hlk : meth.locks = false) (n : Nat) {o : Int32 × mm_M} (k : Nat) : ∀ (M : mm_M) (x1 : Int32) (a2 : Nat) (x3 : Int32) (x4 : Int32) (H : Heap) (locs : List Loc) (ls : Array Slot), mm_I D dA lo s M H locs → lv_has ls 5 [(1, .int x1), (2, .ref a2), (3, .int x3), (4, .int x4)] → pX9_unlike_l33 n k M x1 a2 x3 x4 = some o → W p l e (mm_rm 5 126 0 0) s m args below meth c H locs 0 0 (MQ below (mm_Q D dA lo (some (.int o.1)) o.2) args s 0 0 (mm_fr lo)) (F0 m 33 ls []) := by
  induction k with
  | zero =>
    intro M x1 a2 x3 x4 H locs ls I hl h
    have h : (none : Option (Int32 × mm_M)) = some o := h
    cases h
  | succ k ih =>
    intro M x1 a2 x3 x4 H locs ls I hl h
    have h : pX9_unlike_l33b n (pX9_unlike_l33 n k) M x1 a2 x3 x4 = some o := h
    unfold pX9_unlike_l33b at h
    refine lv_iload X.1 X.2.1 dX9_unlike_33 (lv_at hl 3 rfl) ?_
    refine lv_aload_n X.1 X.2.1 dX9_unlike_35 rfl (lv_at hl 1 rfl) ?_
    refine mm_rgi X I fl_X9_130 dX9_unlike_36 h (fun v1 h => ?_)
    refine mm_kge (tgt := 61) X dX9_unlike_39 (by decide) h (fun h => ?_) (fun h => ?_)
    · refine lv_iload_n X.1 X.2.1 dX9_unlike_61 rfl (lv_at hl 2 rfl) ?_
      exact mm_xi X I hr hlk dX9_unlike_62 h
    · refine lv_aload_n X.1 X.2.1 dX9_unlike_42 rfl (lv_at hl 1 rfl) ?_
      refine lv_iload X.1 X.2.1 dX9_unlike_43 (lv_at hl 3 rfl) ?_
      refine lv_iload_n X.1 X.2.1 dX9_unlike_45 rfl (lv_at hl 0 rfl) ?_
      refine mm_cVi X I hl (As := [.int x4, .int x1]) (ci := 3) md_X3_opensWord mv_X3_opensWord ml_X9_181 rfl (kX3_opensWord (n := n)) (by decide) ⟨Nat.le_refl 0, Nat.le_refl 0⟩ rfl rfl (Nat.le_of_ble_eq_true rfl) dX9_unlike_46 h (fun v2 M H locs I h => ?_)
      refine mm_jeq (tgt := 55) X dX9_unlike_49 (by decide) h (fun h => ?_) (fun h => ?_)
      · refine lv_iinc (v := (x4 + 1)) (lv' := [(4, .int (x4 + 1)), (1, .int x1), (2, .ref a2), (3, .int x3)]) X.1 X.2.1 dX9_unlike_55 hl (k := 3) rfl rfl (by decide) rfl (fun ls hl => ?_)
        refine lv_goto (tgt := 33) X.1 X.2.1 dX9_unlike_58 (by decide) ?_
        exact ih M _ _ _ _ _ _ _ I (lv_sub hl [1, 2, 3, 0] rfl) h
      · refine lv_iinc (v := (x3 + 1)) (lv' := [(3, .int (x3 + 1)), (1, .int x1), (2, .ref a2), (4, .int x4)]) X.1 X.2.1 dX9_unlike_52 hl (k := 2) rfl rfl (by decide) rfl (fun ls hl => ?_)
        refine lv_iinc (v := (x4 + 1)) (lv' := [(4, .int (x4 + 1)), (3, .int (x3 + 1)), (1, .int x1), (2, .ref a2)]) X.1 X.2.1 dX9_unlike_55 hl (k := 3) rfl rfl (by decide) rfl (fun ls hl => ?_)
        refine lv_goto (tgt := 33) X.1 X.2.1 dX9_unlike_58 (by decide) ?_
        exact ih M _ _ _ _ _ _ _ I (lv_sub hl [2, 3, 1, 0] rfl) h
set_option maxHeartbeats 4000000 in
set_option maxRecDepth 100000 in
theorem kX9_unlike {l : Launch} {D : va_G} {dA : Nat → ClassId} {lo : Nat} {n : Nat} {M : mm_M} {a0 : Nat} {x1 : Int32} (o : Int32 × mm_M) (h : pX9_unlike n M a0 x1 = some o) : (∃ fs, M.2 a0 = some (mm_ob 9 fs)) ∧ mm_Met l D dA lo yX9_unlike cX9_unlike 5 (some .int) 5 126 0 0 [.ref a0, .int x1] M (some (.int o.1)) o.2 := by
  unfold pX9_unlike at h
  obtain ⟨hob, h⟩ := mm_v_some h
  refine ⟨hob, mm_enter (by decide) (Nat.le_of_ble_eq_true rfl) (fun p e s m args below meth c ls X hr hlk hnm I hl => ?_)⟩
  have X : mm_C D dA lo cX9_unlike RX9 5 p s m args c := X
  have hl : lv_has ls 5 [(0, .ref a0), (1, .int x1)] := hl
  refine lv_aload_n X.1 X.2.1 dX9_unlike_0 rfl (lv_at hl 0 rfl) ?_
  refine mm_rgr X I fl_X9_60 dX9_unlike_1 h (fun v1 h => ?_)
  refine mm_rgi X I fl_X9_120 dX9_unlike_4 h (fun v2 h => ?_)
  refine mm_jeq (tgt := 21) X dX9_unlike_7 (by decide) h (fun h => ?_) (fun h => ?_)
  · refine lv_iconst (v := (-1)) X.1 X.2.1 dX9_unlike_21 (by decide) ?_
    exact mm_xi X I hr hlk dX9_unlike_22 h
  · refine lv_iload_n X.1 X.2.1 dX9_unlike_10 rfl (lv_at hl 1 rfl) ?_
    refine lv_iconst (v := 1) X.1 X.2.1 dX9_unlike_11 (by decide) ?_
    refine mm_klt (tgt := 21) X dX9_unlike_12 (by decide) h (fun h => ?_) (fun h => ?_)
    · refine lv_iconst (v := (-1)) X.1 X.2.1 dX9_unlike_21 (by decide) ?_
      exact mm_xi X I hr hlk dX9_unlike_22 h
    · refine lv_iload_n X.1 X.2.1 dX9_unlike_15 rfl (lv_at hl 1 rfl) ?_
      refine lv_bipush (v := 6) X.1 X.2.1 dX9_unlike_16 (by decide) ?_
      refine mm_kle (tgt := 23) X dX9_unlike_18 (by decide) h (fun h => ?_) (fun h => ?_)
      · refine lv_aload_n X.1 X.2.1 dX9_unlike_23 rfl (lv_at hl 0 rfl) ?_
        refine mm_cVr X I hl (As := []) (ci := 9) md_X9_rankedPlaces mv_X9_rankedPlaces ml_X9_172 rfl (kX9_rankedPlaces (n := n)) (by decide) ⟨Nat.le_refl 0, Nat.le_refl 0⟩ rfl rfl (Nat.le_of_ble_eq_true rfl) dX9_unlike_24 h (fun v3 M H locs I h => ?_)
        refine lv_astore_n (lv' := [(2, .ref v3), (0, .ref a0), (1, .int x1)]) X.1 X.2.1 dX9_unlike_27 rfl hl (by decide) rfl (fun ls hl => ?_)
        refine lv_iconst (v := 0) X.1 X.2.1 dX9_unlike_28 (by decide) ?_
        refine lv_istore_n (lv' := [(3, .int 0), (2, .ref v3), (0, .ref a0), (1, .int x1)]) X.1 X.2.1 dX9_unlike_29 rfl hl (by decide) rfl (fun ls hl => ?_)
        refine lv_iconst (v := 0) X.1 X.2.1 dX9_unlike_30 (by decide) ?_
        refine lv_istore (lv' := [(4, .int 0), (3, .int 0), (2, .ref v3), (0, .ref a0), (1, .int x1)]) X.1 X.2.1 dX9_unlike_31 hl (by decide) rfl (fun ls hl => ?_)
        exact wpX9_unlike_l33 X hr hlk n  n M _ _ _ _ _ _ _ I (lv_sub hl [4, 2, 1, 0] rfl) h
      · refine lv_iconst (v := (-1)) X.1 X.2.1 dX9_unlike_21 (by decide) ?_
        exact mm_xi X I hr hlk dX9_unlike_22 h
set_option maxHeartbeats 4000000 in
set_option maxRecDepth 100000 in
theorem kX9_frequent {l : Launch} {D : va_G} {dA : Nat → ClassId} {lo : Nat} {n : Nat} {M : mm_M} {a0 : Nat} {x1 : Int32} {x2 : Int32} (o : Int32 × mm_M) (h : pX9_frequent n M a0 x1 x2 = some o) : (∃ fs, M.2 a0 = some (mm_ob 9 fs)) ∧ mm_Met l D dA lo yX9_frequent cX9_frequent 5 (some .int) 5 126 0 0 [.ref a0, .int x1, .int x2] M (some (.int o.1)) o.2 := by
  unfold pX9_frequent at h
  obtain ⟨hob, h⟩ := mm_v_some h
  refine ⟨hob, mm_enter (by decide) (Nat.le_of_ble_eq_true rfl) (fun p e s m args below meth c ls X hr hlk hnm I hl => ?_)⟩
  have X : mm_C D dA lo cX9_frequent RX9 5 p s m args c := X
  have hl : lv_has ls 5 [(0, .ref a0), (1, .int x1), (2, .int x2)] := hl
  refine lv_iload_n X.1 X.2.1 dX9_frequent_0 rfl (lv_at hl 1 rfl) ?_
  refine lv_iconst (v := 1) X.1 X.2.1 dX9_frequent_1 (by decide) ?_
  refine mm_klt (tgt := 11) X dX9_frequent_2 (by decide) h (fun h => ?_) (fun h => ?_)
  · refine lv_iconst (v := (-1)) X.1 X.2.1 dX9_frequent_11 (by decide) ?_
    exact mm_xi X I hr hlk dX9_frequent_12 h
  · refine lv_iload_n X.1 X.2.1 dX9_frequent_5 rfl (lv_at hl 1 rfl) ?_
    refine lv_bipush (v := 6) X.1 X.2.1 dX9_frequent_6 (by decide) ?_
    refine mm_kle (tgt := 13) X dX9_frequent_8 (by decide) h (fun h => ?_) (fun h => ?_)
    · refine lv_aload_n X.1 X.2.1 dX9_frequent_13 rfl (lv_at hl 0 rfl) ?_
      refine mm_cVr X I hl (As := []) (ci := 9) md_X9_rankedPlaces mv_X9_rankedPlaces ml_X9_172 rfl (kX9_rankedPlaces (n := n)) (by decide) ⟨Nat.le_refl 0, Nat.le_refl 0⟩ rfl rfl (Nat.le_of_ble_eq_true rfl) dX9_frequent_14 h (fun v1 M H locs I h => ?_)
      refine lv_astore_n (lv' := [(3, .ref v1), (0, .ref a0), (1, .int x1), (2, .int x2)]) X.1 X.2.1 dX9_frequent_17 rfl hl (by decide) rfl (fun ls hl => ?_)
      refine lv_aload_n X.1 X.2.1 dX9_frequent_18 rfl (lv_at hl 0 rfl) ?_
      refine lv_iload_n X.1 X.2.1 dX9_frequent_19 rfl (lv_at hl 2 rfl) ?_
      refine mm_cVi X I hl (As := [.int x1]) (ci := 3) md_X3_mostFrequent mv_X3_mostFrequent ml_X9_185 rfl (kX3_mostFrequent (n := n)) (by decide) ⟨Nat.le_refl 0, Nat.le_refl 0⟩ rfl rfl (Nat.le_of_ble_eq_true rfl) dX9_frequent_20 h (fun v2 M H locs I h => ?_)
      refine lv_istore (lv' := [(4, .int v2), (3, .ref v1), (0, .ref a0), (1, .int x1), (2, .int x2)]) X.1 X.2.1 dX9_frequent_23 hl (by decide) rfl (fun ls hl => ?_)
      refine lv_iload X.1 X.2.1 dX9_frequent_25 (lv_at hl 0 rfl) ?_
      refine lv_iconst (v := (-1)) X.1 X.2.1 dX9_frequent_27 (by decide) ?_
      refine mm_kne (tgt := 33) X dX9_frequent_28 (by decide) h (fun h => ?_) (fun h => ?_)
      · refine lv_iload_n X.1 X.2.1 dX9_frequent_33 rfl (lv_at hl 4 rfl) ?_
        by_cases z3_0 : x2 = 0
        · have h := mm_t z3_0 h
          refine lv_tableIn (tgt := 60) (off := 26) X.1 X.2.1 dX9_frequent_34 (by rw [z3_0]; decide) (by rw [z3_0]; decide) (by rw [z3_0]; rfl) (by decide) ?_
          refine lv_aload_n X.1 X.2.1 dX9_frequent_60 rfl (lv_at hl 1 rfl) ?_
          refine lv_iload X.1 X.2.1 dX9_frequent_61 (lv_at hl 0 rfl) ?_
          refine lv_iload_n X.1 X.2.1 dX9_frequent_63 rfl (lv_at hl 3 rfl) ?_
          refine mm_cVi X I hl (As := [.int v2, .int x1]) (ci := 3) md_X3_wordHits mv_X3_wordHits ml_X9_188 rfl (kX3_wordHits (n := n)) (by decide) ⟨Nat.le_refl 0, Nat.le_refl 0⟩ rfl rfl (Nat.le_of_ble_eq_true rfl) dX9_frequent_64 h (fun v4 M H locs I h => ?_)
          exact mm_xi X I hr hlk dX9_frequent_67 h
        · have h := mm_f z3_0 h
          by_cases z3_1 : x2 = 1
          · have h := mm_t z3_1 h
            refine lv_tableIn (tgt := 68) (off := 34) X.1 X.2.1 dX9_frequent_34 (by rw [z3_1]; decide) (by rw [z3_1]; decide) (by rw [z3_1]; rfl) (by decide) ?_
            refine lv_aload_n X.1 X.2.1 dX9_frequent_68 rfl (lv_at hl 1 rfl) ?_
            refine lv_iload X.1 X.2.1 dX9_frequent_69 (lv_at hl 0 rfl) ?_
            refine mm_cVi X I hl (As := [.int v2]) (ci := 3) md_X3_lineOf mv_X3_lineOf ml_X9_159 rfl (kX3_lineOf (n := n)) (by decide) ⟨Nat.le_refl 0, Nat.le_refl 0⟩ rfl rfl (Nat.le_of_ble_eq_true rfl) dX9_frequent_71 h (fun v5 M H locs I h => ?_)
            exact mm_xi X I hr hlk dX9_frequent_74 h
          · have h := mm_f z3_1 h
            by_cases z3_2 : x2 = 2
            · have h := mm_t z3_2 h
              refine lv_tableIn (tgt := 75) (off := 41) X.1 X.2.1 dX9_frequent_34 (by rw [z3_2]; decide) (by rw [z3_2]; decide) (by rw [z3_2]; rfl) (by decide) ?_
              refine lv_aload_n X.1 X.2.1 dX9_frequent_75 rfl (lv_at hl 1 rfl) ?_
              refine lv_iload X.1 X.2.1 dX9_frequent_76 (lv_at hl 0 rfl) ?_
              refine mm_cVi X I hl (As := [.int v2]) (ci := 3) md_X3_placeOf mv_X3_placeOf ml_X9_162 rfl (kX3_placeOf (n := n)) (by decide) ⟨Nat.le_refl 0, Nat.le_refl 0⟩ rfl rfl (Nat.le_of_ble_eq_true rfl) dX9_frequent_78 h (fun v6 M H locs I h => ?_)
              exact mm_xi X I hr hlk dX9_frequent_81 h
            · have h := mm_f z3_2 h
              have z3_q0 : ¬ Int32.toInt x2 = 0 := fun q => z3_0 (Int32.toInt_inj.mp q)
              have z3_q1 : ¬ Int32.toInt x2 = 1 := fun q => z3_1 (Int32.toInt_inj.mp q)
              have z3_q2 : ¬ Int32.toInt x2 = 2 := fun q => z3_2 (Int32.toInt_inj.mp q)
              refine mm_tdef (tgt := 82) X dX9_frequent_34 (by decide) (fun i hi hq => ?_) (by decide) ?_
              · rcases (show i = 0 ∨ i = 1 ∨ i = 2 by simp at hi; omega) with rfl | rfl | rfl
                · exact absurd hq (by omega)
                · exact absurd hq (by omega)
                · exact absurd hq (by omega)
              · refine lv_iconst (v := (-1)) X.1 X.2.1 dX9_frequent_82 (by decide) ?_
                exact mm_xi X I hr hlk dX9_frequent_83 h
      · refine lv_iconst (v := (-1)) X.1 X.2.1 dX9_frequent_31 (by decide) ?_
        exact mm_xi X I hr hlk dX9_frequent_32 h
    · refine lv_iconst (v := (-1)) X.1 X.2.1 dX9_frequent_11 (by decide) ?_
      exact mm_xi X I hr hlk dX9_frequent_12 h
set_option maxHeartbeats 4000000 in
set_option maxRecDepth 100000 in
theorem kX9_few {l : Launch} {D : va_G} {dA : Nat → ClassId} {lo : Nat} {n : Nat} {M : mm_M} {a0 : Nat} {x1 : Int32} {x2 : Int32} (o : Int32 × mm_M) (h : pX9_few n M a0 x1 x2 = some o) : (∃ fs, M.2 a0 = some (mm_ob 9 fs)) ∧ mm_Met l D dA lo yX9_few cX9_few 6 (some .int) 5 126 0 0 [.ref a0, .int x1, .int x2] M (some (.int o.1)) o.2 := by
  unfold pX9_few at h
  obtain ⟨hob, h⟩ := mm_v_some h
  refine ⟨hob, mm_enter (by decide) (Nat.le_of_ble_eq_true rfl) (fun p e s m args below meth c ls X hr hlk hnm I hl => ?_)⟩
  have X : mm_C D dA lo cX9_few RX9 6 p s m args c := X
  have hl : lv_has ls 6 [(0, .ref a0), (1, .int x1), (2, .int x2)] := hl
  refine lv_aload_n X.1 X.2.1 dX9_few_0 rfl (lv_at hl 0 rfl) ?_
  refine mm_cVr X I hl (As := []) (ci := 9) md_X9_rankedPlaces mv_X9_rankedPlaces ml_X9_172 rfl (kX9_rankedPlaces (n := n)) (by decide) ⟨Nat.le_refl 0, Nat.le_refl 0⟩ rfl rfl (Nat.le_of_ble_eq_true rfl) dX9_few_1 h (fun v1 M H locs I h => ?_)
  refine lv_astore_n (lv' := [(3, .ref v1), (0, .ref a0), (1, .int x1), (2, .int x2)]) X.1 X.2.1 dX9_few_4 rfl hl (by decide) rfl (fun ls hl => ?_)
  refine lv_aload_n X.1 X.2.1 dX9_few_5 rfl (lv_at hl 0 rfl) ?_
  refine lv_iload_n X.1 X.2.1 dX9_few_6 rfl (lv_at hl 2 rfl) ?_
  refine lv_iload_n X.1 X.2.1 dX9_few_7 rfl (lv_at hl 3 rfl) ?_
  refine mm_cVi X I hl (As := [.int x1, .int x2]) (ci := 3) md_X3_find mv_X3_find ml_X9_168 rfl (kX3_find (n := n)) (by decide) ⟨Nat.le_refl 0, Nat.le_refl 0⟩ rfl rfl (Nat.le_of_ble_eq_true rfl) dX9_few_8 h (fun v2 M H locs I h => ?_)
  refine lv_istore (lv' := [(4, .int v2), (3, .ref v1), (0, .ref a0), (1, .int x1), (2, .int x2)]) X.1 X.2.1 dX9_few_11 hl (by decide) rfl (fun ls hl => ?_)
  refine lv_iload X.1 X.2.1 dX9_few_13 (lv_at hl 0 rfl) ?_
  refine lv_iconst (v := (-1)) X.1 X.2.1 dX9_few_15 (by decide) ?_
  refine mm_kne (tgt := 21) X dX9_few_16 (by decide) h (fun h => ?_) (fun h => ?_)
  · refine lv_iconst (v := 0) X.1 X.2.1 dX9_few_21 (by decide) ?_
    refine lv_aload_n X.1 X.2.1 dX9_few_22 rfl (lv_at hl 1 rfl) ?_
    refine lv_iload X.1 X.2.1 dX9_few_23 (lv_at hl 0 rfl) ?_
    refine lv_iconst (v := 1) X.1 X.2.1 dX9_few_25 (by decide) ?_
    refine lv_isub X.1 X.2.1 dX9_few_26 ?_
    refine mm_cVi X I hl (As := [.int (v2 - 1)]) (ci := 3) md_X3_shared mv_X3_shared ml_X9_175 rfl (kX3_shared (n := n)) (by decide) ⟨Nat.le_refl 0, Nat.le_refl 0⟩ rfl rfl (Nat.le_of_ble_eq_true rfl) dX9_few_27 h (fun v3 M H locs I h => ?_)
    refine lv_aload_n X.1 X.2.1 dX9_few_30 rfl (lv_at hl 1 rfl) ?_
    refine lv_iload X.1 X.2.1 dX9_few_31 (lv_at hl 0 rfl) ?_
    refine mm_cVi X I hl (As := [.int v2]) (ci := 3) md_X3_shared mv_X3_shared ml_X9_175 rfl (kX3_shared (n := n)) (by decide) ⟨Nat.le_refl 0, Nat.le_refl 0⟩ rfl rfl (Nat.le_of_ble_eq_true rfl) dX9_few_33 h (fun v4 M H locs I h => ?_)
    refine mm_rmax X hl ml_X9_191 (by decide) (Nat.le_of_ble_eq_true rfl) (by decide) (by decide) dX9_few_36 ?_
    refine mm_rmax X hl ml_X9_191 (by decide) (Nat.le_of_ble_eq_true rfl) (by decide) (by decide) dX9_few_39 ?_
    refine lv_istore (lv' := [(5, .int (mm_max 0 (mm_max v3 v4))), (4, .int v2), (3, .ref v1), (0, .ref a0), (1, .int x1), (2, .int x2)]) X.1 X.2.1 dX9_few_42 hl (by decide) rfl (fun ls hl => ?_)
    refine lv_iload X.1 X.2.1 dX9_few_44 (lv_at hl 0 rfl) ?_
    refine lv_aload_n X.1 X.2.1 dX9_few_46 rfl (lv_at hl 2 rfl) ?_
    refine lv_iload X.1 X.2.1 dX9_few_47 (lv_at hl 1 rfl) ?_
    refine mm_cVi X I hl (As := [.int v2]) (ci := 3) md_X3_signsFrom mv_X3_signsFrom ml_X9_165 rfl (kX3_signsFrom (n := n)) (by decide) ⟨Nat.le_refl 0, Nat.le_refl 0⟩ rfl rfl (Nat.le_of_ble_eq_true rfl) dX9_few_49 h (fun v5 M H locs I h => ?_)
    refine mm_kge (tgt := 62) X dX9_few_52 (by decide) h (fun h => ?_) (fun h => ?_)
    · refine lv_iconst (v := (-1)) X.1 X.2.1 dX9_few_62 (by decide) ?_
      exact mm_xi X I hr hlk dX9_few_63 h
    · refine lv_iload X.1 X.2.1 dX9_few_55 (lv_at hl 0 rfl) ?_
      refine lv_iconst (v := 1) X.1 X.2.1 dX9_few_57 (by decide) ?_
      refine lv_iadd X.1 X.2.1 dX9_few_58 ?_
      refine lv_goto (tgt := 63) X.1 X.2.1 dX9_few_59 (by decide) ?_
      exact mm_xi X I hr hlk dX9_few_63 h
  · refine lv_iconst (v := (-1)) X.1 X.2.1 dX9_few_19 (by decide) ?_
    exact mm_xi X I hr hlk dX9_few_20 h
set_option maxHeartbeats 4000000 in
set_option maxRecDepth 100000 in
theorem kX9_signIndex {l : Launch} {D : va_G} {dA : Nat → ClassId} {lo : Nat} {n : Nat} {M : mm_M} {x0 : Int32} (o : Int32 × mm_M) (h : pX9_signIndex n M x0 = some o) : mm_Met l D dA lo yX9_signIndex cX9_signIndex 1 (some .int) 0 0 0 0 [.int x0] M (some (.int o.1)) o.2 := by
  unfold pX9_signIndex at h
  refine mm_enter (by decide) (Nat.le_of_ble_eq_true rfl) (fun p e s m args below meth c ls X hr hlk hnm I hl => ?_)
  have X : mm_C D dA lo cX9_signIndex RX9 1 p s m args c := X
  have hl : lv_has ls 1 [(0, .int x0)] := hl
  refine lv_iload_n X.1 X.2.1 dX9_signIndex_0 rfl (lv_at hl 0 rfl) ?_
  refine lv_iconst (v := (-1)) X.1 X.2.1 dX9_signIndex_1 (by decide) ?_
  refine mm_kne (tgt := 8) X dX9_signIndex_2 (by decide) h (fun h => ?_) (fun h => ?_)
  · refine lv_iload_n X.1 X.2.1 dX9_signIndex_8 rfl (lv_at hl 0 rfl) ?_
    refine lv_bipush (v := 95) X.1 X.2.1 dX9_signIndex_9 (by decide) ?_
    refine mm_kne (tgt := 18) X dX9_signIndex_11 (by decide) h (fun h => ?_) (fun h => ?_)
    · refine lv_iload_n X.1 X.2.1 dX9_signIndex_18 rfl (lv_at hl 0 rfl) ?_
      refine lv_bipush (v := 97) X.1 X.2.1 dX9_signIndex_19 (by decide) ?_
      refine lv_isub X.1 X.2.1 dX9_signIndex_21 ?_
      refine lv_iconst (v := 1) X.1 X.2.1 dX9_signIndex_22 (by decide) ?_
      refine lv_iadd X.1 X.2.1 dX9_signIndex_23 ?_
      exact mm_xi X I hr hlk dX9_signIndex_24 h
    · refine lv_iconst (v := 0) X.1 X.2.1 dX9_signIndex_14 (by decide) ?_
      refine lv_goto (tgt := 24) X.1 X.2.1 dX9_signIndex_15 (by decide) ?_
      exact mm_xi X I hr hlk dX9_signIndex_24 h
  · refine lv_bipush (v := 27) X.1 X.2.1 dX9_signIndex_5 (by decide) ?_
    exact mm_xi X I hr hlk dX9_signIndex_7 h
set_option maxHeartbeats 4000000 in
set_option maxRecDepth 100000 in
theorem wpX9_beside_b92 {p : Program} {l : Launch} {e : Env} {s : State} {m : MethodId} {args : Array Value} {below : List Frame} {meth : Method} {c : Code} {D : va_G} {dA : Nat → ClassId} {lo : Nat} (X : mm_C D dA lo cX9_beside RX9 8 p s m args c) (hr : meth.sig.returnType = (some .int)) (hlk : meth.locks = false) (n : Nat) {o : Int32 × mm_M} {K33 : mm_M → Nat → Int32 → Int32 → Nat → Int32 → Int32 → Option (Int32 × mm_M)} (k33 : ∀ (M : mm_M) (a0 : Nat) (x1 : Int32) (x2 : Int32) (a3 : Nat) (x4 : Int32) (x5 : Int32) (H : Heap) (locs : List Loc) (ls : Array Slot), mm_I D dA lo s M H locs → lv_has ls 8 [(0, .ref a0), (1, .int x1), (2, .int x2), (3, .ref a3), (4, .int x4), (5, .int x5)] → K33 M a0 x1 x2 a3 x4 x5 = some o → W p l e (mm_rm 5 126 0 0) s m args below meth c H locs 0 0 (MQ below (mm_Q D dA lo (some (.int o.1)) o.2) args s 0 0 (mm_fr lo)) (F0 m 33 ls []))  : ∀ (M : mm_M) (a0 : Nat) (x1 : Int32) (x2 : Int32) (a3 : Nat) (x4 : Int32) (x5 : Int32) (s0 : Int32) (s1 : Nat) (H : Heap) (locs : List Loc) (ls : Array Slot), mm_I D dA lo s M H locs → lv_has ls 8 [(0, .ref a0), (1, .int x1), (2, .int x2), (3, .ref a3), (4, .int x4), (5, .int x5)] → pX9_beside_b92 n K33 M a0 x1 x2 a3 x4 x5 s0 s1 = some o → W p l e (mm_rm 5 126 0 0) s m args below meth c H locs 0 0 (MQ below (mm_Q D dA lo (some (.int o.1)) o.2) args s 0 0 (mm_fr lo)) (F0 m 92 ls [.int s0, .ref s1]) := by
  intro M a0 x1 x2 a3 x4 x5 s0 s1 H locs ls I hl h
  unfold pX9_beside_b92 at h
  refine mm_cVi X I hl (As := [.int s0]) (ci := 5) md_X5_at mv_X5_at ml_X9_152 rfl (kX5_at (n := n)) (by decide) ⟨Nat.le_refl 0, Nat.le_refl 0⟩ rfl rfl (Nat.le_of_ble_eq_true rfl) dX9_beside_92 h (fun v1 M H locs I h => ?_)
  refine mm_cSi X I hl (As := [.int v1]) md_X9_signIndex mv_X9_signIndex ml_X9_196 (kX9_signIndex (n := n)) (by decide) ⟨Nat.le_refl 0, Nat.le_refl 0⟩ rfl rfl (Nat.le_of_ble_eq_true rfl) dX9_beside_95 h (fun v2 M H locs I h => ?_)
  refine lv_iload_n X.1 X.2.1 dX9_beside_98 rfl (lv_at hl 2 rfl) ?_
  refine mm_kne (tgt := 105) X dX9_beside_99 (by decide) h (fun h => ?_) (fun h => ?_)
  · refine lv_iinc (v := (x5 + 1)) (lv' := [(5, .int (x5 + 1)), (0, .ref a0), (1, .int x1), (2, .int x2), (3, .ref a3), (4, .int x4)]) X.1 X.2.1 dX9_beside_105 hl (k := 5) rfl rfl (by decide) rfl (fun ls hl => ?_)
    refine lv_goto (tgt := 33) X.1 X.2.1 dX9_beside_108 (by decide) ?_
    exact k33 M _ _ _ _ _ _ _ _ _ I (lv_sub hl [1, 2, 3, 4, 5, 0] rfl) h
  · refine lv_iinc (v := (x4 + 1)) (lv' := [(4, .int (x4 + 1)), (0, .ref a0), (1, .int x1), (2, .int x2), (3, .ref a3), (5, .int x5)]) X.1 X.2.1 dX9_beside_102 hl (k := 4) rfl rfl (by decide) rfl (fun ls hl => ?_)
    refine lv_iinc (v := (x5 + 1)) (lv' := [(5, .int (x5 + 1)), (4, .int (x4 + 1)), (0, .ref a0), (1, .int x1), (2, .int x2), (3, .ref a3)]) X.1 X.2.1 dX9_beside_105 hl (k := 5) rfl rfl (by decide) rfl (fun ls hl => ?_)
    refine lv_goto (tgt := 33) X.1 X.2.1 dX9_beside_108 (by decide) ?_
    exact k33 M _ _ _ _ _ _ _ _ _ I (lv_sub hl [2, 3, 4, 5, 1, 0] rfl) h
set_option maxHeartbeats 4000000 in
set_option maxRecDepth 100000 in
theorem wpX9_beside_l33 {p : Program} {l : Launch} {e : Env} {s : State} {m : MethodId} {args : Array Value} {below : List Frame} {meth : Method} {c : Code} {D : va_G} {dA : Nat → ClassId} {lo : Nat} (X : mm_C D dA lo cX9_beside RX9 8 p s m args c) (hr : meth.sig.returnType = (some .int)) (hlk : meth.locks = false) (n : Nat) {o : Int32 × mm_M} (k : Nat) : ∀ (M : mm_M) (a0 : Nat) (x1 : Int32) (x2 : Int32) (a3 : Nat) (x4 : Int32) (x5 : Int32) (H : Heap) (locs : List Loc) (ls : Array Slot), mm_I D dA lo s M H locs → lv_has ls 8 [(0, .ref a0), (1, .int x1), (2, .int x2), (3, .ref a3), (4, .int x4), (5, .int x5)] → pX9_beside_l33 n k M a0 x1 x2 a3 x4 x5 = some o → W p l e (mm_rm 5 126 0 0) s m args below meth c H locs 0 0 (MQ below (mm_Q D dA lo (some (.int o.1)) o.2) args s 0 0 (mm_fr lo)) (F0 m 33 ls []) := by
  induction k with
  | zero =>
    intro M a0 x1 x2 a3 x4 x5 H locs ls I hl h
    have h : (none : Option (Int32 × mm_M)) = some o := h
    cases h
  | succ k ih =>
    intro M a0 x1 x2 a3 x4 x5 H locs ls I hl h
    have h : pX9_beside_l33b n (pX9_beside_l33 n k) M a0 x1 x2 a3 x4 x5 = some o := h
    unfold pX9_beside_l33b at h
    refine lv_iload X.1 X.2.1 dX9_beside_33 (lv_at hl 5 rfl) ?_
    refine lv_aload_n X.1 X.2.1 dX9_beside_35 rfl (lv_at hl 3 rfl) ?_
    refine mm_rgi X I fl_X9_130 dX9_beside_36 h (fun v1 h => ?_)
    refine mm_kge (tgt := 111) X dX9_beside_39 (by decide) h (fun h => ?_) (fun h => ?_)
    · refine lv_iload X.1 X.2.1 dX9_beside_111 (lv_at hl 4 rfl) ?_
      exact mm_xi X I hr hlk dX9_beside_113 h
    · refine lv_aload_n X.1 X.2.1 dX9_beside_42 rfl (lv_at hl 3 rfl) ?_
      refine lv_iload X.1 X.2.1 dX9_beside_43 (lv_at hl 5 rfl) ?_
      refine mm_cVi X I hl (As := [.int x5]) (ci := 3) md_X3_placeOf mv_X3_placeOf ml_X9_162 rfl (kX3_placeOf (n := n)) (by decide) ⟨Nat.le_refl 0, Nat.le_refl 0⟩ rfl rfl (Nat.le_of_ble_eq_true rfl) dX9_beside_45 h (fun v2 M H locs I h => ?_)
      refine lv_istore (lv' := [(6, .int v2), (0, .ref a0), (1, .int x1), (2, .int x2), (3, .ref a3), (4, .int x4), (5, .int x5)]) X.1 X.2.1 dX9_beside_48 hl (by decide) rfl (fun ls hl => ?_)
      refine lv_aload_n X.1 X.2.1 dX9_beside_50 rfl (lv_at hl 1 rfl) ?_
      refine mm_rgr X I fl_X9_60 dX9_beside_51 h (fun v3 h => ?_)
      refine mm_rgr X I fl_X9_140 dX9_beside_54 h (fun v4 h => ?_)
      refine lv_aload_n X.1 X.2.1 dX9_beside_57 rfl (lv_at hl 4 rfl) ?_
      refine lv_iload X.1 X.2.1 dX9_beside_58 (lv_at hl 6 rfl) ?_
      refine mm_cVi X I hl (As := [.int x5]) (ci := 3) md_X3_lineOf mv_X3_lineOf ml_X9_159 rfl (kX3_lineOf (n := n)) (by decide) ⟨Nat.le_refl 0, Nat.le_refl 0⟩ rfl rfl (Nat.le_of_ble_eq_true rfl) dX9_beside_60 h (fun v5 M H locs I h => ?_)
      refine mm_rra X I dX9_beside_63 h (fun v6 h => ?_)
      refine mm_rgr X I fl_X9_149 dX9_beside_64 h (fun v7 h => ?_)
      refine lv_astore (lv' := [(7, .ref v7), (6, .int v2), (0, .ref a0), (1, .int x1), (2, .int x2), (3, .ref a3), (4, .int x4), (5, .int x5)]) X.1 X.2.1 dX9_beside_67 hl (by decide) rfl (fun ls hl => ?_)
      refine lv_aload X.1 X.2.1 dX9_beside_69 (lv_at hl 0 rfl) ?_
      refine lv_iload_n X.1 X.2.1 dX9_beside_71 rfl (lv_at hl 3 rfl) ?_
      refine mm_jeq (tgt := 88) X dX9_beside_72 (by decide) h (fun h => ?_) (fun h => ?_)
      · refine lv_iload X.1 X.2.1 dX9_beside_88 (lv_at hl 1 rfl) ?_
        refine lv_iconst (v := 1) X.1 X.2.1 dX9_beside_90 (by decide) ?_
        refine lv_isub X.1 X.2.1 dX9_beside_91 ?_
        exact wpX9_beside_b92 X hr hlk n ih M _ _ _ _ _ _ _ _ _ _ _ I (lv_sub hl [2, 3, 4, 5, 6, 7] rfl) h
      · refine lv_iload X.1 X.2.1 dX9_beside_75 (lv_at hl 1 rfl) ?_
        refine lv_aload_n X.1 X.2.1 dX9_beside_77 rfl (lv_at hl 2 rfl) ?_
        refine mm_rgr X I fl_X9_33 dX9_beside_78 h (fun v8 h => ?_)
        refine mm_rgi X I fl_X9_109 dX9_beside_81 h (fun v9 h => ?_)
        refine lv_iadd X.1 X.2.1 dX9_beside_84 ?_
        refine lv_goto (tgt := 92) X.1 X.2.1 dX9_beside_85 (by decide) ?_
        exact wpX9_beside_b92 X hr hlk n ih M _ _ _ _ _ _ _ _ _ _ _ I (lv_sub hl [2, 3, 4, 5, 6, 7] rfl) h
set_option maxHeartbeats 4000000 in
set_option maxRecDepth 100000 in
theorem kX9_beside {l : Launch} {D : va_G} {dA : Nat → ClassId} {lo : Nat} {n : Nat} {M : mm_M} {a0 : Nat} {x1 : Int32} {x2 : Int32} (o : Int32 × mm_M) (h : pX9_beside n M a0 x1 x2 = some o) : (∃ fs, M.2 a0 = some (mm_ob 9 fs)) ∧ mm_Met l D dA lo yX9_beside cX9_beside 8 (some .int) 5 126 0 0 [.ref a0, .int x1, .int x2] M (some (.int o.1)) o.2 := by
  unfold pX9_beside at h
  obtain ⟨hob, h⟩ := mm_v_some h
  refine ⟨hob, mm_enter (by decide) (Nat.le_of_ble_eq_true rfl) (fun p e s m args below meth c ls X hr hlk hnm I hl => ?_)⟩
  have X : mm_C D dA lo cX9_beside RX9 8 p s m args c := X
  have hl : lv_has ls 8 [(0, .ref a0), (1, .int x1), (2, .int x2)] := hl
  refine lv_aload_n X.1 X.2.1 dX9_beside_0 rfl (lv_at hl 0 rfl) ?_
  refine mm_rgr X I fl_X9_33 dX9_beside_1 h (fun v1 h => ?_)
  refine mm_rgi X I fl_X9_109 dX9_beside_4 h (fun v2 h => ?_)
  refine mm_jeq (tgt := 20) X dX9_beside_7 (by decide) h (fun h => ?_) (fun h => ?_)
  · refine lv_iconst (v := (-1)) X.1 X.2.1 dX9_beside_20 (by decide) ?_
    exact mm_xi X I hr hlk dX9_beside_21 h
  · refine lv_iload_n X.1 X.2.1 dX9_beside_10 rfl (lv_at hl 2 rfl) ?_
    refine mm_jlt (tgt := 20) X dX9_beside_11 (by decide) h (fun h => ?_) (fun h => ?_)
    · refine lv_iconst (v := (-1)) X.1 X.2.1 dX9_beside_20 (by decide) ?_
      exact mm_xi X I hr hlk dX9_beside_21 h
    · refine lv_iload_n X.1 X.2.1 dX9_beside_14 rfl (lv_at hl 2 rfl) ?_
      refine lv_bipush (v := 27) X.1 X.2.1 dX9_beside_15 (by decide) ?_
      refine mm_kle (tgt := 22) X dX9_beside_17 (by decide) h (fun h => ?_) (fun h => ?_)
      · refine lv_aload_n X.1 X.2.1 dX9_beside_22 rfl (lv_at hl 0 rfl) ?_
        refine mm_cVr X I hl (As := []) (ci := 9) md_X9_rankedHits mv_X9_rankedHits ml_X9_126 rfl (kX9_rankedHits (n := n)) (by decide) ⟨Nat.le_refl 0, Nat.le_refl 0⟩ rfl rfl (Nat.le_of_ble_eq_true rfl) dX9_beside_23 h (fun v3 M H locs I h => ?_)
        refine lv_astore_n (lv' := [(3, .ref v3), (0, .ref a0), (1, .int x1), (2, .int x2)]) X.1 X.2.1 dX9_beside_26 rfl hl (by decide) rfl (fun ls hl => ?_)
        refine lv_iconst (v := 0) X.1 X.2.1 dX9_beside_27 (by decide) ?_
        refine lv_istore (lv' := [(4, .int 0), (3, .ref v3), (0, .ref a0), (1, .int x1), (2, .int x2)]) X.1 X.2.1 dX9_beside_28 hl (by decide) rfl (fun ls hl => ?_)
        refine lv_iconst (v := 0) X.1 X.2.1 dX9_beside_30 (by decide) ?_
        refine lv_istore (lv' := [(5, .int 0), (4, .int 0), (3, .ref v3), (0, .ref a0), (1, .int x1), (2, .int x2)]) X.1 X.2.1 dX9_beside_31 hl (by decide) rfl (fun ls hl => ?_)
        exact wpX9_beside_l33 X hr hlk n  n M _ _ _ _ _ _ _ _ _ I (lv_sub hl [3, 4, 5, 2, 1, 0] rfl) h
      · refine lv_iconst (v := (-1)) X.1 X.2.1 dX9_beside_20 (by decide) ?_
        exact mm_xi X I hr hlk dX9_beside_21 h
set_option maxHeartbeats 4000000 in
set_option maxRecDepth 100000 in
theorem kX9_askWithTape {l : Launch} {D : va_G} {dA : Nat → ClassId} {lo : Nat} {n : Nat} {M : mm_M} {a0 : Nat} {x1 : Int32} {x2 : Int32} (o : mm_M) (h : pX9_askWithTape n M a0 x1 x2 = some o) : (∃ fs, M.2 a0 = some (mm_ob 9 fs)) ∧ mm_Met l D dA lo yX9_askWithTape cX9_askWithTape 3 none 3 66 0 0 [.ref a0, .int x1, .int x2] M none o := by
  unfold pX9_askWithTape at h
  obtain ⟨hob, h⟩ := mm_v_some h
  refine ⟨hob, mm_enter (by decide) (Nat.le_of_ble_eq_true rfl) (fun p e s m args below meth c ls X hr hlk hnm I hl => ?_)⟩
  have X : mm_C D dA lo cX9_askWithTape RX9 3 p s m args c := X
  have hl : lv_has ls 3 [(0, .ref a0), (1, .int x1), (2, .int x2)] := hl
  refine lv_aload_n X.1 X.2.1 dX9_askWithTape_0 rfl (lv_at hl 0 rfl) ?_
  refine mm_rgr X I fl_X9_46 dX9_askWithTape_1 h (fun v1 h => ?_)
  refine lv_iload_n X.1 X.2.1 dX9_askWithTape_4 rfl (lv_at hl 1 rfl) ?_
  refine lv_iload_n X.1 X.2.1 dX9_askWithTape_5 rfl (lv_at hl 2 rfl) ?_
  refine lv_ldc (v := (-1000000)) X.1 X.2.1 X.2.2.2.1 (X.2.2.2.2.1 _ cn_X9_210) dX9_askWithTape_6 ?_
  refine mm_cVv X I hl (As := [.int x1, .int x2, .int (-1000000)]) (ci := 7) md_X7_tell mv_X7_tell ml_X9_211 rfl (kX7_tell (n := n)) (by decide) ⟨Nat.le_refl 0, Nat.le_refl 0⟩ rfl rfl (Nat.le_of_ble_eq_true rfl) dX9_askWithTape_8 h (fun M H locs I h => ?_)
  refine lv_aload_n X.1 X.2.1 dX9_askWithTape_11 rfl (lv_at hl 0 rfl) ?_
  refine mm_rgr X I fl_X9_10 dX9_askWithTape_12 h (fun v3 h => ?_)
  refine lv_aload_n X.1 X.2.1 dX9_askWithTape_15 rfl (lv_at hl 0 rfl) ?_
  refine mm_rgr X I fl_X9_46 dX9_askWithTape_16 h (fun v4 h => ?_)
  refine mm_rgr X I fl_X9_215 dX9_askWithTape_19 h (fun v5 h => ?_)
  refine lv_bipush (v := 20) X.1 X.2.1 dX9_askWithTape_22 (by decide) ?_
  refine mm_cVi X I hl (As := [.ref v5, .int 20]) (ci := 8) md_X8_rowFault mv_X8_rowFault ml_X9_95 rfl (kX8_rowFault (n := n)) (by decide) ⟨Nat.le_refl 0, Nat.le_refl 0⟩ rfl rfl (Nat.le_of_ble_eq_true rfl) dX9_askWithTape_24 h (fun v6 M H locs I h => ?_)
  refine lv_iconst (v := (-1)) X.1 X.2.1 dX9_askWithTape_27 (by decide) ?_
  refine mm_keq (tgt := 42) X dX9_askWithTape_28 (by decide) h (fun h => ?_) (fun h => ?_)
  · exact mm_xv X I hr hlk dX9_askWithTape_42 h
  · refine lv_aload_n X.1 X.2.1 dX9_askWithTape_31 rfl (lv_at hl 0 rfl) ?_
    refine mm_rgr X I fl_X9_46 dX9_askWithTape_32 h (fun v7 h => ?_)
    refine mm_rgr X I fl_X9_215 dX9_askWithTape_35 h (fun v8 h => ?_)
    refine lv_iconst (v := 0) X.1 X.2.1 dX9_askWithTape_38 (by decide) ?_
    refine mm_rpi X I fl_X9_109 dX9_askWithTape_39 h (fun M H locs I h => ?_)
    exact mm_xv X I hr hlk dX9_askWithTape_42 h
set_option maxHeartbeats 4000000 in
set_option maxRecDepth 100000 in
theorem wpX9_attempt_b68 {p : Program} {l : Launch} {e : Env} {s : State} {m : MethodId} {args : Array Value} {below : List Frame} {meth : Method} {c : Code} {D : va_G} {dA : Nat → ClassId} {lo : Nat} (X : mm_C D dA lo cX9_attempt RX9 6 p s m args c) (hr : meth.sig.returnType = (some .int)) (hlk : meth.locks = false) (n : Nat) {o : Int32 × mm_M}  : ∀ (M : mm_M) (a0 : Nat) (a1 : Nat) (s0 : Int32) (s1 : Nat) (H : Heap) (locs : List Loc) (ls : Array Slot), mm_I D dA lo s M H locs → lv_has ls 6 [(0, .ref a0), (1, .ref a1)] → pX9_attempt_b68 n M a0 a1 s0 s1 = some o → W p l e (mm_rm 5 129 0 0) s m args below meth c H locs 0 0 (MQ below (mm_Q D dA lo (some (.int o.1)) o.2) args s 0 0 (mm_fr lo)) (F0 m 68 ls [.int s0, .ref s1]) := by
  intro M a0 a1 s0 s1 H locs ls I hl h
  unfold pX9_attempt_b68 at h
  refine mm_rpi X I fl_X9_270 dX9_attempt_68 h (fun M H locs I h => ?_)
  refine lv_aload_n X.1 X.2.1 dX9_attempt_71 rfl (lv_at hl 0 rfl) ?_
  refine lv_bipush (v := 40) X.1 X.2.1 dX9_attempt_72 (by decide) ?_
  refine lv_aload_n X.1 X.2.1 dX9_attempt_74 rfl (lv_at hl 0 rfl) ?_
  refine mm_rgi X I fl_X9_110 dX9_attempt_75 h (fun v1 h => ?_)
  refine lv_iconst (v := 1) X.1 X.2.1 dX9_attempt_78 (by decide) ?_
  refine lv_iadd X.1 X.2.1 dX9_attempt_79 ?_
  refine mm_rmin X hl ml_X9_282 (by decide) (Nat.le_of_ble_eq_true rfl) (by decide) (by decide) dX9_attempt_80 ?_
  refine mm_rpi X I fl_X9_110 dX9_attempt_83 h (fun M H locs I h => ?_)
  refine lv_aload_n X.1 X.2.1 dX9_attempt_86 rfl (lv_at hl 0 rfl) ?_
  refine mm_cVv X I hl (As := []) (ci := 9) md_X9_forgetRankings mv_X9_forgetRankings ml_X9_117 rfl (kX9_forgetRankings (n := n)) (by decide) ⟨Nat.le_refl 0, Nat.le_refl 0⟩ rfl rfl (Nat.le_of_ble_eq_true rfl) dX9_attempt_87 h (fun M H locs I h => ?_)
  refine lv_aload_n X.1 X.2.1 dX9_attempt_90 rfl (lv_at hl 0 rfl) ?_
  refine mm_rgr X I fl_X9_60 dX9_attempt_91 h (fun v3 h => ?_)
  refine lv_aload_n X.1 X.2.1 dX9_attempt_94 rfl (lv_at hl 1 rfl) ?_
  refine mm_cVi X I hl (As := [.ref a1]) (ci := 6) md_X6_subject mv_X6_subject ml_X9_342 rfl (kX6_subject (n := n)) (by decide) ⟨Nat.le_refl 0, Nat.le_refl 0⟩ rfl rfl (Nat.le_of_ble_eq_true rfl) dX9_attempt_95 h (fun v4 M H locs I h => ?_)
  refine lv_istore (lv' := [(4, .int v4), (0, .ref a0), (1, .ref a1)]) X.1 X.2.1 dX9_attempt_98 hl (by decide) rfl (fun ls hl => ?_)
  refine lv_aload_n X.1 X.2.1 dX9_attempt_100 rfl (lv_at hl 1 rfl) ?_
  refine mm_rgr X I fl_X9_60 dX9_attempt_101 h (fun v5 h => ?_)
  refine lv_aload_n X.1 X.2.1 dX9_attempt_104 rfl (lv_at hl 2 rfl) ?_
  refine mm_cVi X I hl (As := [.ref a1]) (ci := 6) md_X6_carryOut mv_X6_carryOut ml_X9_311 rfl (kX6_carryOut (n := n)) (by decide) ⟨Nat.le_refl 0, Nat.le_refl 0⟩ rfl rfl (Nat.le_of_ble_eq_true rfl) dX9_attempt_105 h (fun v6 M H locs I h => ?_)
  refine lv_istore (lv' := [(5, .int v6), (4, .int v4), (0, .ref a0), (1, .ref a1)]) X.1 X.2.1 dX9_attempt_108 hl (by decide) rfl (fun ls hl => ?_)
  refine lv_aload_n X.1 X.2.1 dX9_attempt_110 rfl (lv_at hl 2 rfl) ?_
  refine mm_rgr X I fl_X9_60 dX9_attempt_111 h (fun v7 h => ?_)
  refine mm_rgr X I fl_X9_273 dX9_attempt_114 h (fun v8 h => ?_)
  refine lv_aload_n X.1 X.2.1 dX9_attempt_117 rfl (lv_at hl 3 rfl) ?_
  refine mm_rgi X I fl_X9_298 dX9_attempt_118 h (fun v9 h => ?_)
  refine lv_iload X.1 X.2.1 dX9_attempt_121 (lv_at hl 1 rfl) ?_
  refine lv_aload_n X.1 X.2.1 dX9_attempt_123 rfl (lv_at hl 2 rfl) ?_
  refine mm_rgr X I fl_X9_60 dX9_attempt_124 h (fun v10 h => ?_)
  refine mm_cVi X I hl (As := []) (ci := 6) md_X6_allSigns mv_X6_allSigns ml_X9_131 rfl (kX6_allSigns (n := n)) (by decide) ⟨Nat.le_refl 0, Nat.le_refl 0⟩ rfl rfl (Nat.le_of_ble_eq_true rfl) dX9_attempt_127 h (fun v11 M H locs I h => ?_)
  refine mm_cVv X I hl (As := [.int v9, .int v4, .int v11]) (ci := 1) md_X1_add mv_X1_add ml_X9_345 rfl (kX1_add (n := n)) (by decide) ⟨Nat.le_refl 0, Nat.le_refl 0⟩ rfl rfl (Nat.le_of_ble_eq_true rfl) dX9_attempt_130 h (fun M H locs I h => ?_)
  refine lv_iload X.1 X.2.1 dX9_attempt_133 (lv_at hl 0 rfl) ?_
  exact mm_xi X I hr hlk dX9_attempt_135 h
set_option maxHeartbeats 4000000 in
set_option maxRecDepth 100000 in
theorem kX9_attempt {l : Launch} {D : va_G} {dA : Nat → ClassId} {lo : Nat} {n : Nat} {M : mm_M} {a0 : Nat} {a1 : Nat} {x2 : Int32} (o : Int32 × mm_M) (h : pX9_attempt n M a0 a1 x2 = some o) : (∃ fs, M.2 a0 = some (mm_ob 9 fs)) ∧ mm_Met l D dA lo yX9_attempt cX9_attempt 6 (some .int) 5 129 0 0 [.ref a0, .ref a1, .int x2] M (some (.int o.1)) o.2 := by
  unfold pX9_attempt at h
  obtain ⟨hob, h⟩ := mm_v_some h
  refine ⟨hob, mm_enter (by decide) (Nat.le_of_ble_eq_true rfl) (fun p e s m args below meth c ls X hr hlk hnm I hl => ?_)⟩
  have X : mm_C D dA lo cX9_attempt RX9 6 p s m args c := X
  have hl : lv_has ls 6 [(0, .ref a0), (1, .ref a1), (2, .int x2)] := hl
  refine lv_aload_n X.1 X.2.1 dX9_attempt_0 rfl (lv_at hl 0 rfl) ?_
  refine mm_rgr X I fl_X9_60 dX9_attempt_1 h (fun v1 h => ?_)
  refine lv_aload_n X.1 X.2.1 dX9_attempt_4 rfl (lv_at hl 1 rfl) ?_
  refine mm_cVi X I hl (As := [.ref a1]) (ci := 6) md_X6_refusal mv_X6_refusal ml_X9_307 rfl (kX6_refusal (n := n)) (by decide) ⟨Nat.le_refl 0, Nat.le_refl 0⟩ rfl rfl (Nat.le_of_ble_eq_true rfl) dX9_attempt_5 h (fun v2 M H locs I h => ?_)
  refine lv_istore_n (lv' := [(3, .int v2), (0, .ref a0), (1, .ref a1), (2, .int x2)]) X.1 X.2.1 dX9_attempt_8 rfl hl (by decide) rfl (fun ls hl => ?_)
  refine lv_iload_n X.1 X.2.1 dX9_attempt_9 rfl (lv_at hl 0 rfl) ?_
  refine lv_iconst (v := (-1)) X.1 X.2.1 dX9_attempt_10 (by decide) ?_
  refine mm_keq (tgt := 30) X dX9_attempt_11 (by decide) h (fun h => ?_) (fun h => ?_)
  · refine lv_aload_n X.1 X.2.1 dX9_attempt_30 rfl (lv_at hl 1 rfl) ?_
    refine mm_rgr X I fl_X9_26 dX9_attempt_31 h (fun v3 h => ?_)
    refine lv_aload_n X.1 X.2.1 dX9_attempt_34 rfl (lv_at hl 1 rfl) ?_
    refine mm_rgi X I fl_X9_270 dX9_attempt_35 h (fun v4 h => ?_)
    refine mm_rra X I dX9_attempt_38 h (fun v5 h => ?_)
    refine lv_aload_n X.1 X.2.1 dX9_attempt_39 rfl (lv_at hl 1 rfl) ?_
    refine mm_rgr X I fl_X9_60 dX9_attempt_40 h (fun v6 h => ?_)
    refine mm_cVv X I hl (As := [.ref v6]) (ci := 6) md_X6_copyFrom mv_X6_copyFrom ml_X9_106 rfl (kX6_copyFrom (n := n)) (by decide) ⟨Nat.le_refl 0, Nat.le_refl 0⟩ rfl rfl (Nat.le_of_ble_eq_true rfl) dX9_attempt_43 h (fun M H locs I h => ?_)
    refine lv_aload_n X.1 X.2.1 dX9_attempt_46 rfl (lv_at hl 1 rfl) ?_
    refine lv_aload_n X.1 X.2.1 dX9_attempt_47 rfl (lv_at hl 1 rfl) ?_
    refine mm_rgi X I fl_X9_270 dX9_attempt_48 h (fun v8 h => ?_)
    refine lv_iconst (v := 1) X.1 X.2.1 dX9_attempt_51 (by decide) ?_
    refine lv_iadd X.1 X.2.1 dX9_attempt_52 ?_
    refine lv_bipush (v := 40) X.1 X.2.1 dX9_attempt_53 (by decide) ?_
    refine mm_kne (tgt := 62) X dX9_attempt_55 (by decide) h (fun h => ?_) (fun h => ?_)
    · refine lv_aload_n X.1 X.2.1 dX9_attempt_62 rfl (lv_at hl 1 rfl) ?_
      refine mm_rgi X I fl_X9_270 dX9_attempt_63 h (fun v9 h => ?_)
      refine lv_iconst (v := 1) X.1 X.2.1 dX9_attempt_66 (by decide) ?_
      refine lv_iadd X.1 X.2.1 dX9_attempt_67 ?_
      exact wpX9_attempt_b68 X hr hlk n  M _ _ _ _ _ _ _ I (lv_sub hl [1, 2] rfl) h
    · refine lv_iconst (v := 0) X.1 X.2.1 dX9_attempt_58 (by decide) ?_
      refine lv_goto (tgt := 68) X.1 X.2.1 dX9_attempt_59 (by decide) ?_
      exact wpX9_attempt_b68 X hr hlk n  M _ _ _ _ _ _ _ I (lv_sub hl [1, 2] rfl) h
  · refine lv_iload_n X.1 X.2.1 dX9_attempt_14 rfl (lv_at hl 3 rfl) ?_
    refine mm_jeq (tgt := 28) X dX9_attempt_15 (by decide) h (fun h => ?_) (fun h => ?_)
    · refine lv_iconst (v := (-1)) X.1 X.2.1 dX9_attempt_28 (by decide) ?_
      exact mm_xi X I hr hlk dX9_attempt_29 h
    · refine lv_aload_n X.1 X.2.1 dX9_attempt_18 rfl (lv_at hl 1 rfl) ?_
      refine mm_rgr X I fl_X9_56 dX9_attempt_19 h (fun v10 h => ?_)
      refine lv_iload_n X.1 X.2.1 dX9_attempt_22 rfl (lv_at hl 0 rfl) ?_
      refine lv_dup2_11 X.1 X.2.1 dX9_attempt_23 rfl rfl ?_
      refine mm_ria X I dX9_attempt_24 h (fun v11 h => ?_)
      refine lv_iconst (v := 1) X.1 X.2.1 dX9_attempt_25 (by decide) ?_
      refine lv_iadd X.1 X.2.1 dX9_attempt_26 ?_
      refine mm_ris X I dX9_attempt_27 h (fun M H locs I h => ?_)
      refine lv_iconst (v := (-1)) X.1 X.2.1 dX9_attempt_28 (by decide) ?_
      exact mm_xi X I hr hlk dX9_attempt_29 h
set_option maxHeartbeats 4000000 in
set_option maxRecDepth 100000 in
theorem kX9_spendTape {l : Launch} {D : va_G} {dA : Nat → ClassId} {lo : Nat} {n : Nat} {M : mm_M} {a0 : Nat} {x1 : Int32} (o : Int32 × mm_M) (h : pX9_spendTape n M a0 x1 = some o) : (∃ fs, M.2 a0 = some (mm_ob 9 fs)) ∧ mm_Met l D dA lo yX9_spendTape cX9_spendTape 2 (some .int) 0 0 0 0 [.ref a0, .int x1] M (some (.int o.1)) o.2 := by
  unfold pX9_spendTape at h
  obtain ⟨hob, h⟩ := mm_v_some h
  refine ⟨hob, mm_enter (by decide) (Nat.le_of_ble_eq_true rfl) (fun p e s m args below meth c ls X hr hlk hnm I hl => ?_)⟩
  have X : mm_C D dA lo cX9_spendTape RX9 2 p s m args c := X
  have hl : lv_has ls 2 [(0, .ref a0), (1, .int x1)] := hl
  refine lv_iload_n X.1 X.2.1 dX9_spendTape_0 rfl (lv_at hl 1 rfl) ?_
  refine lv_iconst (v := (-1)) X.1 X.2.1 dX9_spendTape_1 (by decide) ?_
  refine mm_keq (tgt := 13) X dX9_spendTape_2 (by decide) h (fun h => ?_) (fun h => ?_)
  · refine lv_iload_n X.1 X.2.1 dX9_spendTape_13 rfl (lv_at hl 1 rfl) ?_
    exact mm_xi X I hr hlk dX9_spendTape_14 h
  · refine lv_aload_n X.1 X.2.1 dX9_spendTape_5 rfl (lv_at hl 0 rfl) ?_
    refine mm_rgr X I fl_X9_10 dX9_spendTape_6 h (fun v1 h => ?_)
    refine lv_iconst (v := 0) X.1 X.2.1 dX9_spendTape_9 (by decide) ?_
    refine mm_rpi X I fl_X9_76 dX9_spendTape_10 h (fun M H locs I h => ?_)
    refine lv_iload_n X.1 X.2.1 dX9_spendTape_13 rfl (lv_at hl 1 rfl) ?_
    exact mm_xi X I hr hlk dX9_spendTape_14 h
set_option maxHeartbeats 4000000 in
set_option maxRecDepth 100000 in
theorem kX9_set {l : Launch} {D : va_G} {dA : Nat → ClassId} {lo : Nat} {n : Nat} {M : mm_M} {a0 : Nat} {x1 : Int32} (o : Int32 × mm_M) (h : pX9_set n M a0 x1 = some o) : (∃ fs, M.2 a0 = some (mm_ob 9 fs)) ∧ mm_Met l D dA lo yX9_set cX9_set 2 (some .int) 6 154 0 0 [.ref a0, .int x1] M (some (.int o.1)) o.2 := by
  unfold pX9_set at h
  obtain ⟨hob, h⟩ := mm_v_some h
  refine ⟨hob, mm_enter (by decide) (Nat.le_of_ble_eq_true rfl) (fun p e s m args below meth c ls X hr hlk hnm I hl => ?_)⟩
  have X : mm_C D dA lo cX9_set RX9 2 p s m args c := X
  have hl : lv_has ls 2 [(0, .ref a0), (1, .int x1)] := hl
  refine lv_aload_n X.1 X.2.1 dX9_set_0 rfl (lv_at hl 0 rfl) ?_
  refine lv_iconst (v := 0) X.1 X.2.1 dX9_set_1 (by decide) ?_
  refine lv_iload_n X.1 X.2.1 dX9_set_2 rfl (lv_at hl 1 rfl) ?_
  refine mm_cVv X I hl (As := [.int 0, .int x1]) (ci := 9) md_X9_askWithTape mv_X9_askWithTape ml_X9_199 rfl (kX9_askWithTape (n := n)) (by decide) ⟨Nat.le_refl 0, Nat.le_refl 0⟩ rfl rfl (Nat.le_of_ble_eq_true rfl) dX9_set_3 h (fun M H locs I h => ?_)
  refine lv_aload_n X.1 X.2.1 dX9_set_6 rfl (lv_at hl 0 rfl) ?_
  refine lv_aload_n X.1 X.2.1 dX9_set_7 rfl (lv_at hl 0 rfl) ?_
  refine lv_aload_n X.1 X.2.1 dX9_set_8 rfl (lv_at hl 0 rfl) ?_
  refine mm_rgr X I fl_X9_46 dX9_set_9 h (fun v2 h => ?_)
  refine lv_iconst (v := 1) X.1 X.2.1 dX9_set_12 (by decide) ?_
  refine mm_cVi X I hl (As := [.ref v2, .int 1]) (ci := 9) md_X9_attempt mv_X9_attempt ml_X9_203 rfl (kX9_attempt (n := n)) (by decide) ⟨Nat.le_refl 0, Nat.le_refl 0⟩ rfl rfl (Nat.le_of_ble_eq_true rfl) dX9_set_13 h (fun v3 M H locs I h => ?_)
  refine mm_cVi X I hl (As := [.int v3]) (ci := 9) md_X9_spendTape mv_X9_spendTape ml_X9_207 rfl (kX9_spendTape (n := n)) (by decide) ⟨Nat.le_refl 0, Nat.le_refl 0⟩ rfl rfl (Nat.le_of_ble_eq_true rfl) dX9_set_16 h (fun v4 M H locs I h => ?_)
  exact mm_xi X I hr hlk dX9_set_19 h
set_option maxHeartbeats 4000000 in
set_option maxRecDepth 100000 in
theorem kX9_put {l : Launch} {D : va_G} {dA : Nat → ClassId} {lo : Nat} {n : Nat} {M : mm_M} {a0 : Nat} {x1 : Int32} (o : Int32 × mm_M) (h : pX9_put n M a0 x1 = some o) : (∃ fs, M.2 a0 = some (mm_ob 9 fs)) ∧ mm_Met l D dA lo yX9_put cX9_put 2 (some .int) 6 154 0 0 [.ref a0, .int x1] M (some (.int o.1)) o.2 := by
  unfold pX9_put at h
  obtain ⟨hob, h⟩ := mm_v_some h
  refine ⟨hob, mm_enter (by decide) (Nat.le_of_ble_eq_true rfl) (fun p e s m args below meth c ls X hr hlk hnm I hl => ?_)⟩
  have X : mm_C D dA lo cX9_put RX9 2 p s m args c := X
  have hl : lv_has ls 2 [(0, .ref a0), (1, .int x1)] := hl
  refine lv_aload_n X.1 X.2.1 dX9_put_0 rfl (lv_at hl 0 rfl) ?_
  refine lv_iconst (v := 1) X.1 X.2.1 dX9_put_1 (by decide) ?_
  refine lv_iload_n X.1 X.2.1 dX9_put_2 rfl (lv_at hl 1 rfl) ?_
  refine mm_cVv X I hl (As := [.int 1, .int x1]) (ci := 9) md_X9_askWithTape mv_X9_askWithTape ml_X9_199 rfl (kX9_askWithTape (n := n)) (by decide) ⟨Nat.le_refl 0, Nat.le_refl 0⟩ rfl rfl (Nat.le_of_ble_eq_true rfl) dX9_put_3 h (fun M H locs I h => ?_)
  refine lv_aload_n X.1 X.2.1 dX9_put_6 rfl (lv_at hl 0 rfl) ?_
  refine lv_aload_n X.1 X.2.1 dX9_put_7 rfl (lv_at hl 0 rfl) ?_
  refine lv_aload_n X.1 X.2.1 dX9_put_8 rfl (lv_at hl 0 rfl) ?_
  refine mm_rgr X I fl_X9_46 dX9_put_9 h (fun v2 h => ?_)
  refine lv_iconst (v := 1) X.1 X.2.1 dX9_put_12 (by decide) ?_
  refine mm_cVi X I hl (As := [.ref v2, .int 1]) (ci := 9) md_X9_attempt mv_X9_attempt ml_X9_203 rfl (kX9_attempt (n := n)) (by decide) ⟨Nat.le_refl 0, Nat.le_refl 0⟩ rfl rfl (Nat.le_of_ble_eq_true rfl) dX9_put_13 h (fun v3 M H locs I h => ?_)
  refine mm_cVi X I hl (As := [.int v3]) (ci := 9) md_X9_spendTape mv_X9_spendTape ml_X9_207 rfl (kX9_spendTape (n := n)) (by decide) ⟨Nat.le_refl 0, Nat.le_refl 0⟩ rfl rfl (Nat.le_of_ble_eq_true rfl) dX9_put_16 h (fun v4 M H locs I h => ?_)
  exact mm_xi X I hr hlk dX9_put_19 h
set_option maxHeartbeats 4000000 in
set_option maxRecDepth 100000 in
theorem kX9_take {l : Launch} {D : va_G} {dA : Nat → ClassId} {lo : Nat} {n : Nat} {M : mm_M} {a0 : Nat} {x1 : Int32} (o : Int32 × mm_M) (h : pX9_take n M a0 x1 = some o) : (∃ fs, M.2 a0 = some (mm_ob 9 fs)) ∧ mm_Met l D dA lo yX9_take cX9_take 2 (some .int) 6 154 0 0 [.ref a0, .int x1] M (some (.int o.1)) o.2 := by
  unfold pX9_take at h
  obtain ⟨hob, h⟩ := mm_v_some h
  refine ⟨hob, mm_enter (by decide) (Nat.le_of_ble_eq_true rfl) (fun p e s m args below meth c ls X hr hlk hnm I hl => ?_)⟩
  have X : mm_C D dA lo cX9_take RX9 2 p s m args c := X
  have hl : lv_has ls 2 [(0, .ref a0), (1, .int x1)] := hl
  refine lv_aload_n X.1 X.2.1 dX9_take_0 rfl (lv_at hl 0 rfl) ?_
  refine mm_rgr X I fl_X9_46 dX9_take_1 h (fun v1 h => ?_)
  refine lv_iconst (v := 2) X.1 X.2.1 dX9_take_4 (by decide) ?_
  refine lv_iload_n X.1 X.2.1 dX9_take_5 rfl (lv_at hl 1 rfl) ?_
  refine lv_ldc (v := (-1000000)) X.1 X.2.1 X.2.2.2.1 (X.2.2.2.2.1 _ cn_X9_210) dX9_take_6 ?_
  refine mm_cVv X I hl (As := [.int 2, .int x1, .int (-1000000)]) (ci := 7) md_X7_tell mv_X7_tell ml_X9_211 rfl (kX7_tell (n := n)) (by decide) ⟨Nat.le_refl 0, Nat.le_refl 0⟩ rfl rfl (Nat.le_of_ble_eq_true rfl) dX9_take_8 h (fun M H locs I h => ?_)
  refine lv_aload_n X.1 X.2.1 dX9_take_11 rfl (lv_at hl 0 rfl) ?_
  refine lv_aload_n X.1 X.2.1 dX9_take_12 rfl (lv_at hl 0 rfl) ?_
  refine mm_rgr X I fl_X9_46 dX9_take_13 h (fun v3 h => ?_)
  refine lv_iconst (v := 1) X.1 X.2.1 dX9_take_16 (by decide) ?_
  refine mm_cVi X I hl (As := [.ref v3, .int 1]) (ci := 9) md_X9_attempt mv_X9_attempt ml_X9_203 rfl (kX9_attempt (n := n)) (by decide) ⟨Nat.le_refl 0, Nat.le_refl 0⟩ rfl rfl (Nat.le_of_ble_eq_true rfl) dX9_take_17 h (fun v4 M H locs I h => ?_)
  exact mm_xi X I hr hlk dX9_take_20 h
set_option maxHeartbeats 4000000 in
set_option maxRecDepth 100000 in
theorem kX9_swap {l : Launch} {D : va_G} {dA : Nat → ClassId} {lo : Nat} {n : Nat} {M : mm_M} {a0 : Nat} {x1 : Int32} {x2 : Int32} (o : Int32 × mm_M) (h : pX9_swap n M a0 x1 x2 = some o) : (∃ fs, M.2 a0 = some (mm_ob 9 fs)) ∧ mm_Met l D dA lo yX9_swap cX9_swap 3 (some .int) 6 154 0 0 [.ref a0, .int x1, .int x2] M (some (.int o.1)) o.2 := by
  unfold pX9_swap at h
  obtain ⟨hob, h⟩ := mm_v_some h
  refine ⟨hob, mm_enter (by decide) (Nat.le_of_ble_eq_true rfl) (fun p e s m args below meth c ls X hr hlk hnm I hl => ?_)⟩
  have X : mm_C D dA lo cX9_swap RX9 3 p s m args c := X
  have hl : lv_has ls 3 [(0, .ref a0), (1, .int x1), (2, .int x2)] := hl
  refine lv_aload_n X.1 X.2.1 dX9_swap_0 rfl (lv_at hl 0 rfl) ?_
  refine mm_rgr X I fl_X9_46 dX9_swap_1 h (fun v1 h => ?_)
  refine lv_iconst (v := 3) X.1 X.2.1 dX9_swap_4 (by decide) ?_
  refine lv_iload_n X.1 X.2.1 dX9_swap_5 rfl (lv_at hl 1 rfl) ?_
  refine lv_iload_n X.1 X.2.1 dX9_swap_6 rfl (lv_at hl 2 rfl) ?_
  refine mm_cVv X I hl (As := [.int 3, .int x1, .int x2]) (ci := 7) md_X7_tell mv_X7_tell ml_X9_211 rfl (kX7_tell (n := n)) (by decide) ⟨Nat.le_refl 0, Nat.le_refl 0⟩ rfl rfl (Nat.le_of_ble_eq_true rfl) dX9_swap_7 h (fun M H locs I h => ?_)
  refine lv_aload_n X.1 X.2.1 dX9_swap_10 rfl (lv_at hl 0 rfl) ?_
  refine lv_aload_n X.1 X.2.1 dX9_swap_11 rfl (lv_at hl 0 rfl) ?_
  refine mm_rgr X I fl_X9_46 dX9_swap_12 h (fun v3 h => ?_)
  refine lv_iconst (v := 1) X.1 X.2.1 dX9_swap_15 (by decide) ?_
  refine mm_cVi X I hl (As := [.ref v3, .int 1]) (ci := 9) md_X9_attempt mv_X9_attempt ml_X9_203 rfl (kX9_attempt (n := n)) (by decide) ⟨Nat.le_refl 0, Nat.le_refl 0⟩ rfl rfl (Nat.le_of_ble_eq_true rfl) dX9_swap_16 h (fun v4 M H locs I h => ?_)
  exact mm_xi X I hr hlk dX9_swap_19 h
set_option maxHeartbeats 4000000 in
set_option maxRecDepth 100000 in
theorem kX9_lay {l : Launch} {D : va_G} {dA : Nat → ClassId} {lo : Nat} {n : Nat} {M : mm_M} {a0 : Nat} {x1 : Int32} {x2 : Int32} (o : Int32 × mm_M) (h : pX9_lay n M a0 x1 x2 = some o) : (∃ fs, M.2 a0 = some (mm_ob 9 fs)) ∧ mm_Met l D dA lo yX9_lay cX9_lay 3 (some .int) 6 154 0 0 [.ref a0, .int x1, .int x2] M (some (.int o.1)) o.2 := by
  unfold pX9_lay at h
  obtain ⟨hob, h⟩ := mm_v_some h
  refine ⟨hob, mm_enter (by decide) (Nat.le_of_ble_eq_true rfl) (fun p e s m args below meth c ls X hr hlk hnm I hl => ?_)⟩
  have X : mm_C D dA lo cX9_lay RX9 3 p s m args c := X
  have hl : lv_has ls 3 [(0, .ref a0), (1, .int x1), (2, .int x2)] := hl
  refine lv_aload_n X.1 X.2.1 dX9_lay_0 rfl (lv_at hl 0 rfl) ?_
  refine mm_rgr X I fl_X9_46 dX9_lay_1 h (fun v1 h => ?_)
  refine lv_iconst (v := 4) X.1 X.2.1 dX9_lay_4 (by decide) ?_
  refine lv_iload_n X.1 X.2.1 dX9_lay_5 rfl (lv_at hl 1 rfl) ?_
  refine lv_iload_n X.1 X.2.1 dX9_lay_6 rfl (lv_at hl 2 rfl) ?_
  refine mm_cVv X I hl (As := [.int 4, .int x1, .int x2]) (ci := 7) md_X7_tell mv_X7_tell ml_X9_211 rfl (kX7_tell (n := n)) (by decide) ⟨Nat.le_refl 0, Nat.le_refl 0⟩ rfl rfl (Nat.le_of_ble_eq_true rfl) dX9_lay_7 h (fun M H locs I h => ?_)
  refine lv_aload_n X.1 X.2.1 dX9_lay_10 rfl (lv_at hl 0 rfl) ?_
  refine mm_rgr X I fl_X9_46 dX9_lay_11 h (fun v3 h => ?_)
  refine mm_rgr X I fl_X9_215 dX9_lay_14 h (fun v4 h => ?_)
  refine lv_aload_n X.1 X.2.1 dX9_lay_17 rfl (lv_at hl 0 rfl) ?_
  refine mm_rgr X I fl_X9_33 dX9_lay_18 h (fun v5 h => ?_)
  refine mm_cVv X I hl (As := [.ref v5]) (ci := 5) md_X5_copyFrom mv_X5_copyFrom ml_X9_123 rfl (kX5_copyFrom (n := n)) (by decide) ⟨Nat.le_refl 0, Nat.le_refl 0⟩ rfl rfl (Nat.le_of_ble_eq_true rfl) dX9_lay_21 h (fun M H locs I h => ?_)
  refine lv_aload_n X.1 X.2.1 dX9_lay_24 rfl (lv_at hl 0 rfl) ?_
  refine lv_aload_n X.1 X.2.1 dX9_lay_25 rfl (lv_at hl 0 rfl) ?_
  refine mm_rgr X I fl_X9_46 dX9_lay_26 h (fun v7 h => ?_)
  refine lv_iconst (v := 1) X.1 X.2.1 dX9_lay_29 (by decide) ?_
  refine mm_cVi X I hl (As := [.ref v7, .int 1]) (ci := 9) md_X9_attempt mv_X9_attempt ml_X9_203 rfl (kX9_attempt (n := n)) (by decide) ⟨Nat.le_refl 0, Nat.le_refl 0⟩ rfl rfl (Nat.le_of_ble_eq_true rfl) dX9_lay_30 h (fun v8 M H locs I h => ?_)
  exact mm_xi X I hr hlk dX9_lay_33 h
set_option maxHeartbeats 4000000 in
set_option maxRecDepth 100000 in
theorem kX9_page {l : Launch} {D : va_G} {dA : Nat → ClassId} {lo : Nat} {n : Nat} {M : mm_M} {a0 : Nat} {x1 : Int32} (o : Int32 × mm_M) (h : pX9_page n M a0 x1 = some o) : (∃ fs, M.2 a0 = some (mm_ob 9 fs)) ∧ mm_Met l D dA lo yX9_page cX9_page 2 (some .int) 6 154 0 0 [.ref a0, .int x1] M (some (.int o.1)) o.2 := by
  unfold pX9_page at h
  obtain ⟨hob, h⟩ := mm_v_some h
  refine ⟨hob, mm_enter (by decide) (Nat.le_of_ble_eq_true rfl) (fun p e s m args below meth c ls X hr hlk hnm I hl => ?_)⟩
  have X : mm_C D dA lo cX9_page RX9 2 p s m args c := X
  have hl : lv_has ls 2 [(0, .ref a0), (1, .int x1)] := hl
  refine lv_aload_n X.1 X.2.1 dX9_page_0 rfl (lv_at hl 0 rfl) ?_
  refine mm_rgr X I fl_X9_46 dX9_page_1 h (fun v1 h => ?_)
  refine lv_iconst (v := 5) X.1 X.2.1 dX9_page_4 (by decide) ?_
  refine lv_iload_n X.1 X.2.1 dX9_page_5 rfl (lv_at hl 1 rfl) ?_
  refine lv_ldc (v := (-1000000)) X.1 X.2.1 X.2.2.2.1 (X.2.2.2.2.1 _ cn_X9_210) dX9_page_6 ?_
  refine mm_cVv X I hl (As := [.int 5, .int x1, .int (-1000000)]) (ci := 7) md_X7_tell mv_X7_tell ml_X9_211 rfl (kX7_tell (n := n)) (by decide) ⟨Nat.le_refl 0, Nat.le_refl 0⟩ rfl rfl (Nat.le_of_ble_eq_true rfl) dX9_page_8 h (fun M H locs I h => ?_)
  refine lv_aload_n X.1 X.2.1 dX9_page_11 rfl (lv_at hl 0 rfl) ?_
  refine lv_aload_n X.1 X.2.1 dX9_page_12 rfl (lv_at hl 0 rfl) ?_
  refine mm_rgr X I fl_X9_46 dX9_page_13 h (fun v3 h => ?_)
  refine lv_iconst (v := 1) X.1 X.2.1 dX9_page_16 (by decide) ?_
  refine mm_cVi X I hl (As := [.ref v3, .int 1]) (ci := 9) md_X9_attempt mv_X9_attempt ml_X9_203 rfl (kX9_attempt (n := n)) (by decide) ⟨Nat.le_refl 0, Nat.le_refl 0⟩ rfl rfl (Nat.le_of_ble_eq_true rfl) dX9_page_17 h (fun v4 M H locs I h => ?_)
  exact mm_xi X I hr hlk dX9_page_20 h
set_option maxHeartbeats 4000000 in
set_option maxRecDepth 100000 in
theorem kX9_rewind {l : Launch} {D : va_G} {dA : Nat → ClassId} {lo : Nat} {n : Nat} {M : mm_M} {a0 : Nat} {x1 : Int32} (o : Int32 × mm_M) (h : pX9_rewind n M a0 x1 = some o) : (∃ fs, M.2 a0 = some (mm_ob 9 fs)) ∧ mm_Met l D dA lo yX9_rewind cX9_rewind 2 (some .int) 6 154 0 0 [.ref a0, .int x1] M (some (.int o.1)) o.2 := by
  unfold pX9_rewind at h
  obtain ⟨hob, h⟩ := mm_v_some h
  refine ⟨hob, mm_enter (by decide) (Nat.le_of_ble_eq_true rfl) (fun p e s m args below meth c ls X hr hlk hnm I hl => ?_)⟩
  have X : mm_C D dA lo cX9_rewind RX9 2 p s m args c := X
  have hl : lv_has ls 2 [(0, .ref a0), (1, .int x1)] := hl
  refine lv_aload_n X.1 X.2.1 dX9_rewind_0 rfl (lv_at hl 0 rfl) ?_
  refine mm_rgr X I fl_X9_46 dX9_rewind_1 h (fun v1 h => ?_)
  refine lv_bipush (v := 6) X.1 X.2.1 dX9_rewind_4 (by decide) ?_
  refine lv_iload_n X.1 X.2.1 dX9_rewind_6 rfl (lv_at hl 1 rfl) ?_
  refine lv_ldc (v := (-1000000)) X.1 X.2.1 X.2.2.2.1 (X.2.2.2.2.1 _ cn_X9_210) dX9_rewind_7 ?_
  refine mm_cVv X I hl (As := [.int 6, .int x1, .int (-1000000)]) (ci := 7) md_X7_tell mv_X7_tell ml_X9_211 rfl (kX7_tell (n := n)) (by decide) ⟨Nat.le_refl 0, Nat.le_refl 0⟩ rfl rfl (Nat.le_of_ble_eq_true rfl) dX9_rewind_9 h (fun M H locs I h => ?_)
  refine lv_aload_n X.1 X.2.1 dX9_rewind_12 rfl (lv_at hl 0 rfl) ?_
  refine lv_aload_n X.1 X.2.1 dX9_rewind_13 rfl (lv_at hl 0 rfl) ?_
  refine mm_rgr X I fl_X9_46 dX9_rewind_14 h (fun v3 h => ?_)
  refine lv_iconst (v := 1) X.1 X.2.1 dX9_rewind_17 (by decide) ?_
  refine mm_cVi X I hl (As := [.ref v3, .int 1]) (ci := 9) md_X9_attempt mv_X9_attempt ml_X9_203 rfl (kX9_attempt (n := n)) (by decide) ⟨Nat.le_refl 0, Nat.le_refl 0⟩ rfl rfl (Nat.le_of_ble_eq_true rfl) dX9_rewind_18 h (fun v4 M H locs I h => ?_)
  exact mm_xi X I hr hlk dX9_rewind_21 h
set_option maxHeartbeats 4000000 in
set_option maxRecDepth 100000 in
theorem kX9_cursor {l : Launch} {D : va_G} {dA : Nat → ClassId} {lo : Nat} {n : Nat} {M : mm_M} {a0 : Nat} {x1 : Int32} {x2 : Int32} (o : Int32 × mm_M) (h : pX9_cursor n M a0 x1 x2 = some o) : (∃ fs, M.2 a0 = some (mm_ob 9 fs)) ∧ mm_Met l D dA lo yX9_cursor cX9_cursor 4 (some .int) 4 100 0 0 [.ref a0, .int x1, .int x2] M (some (.int o.1)) o.2 := by
  unfold pX9_cursor at h
  obtain ⟨hob, h⟩ := mm_v_some h
  refine ⟨hob, mm_enter (by decide) (Nat.le_of_ble_eq_true rfl) (fun p e s m args below meth c ls X hr hlk hnm I hl => ?_)⟩
  have X : mm_C D dA lo cX9_cursor RX9 4 p s m args c := X
  have hl : lv_has ls 4 [(0, .ref a0), (1, .int x1), (2, .int x2)] := hl
  refine lv_aload_n X.1 X.2.1 dX9_cursor_0 rfl (lv_at hl 0 rfl) ?_
  refine mm_rgr X I fl_X9_60 dX9_cursor_1 h (fun v1 h => ?_)
  refine lv_iload_n X.1 X.2.1 dX9_cursor_4 rfl (lv_at hl 1 rfl) ?_
  refine mm_cVi X I hl (As := [.int x1]) (ci := 6) md_X6_hasCursor mv_X6_hasCursor ml_X9_216 rfl (kX6_hasCursor (n := n)) (by decide) ⟨Nat.le_refl 0, Nat.le_refl 0⟩ rfl rfl (Nat.le_of_ble_eq_true rfl) dX9_cursor_5 h (fun v2 M H locs I h => ?_)
  refine mm_jne (tgt := 13) X dX9_cursor_8 (by decide) h (fun h => ?_) (fun h => ?_)
  · refine lv_aload_n X.1 X.2.1 dX9_cursor_13 rfl (lv_at hl 0 rfl) ?_
    refine mm_rgr X I fl_X9_60 dX9_cursor_14 h (fun v3 h => ?_)
    refine mm_rgr X I fl_X9_219 dX9_cursor_17 h (fun v4 h => ?_)
    refine lv_iload_n X.1 X.2.1 dX9_cursor_20 rfl (lv_at hl 1 rfl) ?_
    refine mm_rra X I dX9_cursor_21 h (fun v5 h => ?_)
    refine lv_astore_n (lv' := [(3, .ref v5), (0, .ref a0), (1, .int x1), (2, .int x2)]) X.1 X.2.1 dX9_cursor_22 rfl hl (by decide) rfl (fun ls hl => ?_)
    refine lv_iload_n X.1 X.2.1 dX9_cursor_23 rfl (lv_at hl 3 rfl) ?_
    by_cases z6_0 : x2 = 0
    · have h := mm_t z6_0 h
      refine lv_tableIn (tgt := 64) (off := 40) X.1 X.2.1 dX9_cursor_24 (by rw [z6_0]; decide) (by rw [z6_0]; decide) (by rw [z6_0]; rfl) (by decide) ?_
      refine lv_aload_n X.1 X.2.1 dX9_cursor_64 rfl (lv_at hl 0 rfl) ?_
      refine mm_rgi X I fl_X9_223 dX9_cursor_65 h (fun v7 h => ?_)
      exact mm_xi X I hr hlk dX9_cursor_68 h
    · have h := mm_f z6_0 h
      by_cases z6_1 : x2 = 1
      · have h := mm_t z6_1 h
        refine lv_tableIn (tgt := 69) (off := 45) X.1 X.2.1 dX9_cursor_24 (by rw [z6_1]; decide) (by rw [z6_1]; decide) (by rw [z6_1]; rfl) (by decide) ?_
        refine lv_aload_n X.1 X.2.1 dX9_cursor_69 rfl (lv_at hl 0 rfl) ?_
        refine mm_rgr X I fl_X9_226 dX9_cursor_70 h (fun v8 h => ?_)
        refine mm_rgi X I fl_X9_109 dX9_cursor_73 h (fun v9 h => ?_)
        exact mm_xi X I hr hlk dX9_cursor_76 h
      · have h := mm_f z6_1 h
        by_cases z6_2 : x2 = 2
        · have h := mm_t z6_2 h
          refine lv_tableIn (tgt := 77) (off := 53) X.1 X.2.1 dX9_cursor_24 (by rw [z6_2]; decide) (by rw [z6_2]; decide) (by rw [z6_2]; rfl) (by decide) ?_
          refine lv_aload_n X.1 X.2.1 dX9_cursor_77 rfl (lv_at hl 0 rfl) ?_
          refine mm_rgi X I fl_X9_227 dX9_cursor_78 h (fun v10 h => ?_)
          exact mm_xi X I hr hlk dX9_cursor_81 h
        · have h := mm_f z6_2 h
          by_cases z6_3 : x2 = 3
          · have h := mm_t z6_3 h
            refine lv_tableIn (tgt := 82) (off := 58) X.1 X.2.1 dX9_cursor_24 (by rw [z6_3]; decide) (by rw [z6_3]; decide) (by rw [z6_3]; rfl) (by decide) ?_
            refine lv_aload_n X.1 X.2.1 dX9_cursor_82 rfl (lv_at hl 0 rfl) ?_
            refine mm_rgi X I fl_X9_230 dX9_cursor_83 h (fun v11 h => ?_)
            exact mm_xi X I hr hlk dX9_cursor_86 h
          · have h := mm_f z6_3 h
            by_cases z6_4 : x2 = 4
            · have h := mm_t z6_4 h
              refine lv_tableIn (tgt := 87) (off := 63) X.1 X.2.1 dX9_cursor_24 (by rw [z6_4]; decide) (by rw [z6_4]; decide) (by rw [z6_4]; rfl) (by decide) ?_
              refine lv_aload_n X.1 X.2.1 dX9_cursor_87 rfl (lv_at hl 1 rfl) ?_
              refine mm_rgr X I fl_X9_60 dX9_cursor_88 h (fun v12 h => ?_)
              refine lv_aload_n X.1 X.2.1 dX9_cursor_91 rfl (lv_at hl 0 rfl) ?_
              refine mm_cVi X I hl (As := [.ref v5]) (ci := 6) md_X6_left mv_X6_left ml_X9_233 rfl (kX6_left (n := n)) (by decide) ⟨Nat.le_refl 0, Nat.le_refl 0⟩ rfl rfl (Nat.le_of_ble_eq_true rfl) dX9_cursor_92 h (fun v13 M H locs I h => ?_)
              exact mm_xi X I hr hlk dX9_cursor_95 h
            · have h := mm_f z6_4 h
              by_cases z6_5 : x2 = 5
              · have h := mm_t z6_5 h
                refine lv_tableIn (tgt := 96) (off := 72) X.1 X.2.1 dX9_cursor_24 (by rw [z6_5]; decide) (by rw [z6_5]; decide) (by rw [z6_5]; rfl) (by decide) ?_
                refine lv_aload_n X.1 X.2.1 dX9_cursor_96 rfl (lv_at hl 0 rfl) ?_
                refine mm_rgi X I fl_X9_237 dX9_cursor_97 h (fun v14 h => ?_)
                refine mm_jeq (tgt := 107) X dX9_cursor_100 (by decide) h (fun h => ?_) (fun h => ?_)
                · refine lv_iconst (v := 0) X.1 X.2.1 dX9_cursor_107 (by decide) ?_
                  exact mm_xi X I hr hlk dX9_cursor_108 h
                · refine lv_iconst (v := 1) X.1 X.2.1 dX9_cursor_103 (by decide) ?_
                  refine lv_goto (tgt := 108) X.1 X.2.1 dX9_cursor_104 (by decide) ?_
                  exact mm_xi X I hr hlk dX9_cursor_108 h
              · have h := mm_f z6_5 h
                have z6_q0 : ¬ Int32.toInt x2 = 0 := fun q => z6_0 (Int32.toInt_inj.mp q)
                have z6_q1 : ¬ Int32.toInt x2 = 1 := fun q => z6_1 (Int32.toInt_inj.mp q)
                have z6_q2 : ¬ Int32.toInt x2 = 2 := fun q => z6_2 (Int32.toInt_inj.mp q)
                have z6_q3 : ¬ Int32.toInt x2 = 3 := fun q => z6_3 (Int32.toInt_inj.mp q)
                have z6_q4 : ¬ Int32.toInt x2 = 4 := fun q => z6_4 (Int32.toInt_inj.mp q)
                have z6_q5 : ¬ Int32.toInt x2 = 5 := fun q => z6_5 (Int32.toInt_inj.mp q)
                refine mm_tdef (tgt := 109) X dX9_cursor_24 (by decide) (fun i hi hq => ?_) (by decide) ?_
                · rcases (show i = 0 ∨ i = 1 ∨ i = 2 ∨ i = 3 ∨ i = 4 ∨ i = 5 by simp at hi; omega) with rfl | rfl | rfl | rfl | rfl | rfl
                  · exact absurd hq (by omega)
                  · exact absurd hq (by omega)
                  · exact absurd hq (by omega)
                  · exact absurd hq (by omega)
                  · exact absurd hq (by omega)
                  · exact absurd hq (by omega)
                · refine lv_iconst (v := (-1)) X.1 X.2.1 dX9_cursor_109 (by decide) ?_
                  exact mm_xi X I hr hlk dX9_cursor_110 h
  · refine lv_iconst (v := (-1)) X.1 X.2.1 dX9_cursor_11 (by decide) ?_
    exact mm_xi X I hr hlk dX9_cursor_12 h
set_option maxHeartbeats 4000000 in
set_option maxRecDepth 100000 in
theorem kX9_told {l : Launch} {D : va_G} {dA : Nat → ClassId} {lo : Nat} {n : Nat} {M : mm_M} {a0 : Nat} {x1 : Int32} {x2 : Int32} {x3 : Int32} (o : Int32 × mm_M) (h : pX9_told n M a0 x1 x2 x3 = some o) : (∃ fs, M.2 a0 = some (mm_ob 9 fs)) ∧ mm_Met l D dA lo yX9_told cX9_told 4 (some .int) 1 21 0 0 [.ref a0, .int x1, .int x2, .int x3] M (some (.int o.1)) o.2 := by
  unfold pX9_told at h
  obtain ⟨hob, h⟩ := mm_v_some h
  refine ⟨hob, mm_enter (by decide) (Nat.le_of_ble_eq_true rfl) (fun p e s m args below meth c ls X hr hlk hnm I hl => ?_)⟩
  have X : mm_C D dA lo cX9_told RX9 4 p s m args c := X
  have hl : lv_has ls 4 [(0, .ref a0), (1, .int x1), (2, .int x2), (3, .int x3)] := hl
  refine lv_aload_n X.1 X.2.1 dX9_told_0 rfl (lv_at hl 0 rfl) ?_
  refine mm_rgr X I fl_X9_60 dX9_told_1 h (fun v1 h => ?_)
  refine lv_iload_n X.1 X.2.1 dX9_told_4 rfl (lv_at hl 1 rfl) ?_
  refine mm_cVi X I hl (As := [.int x1]) (ci := 6) md_X6_hasCursor mv_X6_hasCursor ml_X9_216 rfl (kX6_hasCursor (n := n)) (by decide) ⟨Nat.le_refl 0, Nat.le_refl 0⟩ rfl rfl (Nat.le_of_ble_eq_true rfl) dX9_told_5 h (fun v2 M H locs I h => ?_)
  refine mm_jeq (tgt := 31) X dX9_told_8 (by decide) h (fun h => ?_) (fun h => ?_)
  · refine lv_iconst (v := (-1)) X.1 X.2.1 dX9_told_31 (by decide) ?_
    exact mm_xi X I hr hlk dX9_told_32 h
  · refine lv_iload_n X.1 X.2.1 dX9_told_11 rfl (lv_at hl 2 rfl) ?_
    refine mm_jlt (tgt := 31) X dX9_told_12 (by decide) h (fun h => ?_) (fun h => ?_)
    · refine lv_iconst (v := (-1)) X.1 X.2.1 dX9_told_31 (by decide) ?_
      exact mm_xi X I hr hlk dX9_told_32 h
    · refine lv_iload_n X.1 X.2.1 dX9_told_15 rfl (lv_at hl 2 rfl) ?_
      refine lv_aload_n X.1 X.2.1 dX9_told_16 rfl (lv_at hl 0 rfl) ?_
      refine mm_rgr X I fl_X9_60 dX9_told_17 h (fun v3 h => ?_)
      refine mm_rgr X I fl_X9_219 dX9_told_20 h (fun v4 h => ?_)
      refine lv_iload_n X.1 X.2.1 dX9_told_23 rfl (lv_at hl 1 rfl) ?_
      refine mm_rra X I dX9_told_24 h (fun v5 h => ?_)
      refine mm_rgi X I fl_X9_227 dX9_told_25 h (fun v6 h => ?_)
      refine mm_klt (tgt := 33) X dX9_told_28 (by decide) h (fun h => ?_) (fun h => ?_)
      · refine lv_iload_n X.1 X.2.1 dX9_told_33 rfl (lv_at hl 3 rfl) ?_
        by_cases z7_0 : x3 = 0
        · have h := mm_t z7_0 h
          refine lv_lookup (tgt := 60) (off := 26) X.1 X.2.1 dX9_told_34 (by decide) (by rw [z7_0]; rfl) (by decide) ?_
          refine lv_aload_n X.1 X.2.1 dX9_told_60 rfl (lv_at hl 0 rfl) ?_
          refine mm_rgr X I fl_X9_60 dX9_told_61 h (fun v8 h => ?_)
          refine mm_rgr X I fl_X9_219 dX9_told_64 h (fun v9 h => ?_)
          refine lv_iload_n X.1 X.2.1 dX9_told_67 rfl (lv_at hl 1 rfl) ?_
          refine mm_rra X I dX9_told_68 h (fun v10 h => ?_)
          refine mm_rgr X I fl_X9_240 dX9_told_69 h (fun v11 h => ?_)
          refine lv_iload_n X.1 X.2.1 dX9_told_72 rfl (lv_at hl 2 rfl) ?_
          refine mm_ria X I dX9_told_73 h (fun v12 h => ?_)
          exact mm_xi X I hr hlk dX9_told_74 h
        · have h := mm_f z7_0 h
          by_cases z7_1 : x3 = 1
          · have h := mm_t z7_1 h
            refine lv_lookup (tgt := 75) (off := 41) X.1 X.2.1 dX9_told_34 (by decide) (by rw [z7_1]; rfl) (by decide) ?_
            refine lv_aload_n X.1 X.2.1 dX9_told_75 rfl (lv_at hl 0 rfl) ?_
            refine mm_rgr X I fl_X9_60 dX9_told_76 h (fun v13 h => ?_)
            refine mm_rgr X I fl_X9_219 dX9_told_79 h (fun v14 h => ?_)
            refine lv_iload_n X.1 X.2.1 dX9_told_82 rfl (lv_at hl 1 rfl) ?_
            refine mm_rra X I dX9_told_83 h (fun v15 h => ?_)
            refine mm_rgr X I fl_X9_243 dX9_told_84 h (fun v16 h => ?_)
            refine lv_iload_n X.1 X.2.1 dX9_told_87 rfl (lv_at hl 2 rfl) ?_
            refine mm_ria X I dX9_told_88 h (fun v17 h => ?_)
            exact mm_xi X I hr hlk dX9_told_89 h
          · have h := mm_f z7_1 h
            have z7_q0 : ¬ Int32.toInt x3 = 0 := fun q => z7_0 (Int32.toInt_inj.mp q)
            have z7_q1 : ¬ Int32.toInt x3 = 1 := fun q => z7_1 (Int32.toInt_inj.mp q)
            refine lv_lookup (tgt := 90) (off := 56) X.1 X.2.1 dX9_told_34 (by decide) (by simp [Op.lookupswitch.offset, z7_q0, Ne.symm z7_q0, z7_q1, Ne.symm z7_q1]) (by decide) ?_
            refine lv_iconst (v := (-1)) X.1 X.2.1 dX9_told_90 (by decide) ?_
            exact mm_xi X I hr hlk dX9_told_91 h
      · refine lv_iconst (v := (-1)) X.1 X.2.1 dX9_told_31 (by decide) ?_
        exact mm_xi X I hr hlk dX9_told_32 h
set_option maxHeartbeats 4000000 in
set_option maxRecDepth 100000 in
theorem kX9_split {l : Launch} {D : va_G} {dA : Nat → ClassId} {lo : Nat} {n : Nat} {M : mm_M} {a0 : Nat} {x1 : Int32} {x2 : Int32} (o : Int32 × mm_M) (h : pX9_split n M a0 x1 x2 = some o) : (∃ fs, M.2 a0 = some (mm_ob 9 fs)) ∧ mm_Met l D dA lo yX9_split cX9_split 3 (some .int) 6 154 0 0 [.ref a0, .int x1, .int x2] M (some (.int o.1)) o.2 := by
  unfold pX9_split at h
  obtain ⟨hob, h⟩ := mm_v_some h
  refine ⟨hob, mm_enter (by decide) (Nat.le_of_ble_eq_true rfl) (fun p e s m args below meth c ls X hr hlk hnm I hl => ?_)⟩
  have X : mm_C D dA lo cX9_split RX9 3 p s m args c := X
  have hl : lv_has ls 3 [(0, .ref a0), (1, .int x1), (2, .int x2)] := hl
  refine lv_aload_n X.1 X.2.1 dX9_split_0 rfl (lv_at hl 0 rfl) ?_
  refine mm_rgr X I fl_X9_46 dX9_split_1 h (fun v1 h => ?_)
  refine lv_bipush (v := 7) X.1 X.2.1 dX9_split_4 (by decide) ?_
  refine lv_iload_n X.1 X.2.1 dX9_split_6 rfl (lv_at hl 1 rfl) ?_
  refine lv_iload_n X.1 X.2.1 dX9_split_7 rfl (lv_at hl 2 rfl) ?_
  refine mm_cVv X I hl (As := [.int 7, .int x1, .int x2]) (ci := 7) md_X7_tell mv_X7_tell ml_X9_211 rfl (kX7_tell (n := n)) (by decide) ⟨Nat.le_refl 0, Nat.le_refl 0⟩ rfl rfl (Nat.le_of_ble_eq_true rfl) dX9_split_8 h (fun M H locs I h => ?_)
  refine lv_aload_n X.1 X.2.1 dX9_split_11 rfl (lv_at hl 0 rfl) ?_
  refine lv_aload_n X.1 X.2.1 dX9_split_12 rfl (lv_at hl 0 rfl) ?_
  refine mm_rgr X I fl_X9_46 dX9_split_13 h (fun v3 h => ?_)
  refine lv_iconst (v := 1) X.1 X.2.1 dX9_split_16 (by decide) ?_
  refine mm_cVi X I hl (As := [.ref v3, .int 1]) (ci := 9) md_X9_attempt mv_X9_attempt ml_X9_203 rfl (kX9_attempt (n := n)) (by decide) ⟨Nat.le_refl 0, Nat.le_refl 0⟩ rfl rfl (Nat.le_of_ble_eq_true rfl) dX9_split_17 h (fun v4 M H locs I h => ?_)
  exact mm_xi X I hr hlk dX9_split_20 h
set_option maxHeartbeats 4000000 in
set_option maxRecDepth 100000 in
theorem kX9_join {l : Launch} {D : va_G} {dA : Nat → ClassId} {lo : Nat} {n : Nat} {M : mm_M} {a0 : Nat} {x1 : Int32} (o : Int32 × mm_M) (h : pX9_join n M a0 x1 = some o) : (∃ fs, M.2 a0 = some (mm_ob 9 fs)) ∧ mm_Met l D dA lo yX9_join cX9_join 2 (some .int) 6 154 0 0 [.ref a0, .int x1] M (some (.int o.1)) o.2 := by
  unfold pX9_join at h
  obtain ⟨hob, h⟩ := mm_v_some h
  refine ⟨hob, mm_enter (by decide) (Nat.le_of_ble_eq_true rfl) (fun p e s m args below meth c ls X hr hlk hnm I hl => ?_)⟩
  have X : mm_C D dA lo cX9_join RX9 2 p s m args c := X
  have hl : lv_has ls 2 [(0, .ref a0), (1, .int x1)] := hl
  refine lv_aload_n X.1 X.2.1 dX9_join_0 rfl (lv_at hl 0 rfl) ?_
  refine mm_rgr X I fl_X9_46 dX9_join_1 h (fun v1 h => ?_)
  refine lv_bipush (v := 8) X.1 X.2.1 dX9_join_4 (by decide) ?_
  refine lv_iload_n X.1 X.2.1 dX9_join_6 rfl (lv_at hl 1 rfl) ?_
  refine lv_ldc (v := (-1000000)) X.1 X.2.1 X.2.2.2.1 (X.2.2.2.2.1 _ cn_X9_210) dX9_join_7 ?_
  refine mm_cVv X I hl (As := [.int 8, .int x1, .int (-1000000)]) (ci := 7) md_X7_tell mv_X7_tell ml_X9_211 rfl (kX7_tell (n := n)) (by decide) ⟨Nat.le_refl 0, Nat.le_refl 0⟩ rfl rfl (Nat.le_of_ble_eq_true rfl) dX9_join_9 h (fun M H locs I h => ?_)
  refine lv_aload_n X.1 X.2.1 dX9_join_12 rfl (lv_at hl 0 rfl) ?_
  refine lv_aload_n X.1 X.2.1 dX9_join_13 rfl (lv_at hl 0 rfl) ?_
  refine mm_rgr X I fl_X9_46 dX9_join_14 h (fun v3 h => ?_)
  refine lv_iconst (v := 1) X.1 X.2.1 dX9_join_17 (by decide) ?_
  refine mm_cVi X I hl (As := [.ref v3, .int 1]) (ci := 9) md_X9_attempt mv_X9_attempt ml_X9_203 rfl (kX9_attempt (n := n)) (by decide) ⟨Nat.le_refl 0, Nat.le_refl 0⟩ rfl rfl (Nat.le_of_ble_eq_true rfl) dX9_join_18 h (fun v4 M H locs I h => ?_)
  exact mm_xi X I hr hlk dX9_join_21 h
set_option maxHeartbeats 4000000 in
set_option maxRecDepth 100000 in
theorem kX9_draw {l : Launch} {D : va_G} {dA : Nat → ClassId} {lo : Nat} {n : Nat} {M : mm_M} {a0 : Nat} {x1 : Int32} (o : Int32 × mm_M) (h : pX9_draw n M a0 x1 = some o) : (∃ fs, M.2 a0 = some (mm_ob 9 fs)) ∧ mm_Met l D dA lo yX9_draw cX9_draw 2 (some .int) 0 0 0 0 [.ref a0, .int x1] M (some (.int o.1)) o.2 := by
  unfold pX9_draw at h
  obtain ⟨hob, h⟩ := mm_v_some h
  refine ⟨hob, mm_enter (by decide) (Nat.le_of_ble_eq_true rfl) (fun p e s m args below meth c ls X hr hlk hnm I hl => ?_)⟩
  have X : mm_C D dA lo cX9_draw RX9 2 p s m args c := X
  have hl : lv_has ls 2 [(0, .ref a0), (1, .int x1)] := hl
  refine lv_aload_n X.1 X.2.1 dX9_draw_0 rfl (lv_at hl 0 rfl) ?_
  refine lv_aload_n X.1 X.2.1 dX9_draw_1 rfl (lv_at hl 0 rfl) ?_
  refine mm_rgl X I fl_X9_246 dX9_draw_2 h (fun v1 h => ?_)
  refine lv_ldc2 (v := 6364136223846793005) X.1 X.2.1 X.2.2.2.1 (X.2.2.2.2.1 _ cn_X9_266) dX9_draw_5 ?_
  refine lv_lmul X.1 X.2.1 dX9_draw_8 ?_
  refine lv_ldc2 (v := 1442695040888963407) X.1 X.2.1 X.2.2.2.1 (X.2.2.2.2.1 _ cn_X9_268) dX9_draw_9 ?_
  refine lv_ladd X.1 X.2.1 dX9_draw_12 ?_
  refine mm_rpl X I fl_X9_246 dX9_draw_13 h (fun M H locs I h => ?_)
  refine lv_iload_n X.1 X.2.1 dX9_draw_16 rfl (lv_at hl 1 rfl) ?_
  refine lv_iconst (v := 1) X.1 X.2.1 dX9_draw_17 (by decide) ?_
  refine mm_kge (tgt := 25) X dX9_draw_18 (by decide) h (fun h => ?_) (fun h => ?_)
  · refine lv_aload_n X.1 X.2.1 dX9_draw_25 rfl (lv_at hl 0 rfl) ?_
    refine mm_rgl X I fl_X9_246 dX9_draw_26 h (fun v2 h => ?_)
    refine lv_bipush (v := 33) X.1 X.2.1 dX9_draw_29 (by decide) ?_
    refine lv_lushr (v := (mm_lushr v2 33)) X.1 X.2.1 dX9_draw_31 rfl ?_
    refine lv_iload_n X.1 X.2.1 dX9_draw_32 rfl (lv_at hl 1 rfl) ?_
    refine lv_i2l (v := (Int32.toInt64 x1)) X.1 X.2.1 dX9_draw_33 rfl ?_
    refine mm_rlrem X dX9_draw_34 h (fun h => ?_)
    refine lv_l2i (v := (Int64.toInt32 ((mm_lushr v2 33) - (mm_lushr v2 33) / (Int32.toInt64 x1) * (Int32.toInt64 x1)))) X.1 X.2.1 dX9_draw_35 rfl ?_
    exact mm_xi X I hr hlk dX9_draw_36 h
  · refine lv_iconst (v := 0) X.1 X.2.1 dX9_draw_21 (by decide) ?_
    refine lv_goto (tgt := 36) X.1 X.2.1 dX9_draw_22 (by decide) ?_
    exact mm_xi X I hr hlk dX9_draw_36 h
set_option maxHeartbeats 4000000 in
set_option maxRecDepth 100000 in
theorem wpX9_drawSigns_l11 {p : Program} {l : Launch} {e : Env} {s : State} {m : MethodId} {args : Array Value} {below : List Frame} {meth : Method} {c : Code} {D : va_G} {dA : Nat → ClassId} {lo : Nat} (X : mm_C D dA lo cX9_drawSigns RX9 3 p s m args c) (hr : meth.sig.returnType = none) (hlk : meth.locks = false) (n : Nat) {o : mm_M} (k : Nat) : ∀ (M : mm_M) (a0 : Nat) (x1 : Int32) (x2 : Int32) (H : Heap) (locs : List Loc) (ls : Array Slot), mm_I D dA lo s M H locs → lv_has ls 3 [(0, .ref a0), (1, .int x1), (2, .int x2)] → pX9_drawSigns_l11 n k M a0 x1 x2 = some o → W p l e (mm_rm 1 21 0 0) s m args below meth c H locs 0 0 (MQ below (mm_Q D dA lo none o) args s 0 0 (mm_fr lo)) (F0 m 11 ls []) := by
  induction k with
  | zero =>
    intro M a0 x1 x2 H locs ls I hl h
    have h : (none : Option (mm_M)) = some o := h
    cases h
  | succ k ih =>
    intro M a0 x1 x2 H locs ls I hl h
    have h : pX9_drawSigns_l11b n (pX9_drawSigns_l11 n k) M a0 x1 x2 = some o := h
    unfold pX9_drawSigns_l11b at h
    refine lv_iload_n X.1 X.2.1 dX9_drawSigns_11 rfl (lv_at hl 2 rfl) ?_
    refine lv_iload_n X.1 X.2.1 dX9_drawSigns_12 rfl (lv_at hl 1 rfl) ?_
    refine mm_kge (tgt := 44) X dX9_drawSigns_13 (by decide) h (fun h => ?_) (fun h => ?_)
    · exact mm_xv X I hr hlk dX9_drawSigns_44 h
    · refine lv_aload_n X.1 X.2.1 dX9_drawSigns_16 rfl (lv_at hl 0 rfl) ?_
      refine mm_rgr X I fl_X9_46 dX9_drawSigns_17 h (fun v1 h => ?_)
      refine mm_rgr X I fl_X9_215 dX9_drawSigns_20 h (fun v2 h => ?_)
      refine mm_rgs X I fs_X9_259 dX9_drawSigns_23 (fun t3 ht3 => ?_)
      refine lv_aload_n X.1 X.2.1 dX9_drawSigns_26 rfl (lv_at hl 0 rfl) ?_
      refine mm_rgs X I fs_X9_259 dX9_drawSigns_27 (fun t4 ht4 => ?_)
      refine mm_rtl X I ht4 dX9_drawSigns_30 ?_
      refine mm_cVi X I hl (As := [.int 3]) (ci := 9) md_X9_draw mv_X9_draw ml_X9_253 rfl (kX9_draw (n := n)) (by decide) ⟨Nat.le_refl 0, Nat.le_refl 0⟩ rfl rfl (Nat.le_of_ble_eq_true rfl) dX9_drawSigns_31 h (fun v5 M H locs I h => ?_)
      refine mm_rta X I ht3 dX9_drawSigns_34 h (fun v6 h => ?_)
      refine mm_cVv X I hl (As := [.int v6]) (ci := 5) md_X5_add mv_X5_add ml_X9_262 rfl (kX5_add (n := n)) (by decide) ⟨Nat.le_refl 0, Nat.le_refl 0⟩ rfl rfl (Nat.le_of_ble_eq_true rfl) dX9_drawSigns_35 h (fun M H locs I h => ?_)
      refine lv_iinc (v := (x2 + 1)) (lv' := [(2, .int (x2 + 1)), (0, .ref a0), (1, .int x1)]) X.1 X.2.1 dX9_drawSigns_38 hl (k := 2) rfl rfl (by decide) rfl (fun ls hl => ?_)
      refine lv_goto (tgt := 11) X.1 X.2.1 dX9_drawSigns_41 (by decide) ?_
      exact ih M _ _ _ _ _ _ I (lv_sub hl [1, 2, 0] rfl) h
set_option maxHeartbeats 4000000 in
set_option maxRecDepth 100000 in
theorem kX9_drawSigns {l : Launch} {D : va_G} {dA : Nat → ClassId} {lo : Nat} {n : Nat} {M : mm_M} {a0 : Nat} (o : mm_M) (h : pX9_drawSigns n M a0 = some o) : (∃ fs, M.2 a0 = some (mm_ob 9 fs)) ∧ mm_Met l D dA lo yX9_drawSigns cX9_drawSigns 3 none 1 21 0 0 [.ref a0] M none o := by
  unfold pX9_drawSigns at h
  obtain ⟨hob, h⟩ := mm_v_some h
  refine ⟨hob, mm_enter (by decide) (Nat.le_of_ble_eq_true rfl) (fun p e s m args below meth c ls X hr hlk hnm I hl => ?_)⟩
  have X : mm_C D dA lo cX9_drawSigns RX9 3 p s m args c := X
  have hl : lv_has ls 3 [(0, .ref a0)] := hl
  refine lv_aload_n X.1 X.2.1 dX9_drawSigns_0 rfl (lv_at hl 0 rfl) ?_
  refine lv_bipush (v := 6) X.1 X.2.1 dX9_drawSigns_1 (by decide) ?_
  refine mm_cVi X I hl (As := [.int 6]) (ci := 9) md_X9_draw mv_X9_draw ml_X9_253 rfl (kX9_draw (n := n)) (by decide) ⟨Nat.le_refl 0, Nat.le_refl 0⟩ rfl rfl (Nat.le_of_ble_eq_true rfl) dX9_drawSigns_3 h (fun v1 M H locs I h => ?_)
  refine lv_iconst (v := 1) X.1 X.2.1 dX9_drawSigns_6 (by decide) ?_
  refine lv_iadd X.1 X.2.1 dX9_drawSigns_7 ?_
  refine lv_istore_n (lv' := [(1, .int (v1 + 1)), (0, .ref a0)]) X.1 X.2.1 dX9_drawSigns_8 rfl hl (by decide) rfl (fun ls hl => ?_)
  refine lv_iconst (v := 0) X.1 X.2.1 dX9_drawSigns_9 (by decide) ?_
  refine lv_istore_n (lv' := [(2, .int 0), (1, .int (v1 + 1)), (0, .ref a0)]) X.1 X.2.1 dX9_drawSigns_10 rfl hl (by decide) rfl (fun ls hl => ?_)
  exact wpX9_drawSigns_l11 X hr hlk n  n M _ _ _ _ _ _ I (lv_sub hl [2, 1, 0] rfl) h
set_option maxHeartbeats 4000000 in
set_option maxRecDepth 100000 in
theorem wpX9_drawAct_b160 {p : Program} {l : Launch} {e : Env} {s : State} {m : MethodId} {args : Array Value} {below : List Frame} {meth : Method} {c : Code} {D : va_G} {dA : Nat → ClassId} {lo : Nat} (X : mm_C D dA lo cX9_drawAct RX9 3 p s m args c) (hr : meth.sig.returnType = none) (hlk : meth.locks = false) (n : Nat) {o : mm_M}  : ∀ (M : mm_M) (a0 : Nat) (s0 : Int32) (s1 : Nat) (H : Heap) (locs : List Loc) (ls : Array Slot), mm_I D dA lo s M H locs → lv_has ls 3 [(0, .ref a0)] → pX9_drawAct_b160 n M a0 s0 s1 = some o → W p l e (mm_rm 2 43 0 0) s m args below meth c H locs 0 0 (MQ below (mm_Q D dA lo none o) args s 0 0 (mm_fr lo)) (F0 m 160 ls [.int s0, .ref s1]) := by
  intro M a0 s0 s1 H locs ls I hl h
  unfold pX9_drawAct_b160 at h
  refine lv_aload_n X.1 X.2.1 dX9_drawAct_160 rfl (lv_at hl 0 rfl) ?_
  refine lv_iconst (v := 3) X.1 X.2.1 dX9_drawAct_161 (by decide) ?_
  refine mm_cVi X I hl (As := [.int 3]) (ci := 9) md_X9_draw mv_X9_draw ml_X9_253 rfl (kX9_draw (n := n)) (by decide) ⟨Nat.le_refl 0, Nat.le_refl 0⟩ rfl rfl (Nat.le_of_ble_eq_true rfl) dX9_drawAct_162 h (fun v1 M H locs I h => ?_)
  refine lv_ldc (v := (-1000000)) X.1 X.2.1 X.2.2.2.1 (X.2.2.2.2.1 _ cn_X9_210) dX9_drawAct_165 ?_
  refine mm_cVv X I hl (As := [.int s0, .int v1, .int (-1000000)]) (ci := 7) md_X7_tell mv_X7_tell ml_X9_211 rfl (kX7_tell (n := n)) (by decide) ⟨Nat.le_refl 0, Nat.le_refl 0⟩ rfl rfl (Nat.le_of_ble_eq_true rfl) dX9_drawAct_167 h (fun M H locs I h => ?_)
  exact mm_xv X I hr hlk dX9_drawAct_170 h
set_option maxHeartbeats 4000000 in
set_option maxRecDepth 100000 in
theorem kX9_drawAct {l : Launch} {D : va_G} {dA : Nat → ClassId} {lo : Nat} {n : Nat} {M : mm_M} {a0 : Nat} (o : mm_M) (h : pX9_drawAct n M a0 = some o) : (∃ fs, M.2 a0 = some (mm_ob 9 fs)) ∧ mm_Met l D dA lo yX9_drawAct cX9_drawAct 3 none 2 43 0 0 [.ref a0] M none o := by
  unfold pX9_drawAct at h
  obtain ⟨hob, h⟩ := mm_v_some h
  refine ⟨hob, mm_enter (by decide) (Nat.le_of_ble_eq_true rfl) (fun p e s m args below meth c ls X hr hlk hnm I hl => ?_)⟩
  have X : mm_C D dA lo cX9_drawAct RX9 3 p s m args c := X
  have hl : lv_has ls 3 [(0, .ref a0)] := hl
  refine lv_aload_n X.1 X.2.1 dX9_drawAct_0 rfl (lv_at hl 0 rfl) ?_
  refine lv_bipush (v := 8) X.1 X.2.1 dX9_drawAct_1 (by decide) ?_
  refine mm_cVi X I hl (As := [.int 8]) (ci := 9) md_X9_draw mv_X9_draw ml_X9_253 rfl (kX9_draw (n := n)) (by decide) ⟨Nat.le_refl 0, Nat.le_refl 0⟩ rfl rfl (Nat.le_of_ble_eq_true rfl) dX9_drawAct_3 h (fun v1 M H locs I h => ?_)
  refine lv_istore_n (lv' := [(1, .int v1), (0, .ref a0)]) X.1 X.2.1 dX9_drawAct_6 rfl hl (by decide) rfl (fun ls hl => ?_)
  refine lv_iload_n X.1 X.2.1 dX9_drawAct_7 rfl (lv_at hl 0 rfl) ?_
  refine lv_iconst (v := 2) X.1 X.2.1 dX9_drawAct_8 (by decide) ?_
  refine mm_kgt (tgt := 40) X dX9_drawAct_9 (by decide) h (fun h => ?_) (fun h => ?_)
  · refine lv_iload_n X.1 X.2.1 dX9_drawAct_40 rfl (lv_at hl 0 rfl) ?_
    refine lv_iconst (v := 3) X.1 X.2.1 dX9_drawAct_41 (by decide) ?_
    refine mm_kne (tgt := 75) X dX9_drawAct_42 (by decide) h (fun h => ?_) (fun h => ?_)
    · refine lv_iload_n X.1 X.2.1 dX9_drawAct_75 rfl (lv_at hl 0 rfl) ?_
      refine lv_iconst (v := 4) X.1 X.2.1 dX9_drawAct_76 (by decide) ?_
      refine mm_kne (tgt := 104) X dX9_drawAct_77 (by decide) h (fun h => ?_) (fun h => ?_)
      · refine lv_iload_n X.1 X.2.1 dX9_drawAct_104 rfl (lv_at hl 0 rfl) ?_
        refine lv_iconst (v := 5) X.1 X.2.1 dX9_drawAct_105 (by decide) ?_
        refine mm_kne (tgt := 144) X dX9_drawAct_106 (by decide) h (fun h => ?_) (fun h => ?_)
        · refine lv_aload_n X.1 X.2.1 dX9_drawAct_144 rfl (lv_at hl 1 rfl) ?_
          refine mm_rgr X I fl_X9_46 dX9_drawAct_145 h (fun v2 h => ?_)
          refine lv_iload_n X.1 X.2.1 dX9_drawAct_148 rfl (lv_at hl 0 rfl) ?_
          refine lv_bipush (v := 6) X.1 X.2.1 dX9_drawAct_149 (by decide) ?_
          refine mm_kne (tgt := 158) X dX9_drawAct_151 (by decide) h (fun h => ?_) (fun h => ?_)
          · refine lv_bipush (v := 6) X.1 X.2.1 dX9_drawAct_158 (by decide) ?_
            exact wpX9_drawAct_b160 X hr hlk n  M _ _ _ _ _ _ I (lv_sub hl [1] rfl) h
          · refine lv_iconst (v := 5) X.1 X.2.1 dX9_drawAct_154 (by decide) ?_
            refine lv_goto (tgt := 160) X.1 X.2.1 dX9_drawAct_155 (by decide) ?_
            exact wpX9_drawAct_b160 X hr hlk n  M _ _ _ _ _ _ I (lv_sub hl [1] rfl) h
        · refine lv_aload_n X.1 X.2.1 dX9_drawAct_109 rfl (lv_at hl 1 rfl) ?_
          refine lv_aload_n X.1 X.2.1 dX9_drawAct_110 rfl (lv_at hl 1 rfl) ?_
          refine mm_rgr X I fl_X9_60 dX9_drawAct_111 h (fun v3 h => ?_)
          refine mm_rgi X I fl_X9_120 dX9_drawAct_114 h (fun v4 h => ?_)
          refine mm_cVi X I hl (As := [.int v4]) (ci := 9) md_X9_draw mv_X9_draw ml_X9_253 rfl (kX9_draw (n := n)) (by decide) ⟨Nat.le_refl 0, Nat.le_refl 0⟩ rfl rfl (Nat.le_of_ble_eq_true rfl) dX9_drawAct_117 h (fun v5 M H locs I h => ?_)
          refine lv_istore_n (lv' := [(2, .int v5), (1, .int v1), (0, .ref a0)]) X.1 X.2.1 dX9_drawAct_120 rfl hl (by decide) rfl (fun ls hl => ?_)
          refine lv_aload_n X.1 X.2.1 dX9_drawAct_121 rfl (lv_at hl 2 rfl) ?_
          refine mm_rgr X I fl_X9_46 dX9_drawAct_122 h (fun v6 h => ?_)
          refine lv_iconst (v := 3) X.1 X.2.1 dX9_drawAct_125 (by decide) ?_
          refine lv_iload_n X.1 X.2.1 dX9_drawAct_126 rfl (lv_at hl 0 rfl) ?_
          refine lv_aload_n X.1 X.2.1 dX9_drawAct_127 rfl (lv_at hl 2 rfl) ?_
          refine lv_aload_n X.1 X.2.1 dX9_drawAct_128 rfl (lv_at hl 2 rfl) ?_
          refine mm_rgr X I fl_X9_60 dX9_drawAct_129 h (fun v7 h => ?_)
          refine mm_rgi X I fl_X9_120 dX9_drawAct_132 h (fun v8 h => ?_)
          refine mm_cVi X I hl (As := [.int v8]) (ci := 9) md_X9_draw mv_X9_draw ml_X9_253 rfl (kX9_draw (n := n)) (by decide) ⟨Nat.le_refl 0, Nat.le_refl 0⟩ rfl rfl (Nat.le_of_ble_eq_true rfl) dX9_drawAct_135 h (fun v9 M H locs I h => ?_)
          refine mm_cVv X I hl (As := [.int 3, .int v5, .int v9]) (ci := 7) md_X7_tell mv_X7_tell ml_X9_211 rfl (kX7_tell (n := n)) (by decide) ⟨Nat.le_refl 0, Nat.le_refl 0⟩ rfl rfl (Nat.le_of_ble_eq_true rfl) dX9_drawAct_138 h (fun M H locs I h => ?_)
          refine lv_goto (tgt := 170) X.1 X.2.1 dX9_drawAct_141 (by decide) ?_
          exact mm_xv X I hr hlk dX9_drawAct_170 h
      · refine lv_aload_n X.1 X.2.1 dX9_drawAct_80 rfl (lv_at hl 1 rfl) ?_
        refine mm_rgr X I fl_X9_46 dX9_drawAct_81 h (fun v11 h => ?_)
        refine lv_iconst (v := 2) X.1 X.2.1 dX9_drawAct_84 (by decide) ?_
        refine lv_aload_n X.1 X.2.1 dX9_drawAct_85 rfl (lv_at hl 1 rfl) ?_
        refine lv_aload_n X.1 X.2.1 dX9_drawAct_86 rfl (lv_at hl 1 rfl) ?_
        refine mm_rgr X I fl_X9_60 dX9_drawAct_87 h (fun v12 h => ?_)
        refine mm_rgi X I fl_X9_120 dX9_drawAct_90 h (fun v13 h => ?_)
        refine mm_cVi X I hl (As := [.int v13]) (ci := 9) md_X9_draw mv_X9_draw ml_X9_253 rfl (kX9_draw (n := n)) (by decide) ⟨Nat.le_refl 0, Nat.le_refl 0⟩ rfl rfl (Nat.le_of_ble_eq_true rfl) dX9_drawAct_93 h (fun v14 M H locs I h => ?_)
        refine lv_ldc (v := (-1000000)) X.1 X.2.1 X.2.2.2.1 (X.2.2.2.2.1 _ cn_X9_210) dX9_drawAct_96 ?_
        refine mm_cVv X I hl (As := [.int 2, .int v14, .int (-1000000)]) (ci := 7) md_X7_tell mv_X7_tell ml_X9_211 rfl (kX7_tell (n := n)) (by decide) ⟨Nat.le_refl 0, Nat.le_refl 0⟩ rfl rfl (Nat.le_of_ble_eq_true rfl) dX9_drawAct_98 h (fun M H locs I h => ?_)
        refine lv_goto (tgt := 170) X.1 X.2.1 dX9_drawAct_101 (by decide) ?_
        exact mm_xv X I hr hlk dX9_drawAct_170 h
    · refine lv_aload_n X.1 X.2.1 dX9_drawAct_45 rfl (lv_at hl 1 rfl) ?_
      refine mm_rgr X I fl_X9_46 dX9_drawAct_46 h (fun v16 h => ?_)
      refine lv_iconst (v := 1) X.1 X.2.1 dX9_drawAct_49 (by decide) ?_
      refine lv_aload_n X.1 X.2.1 dX9_drawAct_50 rfl (lv_at hl 1 rfl) ?_
      refine lv_aload_n X.1 X.2.1 dX9_drawAct_51 rfl (lv_at hl 1 rfl) ?_
      refine mm_rgr X I fl_X9_60 dX9_drawAct_52 h (fun v17 h => ?_)
      refine mm_rgi X I fl_X9_120 dX9_drawAct_55 h (fun v18 h => ?_)
      refine lv_iconst (v := 1) X.1 X.2.1 dX9_drawAct_58 (by decide) ?_
      refine lv_iadd X.1 X.2.1 dX9_drawAct_59 ?_
      refine mm_cVi X I hl (As := [.int (v18 + 1)]) (ci := 9) md_X9_draw mv_X9_draw ml_X9_253 rfl (kX9_draw (n := n)) (by decide) ⟨Nat.le_refl 0, Nat.le_refl 0⟩ rfl rfl (Nat.le_of_ble_eq_true rfl) dX9_drawAct_60 h (fun v19 M H locs I h => ?_)
      refine lv_ldc (v := (-1000000)) X.1 X.2.1 X.2.2.2.1 (X.2.2.2.2.1 _ cn_X9_210) dX9_drawAct_63 ?_
      refine mm_cVv X I hl (As := [.int 1, .int v19, .int (-1000000)]) (ci := 7) md_X7_tell mv_X7_tell ml_X9_211 rfl (kX7_tell (n := n)) (by decide) ⟨Nat.le_refl 0, Nat.le_refl 0⟩ rfl rfl (Nat.le_of_ble_eq_true rfl) dX9_drawAct_65 h (fun M H locs I h => ?_)
      refine lv_aload_n X.1 X.2.1 dX9_drawAct_68 rfl (lv_at hl 1 rfl) ?_
      refine mm_cVv X I hl (As := []) (ci := 9) md_X9_drawSigns mv_X9_drawSigns ml_X9_256 rfl (kX9_drawSigns (n := n)) (by decide) ⟨Nat.le_refl 0, Nat.le_refl 0⟩ rfl rfl (Nat.le_of_ble_eq_true rfl) dX9_drawAct_69 h (fun M H locs I h => ?_)
      refine lv_goto (tgt := 170) X.1 X.2.1 dX9_drawAct_72 (by decide) ?_
      exact mm_xv X I hr hlk dX9_drawAct_170 h
  · refine lv_aload_n X.1 X.2.1 dX9_drawAct_12 rfl (lv_at hl 1 rfl) ?_
    refine mm_rgr X I fl_X9_46 dX9_drawAct_13 h (fun v22 h => ?_)
    refine lv_iconst (v := 0) X.1 X.2.1 dX9_drawAct_16 (by decide) ?_
    refine lv_aload_n X.1 X.2.1 dX9_drawAct_17 rfl (lv_at hl 1 rfl) ?_
    refine lv_aload_n X.1 X.2.1 dX9_drawAct_18 rfl (lv_at hl 1 rfl) ?_
    refine mm_rgr X I fl_X9_60 dX9_drawAct_19 h (fun v23 h => ?_)
    refine mm_rgi X I fl_X9_120 dX9_drawAct_22 h (fun v24 h => ?_)
    refine mm_cVi X I hl (As := [.int v24]) (ci := 9) md_X9_draw mv_X9_draw ml_X9_253 rfl (kX9_draw (n := n)) (by decide) ⟨Nat.le_refl 0, Nat.le_refl 0⟩ rfl rfl (Nat.le_of_ble_eq_true rfl) dX9_drawAct_25 h (fun v25 M H locs I h => ?_)
    refine lv_ldc (v := (-1000000)) X.1 X.2.1 X.2.2.2.1 (X.2.2.2.2.1 _ cn_X9_210) dX9_drawAct_28 ?_
    refine mm_cVv X I hl (As := [.int 0, .int v25, .int (-1000000)]) (ci := 7) md_X7_tell mv_X7_tell ml_X9_211 rfl (kX7_tell (n := n)) (by decide) ⟨Nat.le_refl 0, Nat.le_refl 0⟩ rfl rfl (Nat.le_of_ble_eq_true rfl) dX9_drawAct_30 h (fun M H locs I h => ?_)
    refine lv_aload_n X.1 X.2.1 dX9_drawAct_33 rfl (lv_at hl 1 rfl) ?_
    refine mm_cVv X I hl (As := []) (ci := 9) md_X9_drawSigns mv_X9_drawSigns ml_X9_256 rfl (kX9_drawSigns (n := n)) (by decide) ⟨Nat.le_refl 0, Nat.le_refl 0⟩ rfl rfl (Nat.le_of_ble_eq_true rfl) dX9_drawAct_34 h (fun M H locs I h => ?_)
    refine lv_goto (tgt := 170) X.1 X.2.1 dX9_drawAct_37 (by decide) ?_
    exact mm_xv X I hr hlk dX9_drawAct_170 h
set_option maxHeartbeats 4000000 in
set_option maxRecDepth 100000 in
theorem wpX9_ways_l31 {p : Program} {l : Launch} {e : Env} {s : State} {m : MethodId} {args : Array Value} {below : List Frame} {meth : Method} {c : Code} {D : va_G} {dA : Nat → ClassId} {lo : Nat} (X : mm_C D dA lo cX9_ways RX9 5 p s m args c) (hr : meth.sig.returnType = (some .int)) (hlk : meth.locks = false) (n : Nat) {o : Int32 × mm_M} (k : Nat) : ∀ (M : mm_M) (a0 : Nat) (x1 : Int32) (x4 : Int32) (H : Heap) (locs : List Loc) (ls : Array Slot), mm_I D dA lo s M H locs → lv_has ls 5 [(0, .ref a0), (1, .int x1), (4, .int x4)] → pX9_ways_l31 n k M a0 x1 x4 = some o → W p l e (mm_rm 6 154 0 0) s m args below meth c H locs 0 0 (MQ below (mm_Q D dA lo (some (.int o.1)) o.2) args s 0 0 (mm_fr lo)) (F0 m 31 ls []) := by
  induction k with
  | zero =>
    intro M a0 x1 x4 H locs ls I hl h
    have h : (none : Option (Int32 × mm_M)) = some o := h
    cases h
  | succ k ih =>
    intro M a0 x1 x4 H locs ls I hl h
    have h : pX9_ways_l31b n (pX9_ways_l31 n k) M a0 x1 x4 = some o := h
    unfold pX9_ways_l31b at h
    refine lv_iload X.1 X.2.1 dX9_ways_31 (lv_at hl 2 rfl) ?_
    refine lv_iload_n X.1 X.2.1 dX9_ways_33 rfl (lv_at hl 1 rfl) ?_
    refine mm_kge (tgt := 57) X dX9_ways_34 (by decide) h (fun h => ?_) (fun h => ?_)
    · refine lv_aload_n X.1 X.2.1 dX9_ways_57 rfl (lv_at hl 0 rfl) ?_
      refine mm_rgr X I fl_X9_60 dX9_ways_58 h (fun v1 h => ?_)
      refine mm_cVi X I hl (As := []) (ci := 6) md_X6_allSigns mv_X6_allSigns ml_X9_131 rfl (kX6_allSigns (n := n)) (by decide) ⟨Nat.le_refl 0, Nat.le_refl 0⟩ rfl rfl (Nat.le_of_ble_eq_true rfl) dX9_ways_61 h (fun v2 M H locs I h => ?_)
      exact mm_xi X I hr hlk dX9_ways_64 h
    · refine lv_aload_n X.1 X.2.1 dX9_ways_37 rfl (lv_at hl 0 rfl) ?_
      refine mm_cVv X I hl (As := []) (ci := 9) md_X9_drawAct mv_X9_drawAct ml_X9_250 rfl (kX9_drawAct (n := n)) (by decide) ⟨Nat.le_refl 0, Nat.le_refl 0⟩ rfl rfl (Nat.le_of_ble_eq_true rfl) dX9_ways_38 h (fun M H locs I h => ?_)
      refine lv_aload_n X.1 X.2.1 dX9_ways_41 rfl (lv_at hl 0 rfl) ?_
      refine lv_aload_n X.1 X.2.1 dX9_ways_42 rfl (lv_at hl 0 rfl) ?_
      refine mm_rgr X I fl_X9_46 dX9_ways_43 h (fun v4 h => ?_)
      refine lv_iconst (v := 0) X.1 X.2.1 dX9_ways_46 (by decide) ?_
      refine mm_cVi X I hl (As := [.ref v4, .int 0]) (ci := 9) md_X9_attempt mv_X9_attempt ml_X9_203 rfl (kX9_attempt (n := n)) (by decide) ⟨Nat.le_refl 0, Nat.le_refl 0⟩ rfl rfl (Nat.le_of_ble_eq_true rfl) dX9_ways_47 h (fun v5 M H locs I h => ?_)
      refine lv_pop X.1 X.2.1 dX9_ways_50 rfl ?_
      refine lv_iinc (v := (x4 + 1)) (lv' := [(4, .int (x4 + 1)), (0, .ref a0), (1, .int x1)]) X.1 X.2.1 dX9_ways_51 hl (k := 2) rfl rfl (by decide) rfl (fun ls hl => ?_)
      refine lv_goto (tgt := 31) X.1 X.2.1 dX9_ways_54 (by decide) ?_
      exact ih M _ _ _ _ _ _ I (lv_sub hl [1, 2, 0] rfl) h
set_option maxHeartbeats 4000000 in
set_option maxRecDepth 100000 in
theorem kX9_ways {l : Launch} {D : va_G} {dA : Nat → ClassId} {lo : Nat} {n : Nat} {M : mm_M} {a0 : Nat} {x1 : Int32} {l2 : Int64} (o : Int32 × mm_M) (h : pX9_ways n M a0 x1 l2 = some o) : (∃ fs, M.2 a0 = some (mm_ob 9 fs)) ∧ mm_Met l D dA lo yX9_ways cX9_ways 5 (some .int) 6 154 0 0 [.ref a0, .int x1, .long l2] M (some (.int o.1)) o.2 := by
  unfold pX9_ways at h
  obtain ⟨hob, h⟩ := mm_v_some h
  refine ⟨hob, mm_enter (by decide) (Nat.le_of_ble_eq_true rfl) (fun p e s m args below meth c ls X hr hlk hnm I hl => ?_)⟩
  have X : mm_C D dA lo cX9_ways RX9 5 p s m args c := X
  have hl : lv_has ls 5 [(0, .ref a0), (1, .int x1), (2, .long l2)] := hl
  refine lv_aload_n X.1 X.2.1 dX9_ways_0 rfl (lv_at hl 0 rfl) ?_
  refine mm_rgr X I fl_X9_60 dX9_ways_1 h (fun v1 h => ?_)
  refine mm_rgi X I fl_X9_120 dX9_ways_4 h (fun v2 h => ?_)
  refine mm_jeq (tgt := 21) X dX9_ways_7 (by decide) h (fun h => ?_) (fun h => ?_)
  · refine lv_iconst (v := (-1)) X.1 X.2.1 dX9_ways_21 (by decide) ?_
    exact mm_xi X I hr hlk dX9_ways_22 h
  · refine lv_iload_n X.1 X.2.1 dX9_ways_10 rfl (lv_at hl 1 rfl) ?_
    refine lv_iconst (v := 1) X.1 X.2.1 dX9_ways_11 (by decide) ?_
    refine mm_klt (tgt := 21) X dX9_ways_12 (by decide) h (fun h => ?_) (fun h => ?_)
    · refine lv_iconst (v := (-1)) X.1 X.2.1 dX9_ways_21 (by decide) ?_
      exact mm_xi X I hr hlk dX9_ways_22 h
    · refine lv_iload_n X.1 X.2.1 dX9_ways_15 rfl (lv_at hl 1 rfl) ?_
      refine lv_bipush (v := 40) X.1 X.2.1 dX9_ways_16 (by decide) ?_
      refine mm_kle (tgt := 23) X dX9_ways_18 (by decide) h (fun h => ?_) (fun h => ?_)
      · refine lv_aload_n X.1 X.2.1 dX9_ways_23 rfl (lv_at hl 0 rfl) ?_
        refine lv_lload_n X.1 X.2.1 dX9_ways_24 rfl (lv_at hl 2 rfl) ?_
        refine mm_rpl X I fl_X9_246 dX9_ways_25 h (fun M H locs I h => ?_)
        refine lv_iconst (v := 0) X.1 X.2.1 dX9_ways_28 (by decide) ?_
        refine lv_istore (lv' := [(4, .int 0), (0, .ref a0), (1, .int x1), (2, .long l2)]) X.1 X.2.1 dX9_ways_29 hl (by decide) rfl (fun ls hl => ?_)
        exact wpX9_ways_l31 X hr hlk n  n M _ _ _ _ _ _ I (lv_sub hl [1, 2, 0] rfl) h
      · refine lv_iconst (v := (-1)) X.1 X.2.1 dX9_ways_21 (by decide) ?_
        exact mm_xi X I hr hlk dX9_ways_22 h
set_option maxHeartbeats 4000000 in
set_option maxRecDepth 100000 in
theorem kX9_status {l : Launch} {D : va_G} {dA : Nat → ClassId} {lo : Nat} {n : Nat} {M : mm_M} {a0 : Nat} {x1 : Int32} (o : Int32 × mm_M) (h : pX9_status n M a0 x1 = some o) : (∃ fs, M.2 a0 = some (mm_ob 9 fs)) ∧ mm_Met l D dA lo yX9_status cX9_status 2 (some .int) 0 0 0 0 [.ref a0, .int x1] M (some (.int o.1)) o.2 := by
  unfold pX9_status at h
  obtain ⟨hob, h⟩ := mm_v_some h
  refine ⟨hob, mm_enter (by decide) (Nat.le_of_ble_eq_true rfl) (fun p e s m args below meth c ls X hr hlk hnm I hl => ?_)⟩
  have X : mm_C D dA lo cX9_status RX9 2 p s m args c := X
  have hl : lv_has ls 2 [(0, .ref a0), (1, .int x1)] := hl
  refine lv_iload_n X.1 X.2.1 dX9_status_0 rfl (lv_at hl 1 rfl) ?_
  refine mm_jlt (tgt := 13) X dX9_status_1 (by decide) h (fun h => ?_) (fun h => ?_)
  · refine lv_iconst (v := (-1)) X.1 X.2.1 dX9_status_13 (by decide) ?_
    refine lv_goto (tgt := 23) X.1 X.2.1 dX9_status_14 (by decide) ?_
    exact mm_xi X I hr hlk dX9_status_23 h
  · refine lv_iload_n X.1 X.2.1 dX9_status_4 rfl (lv_at hl 1 rfl) ?_
    refine lv_aload_n X.1 X.2.1 dX9_status_5 rfl (lv_at hl 0 rfl) ?_
    refine mm_rgr X I fl_X9_56 dX9_status_6 h (fun v1 h => ?_)
    refine mm_rlen X I dX9_status_9 h (fun v2 h => ?_)
    refine mm_klt (tgt := 17) X dX9_status_10 (by decide) h (fun h => ?_) (fun h => ?_)
    · refine lv_aload_n X.1 X.2.1 dX9_status_17 rfl (lv_at hl 0 rfl) ?_
      refine mm_rgr X I fl_X9_56 dX9_status_18 h (fun v3 h => ?_)
      refine lv_iload_n X.1 X.2.1 dX9_status_21 rfl (lv_at hl 1 rfl) ?_
      refine mm_ria X I dX9_status_22 h (fun v4 h => ?_)
      exact mm_xi X I hr hlk dX9_status_23 h
    · refine lv_iconst (v := (-1)) X.1 X.2.1 dX9_status_13 (by decide) ?_
      refine lv_goto (tgt := 23) X.1 X.2.1 dX9_status_14 (by decide) ?_
      exact mm_xi X I hr hlk dX9_status_23 h
set_option maxHeartbeats 4000000 in
set_option maxRecDepth 100000 in
theorem wpX9_undo_b28 {p : Program} {l : Launch} {e : Env} {s : State} {m : MethodId} {args : Array Value} {below : List Frame} {meth : Method} {c : Code} {D : va_G} {dA : Nat → ClassId} {lo : Nat} (X : mm_C D dA lo cX9_undo RX9 1 p s m args c) (hr : meth.sig.returnType = (some .int)) (hlk : meth.locks = false) (n : Nat) {o : Int32 × mm_M}  : ∀ (M : mm_M) (a0 : Nat) (s0 : Int32) (s1 : Nat) (H : Heap) (locs : List Loc) (ls : Array Slot), mm_I D dA lo s M H locs → lv_has ls 1 [(0, .ref a0)] → pX9_undo_b28 n M a0 s0 s1 = some o → W p l e (mm_rm 5 125 0 0) s m args below meth c H locs 0 0 (MQ below (mm_Q D dA lo (some (.int o.1)) o.2) args s 0 0 (mm_fr lo)) (F0 m 28 ls [.int s0, .ref s1]) := by
  intro M a0 s0 s1 H locs ls I hl h
  unfold pX9_undo_b28 at h
  refine mm_rpi X I fl_X9_270 dX9_undo_28 h (fun M H locs I h => ?_)
  refine lv_aload_n X.1 X.2.1 dX9_undo_31 rfl (lv_at hl 0 rfl) ?_
  refine mm_rgr X I fl_X9_60 dX9_undo_32 h (fun v1 h => ?_)
  refine lv_aload_n X.1 X.2.1 dX9_undo_35 rfl (lv_at hl 0 rfl) ?_
  refine mm_rgr X I fl_X9_26 dX9_undo_36 h (fun v2 h => ?_)
  refine lv_aload_n X.1 X.2.1 dX9_undo_39 rfl (lv_at hl 0 rfl) ?_
  refine mm_rgi X I fl_X9_270 dX9_undo_40 h (fun v3 h => ?_)
  refine mm_rra X I dX9_undo_43 h (fun v4 h => ?_)
  refine mm_cVv X I hl (As := [.ref v4]) (ci := 6) md_X6_copyFrom mv_X6_copyFrom ml_X9_106 rfl (kX6_copyFrom (n := n)) (by decide) ⟨Nat.le_refl 0, Nat.le_refl 0⟩ rfl rfl (Nat.le_of_ble_eq_true rfl) dX9_undo_44 h (fun M H locs I h => ?_)
  refine lv_aload_n X.1 X.2.1 dX9_undo_47 rfl (lv_at hl 0 rfl) ?_
  refine lv_dup X.1 X.2.1 dX9_undo_48 rfl ?_
  refine mm_rgi X I fl_X9_110 dX9_undo_49 h (fun v6 h => ?_)
  refine lv_iconst (v := 1) X.1 X.2.1 dX9_undo_52 (by decide) ?_
  refine lv_isub X.1 X.2.1 dX9_undo_53 ?_
  refine mm_rpi X I fl_X9_110 dX9_undo_54 h (fun M H locs I h => ?_)
  refine lv_aload_n X.1 X.2.1 dX9_undo_57 rfl (lv_at hl 0 rfl) ?_
  refine mm_cVv X I hl (As := []) (ci := 9) md_X9_forgetRankings mv_X9_forgetRankings ml_X9_117 rfl (kX9_forgetRankings (n := n)) (by decide) ⟨Nat.le_refl 0, Nat.le_refl 0⟩ rfl rfl (Nat.le_of_ble_eq_true rfl) dX9_undo_58 h (fun M H locs I h => ?_)
  refine lv_aload_n X.1 X.2.1 dX9_undo_61 rfl (lv_at hl 0 rfl) ?_
  refine mm_rgi X I fl_X9_110 dX9_undo_62 h (fun v8 h => ?_)
  exact mm_xi X I hr hlk dX9_undo_65 h
set_option maxHeartbeats 4000000 in
set_option maxRecDepth 100000 in
theorem kX9_undo {l : Launch} {D : va_G} {dA : Nat → ClassId} {lo : Nat} {n : Nat} {M : mm_M} {a0 : Nat} (o : Int32 × mm_M) (h : pX9_undo n M a0 = some o) : (∃ fs, M.2 a0 = some (mm_ob 9 fs)) ∧ mm_Met l D dA lo yX9_undo cX9_undo 1 (some .int) 5 125 0 0 [.ref a0] M (some (.int o.1)) o.2 := by
  unfold pX9_undo at h
  obtain ⟨hob, h⟩ := mm_v_some h
  refine ⟨hob, mm_enter (by decide) (Nat.le_of_ble_eq_true rfl) (fun p e s m args below meth c ls X hr hlk hnm I hl => ?_)⟩
  have X : mm_C D dA lo cX9_undo RX9 1 p s m args c := X
  have hl : lv_has ls 1 [(0, .ref a0)] := hl
  refine lv_aload_n X.1 X.2.1 dX9_undo_0 rfl (lv_at hl 0 rfl) ?_
  refine mm_rgi X I fl_X9_110 dX9_undo_1 h (fun v1 h => ?_)
  refine mm_jne (tgt := 9) X dX9_undo_4 (by decide) h (fun h => ?_) (fun h => ?_)
  · refine lv_aload_n X.1 X.2.1 dX9_undo_9 rfl (lv_at hl 0 rfl) ?_
    refine lv_aload_n X.1 X.2.1 dX9_undo_10 rfl (lv_at hl 0 rfl) ?_
    refine mm_rgi X I fl_X9_270 dX9_undo_11 h (fun v2 h => ?_)
    refine mm_jne (tgt := 22) X dX9_undo_14 (by decide) h (fun h => ?_) (fun h => ?_)
    · refine lv_aload_n X.1 X.2.1 dX9_undo_22 rfl (lv_at hl 0 rfl) ?_
      refine mm_rgi X I fl_X9_270 dX9_undo_23 h (fun v3 h => ?_)
      refine lv_iconst (v := 1) X.1 X.2.1 dX9_undo_26 (by decide) ?_
      refine lv_isub X.1 X.2.1 dX9_undo_27 ?_
      exact wpX9_undo_b28 X hr hlk n  M _ _ _ _ _ _ I (lv_sub hl [0] rfl) h
    · refine lv_bipush (v := 39) X.1 X.2.1 dX9_undo_17 (by decide) ?_
      refine lv_goto (tgt := 28) X.1 X.2.1 dX9_undo_19 (by decide) ?_
      exact wpX9_undo_b28 X hr hlk n  M _ _ _ _ _ _ I (lv_sub hl [0] rfl) h
  · refine lv_iconst (v := (-1)) X.1 X.2.1 dX9_undo_7 (by decide) ?_
    exact mm_xi X I hr hlk dX9_undo_8 h
set_option maxHeartbeats 4000000 in
set_option maxRecDepth 100000 in
theorem kX9_log {l : Launch} {D : va_G} {dA : Nat → ClassId} {lo : Nat} {n : Nat} {M : mm_M} {a0 : Nat} {x1 : Int32} {x2 : Int32} (o : Int32 × mm_M) (h : pX9_log n M a0 x1 x2 = some o) : (∃ fs, M.2 a0 = some (mm_ob 9 fs)) ∧ mm_Met l D dA lo yX9_log cX9_log 3 (some .int) 3 73 0 0 [.ref a0, .int x1, .int x2] M (some (.int o.1)) o.2 := by
  unfold pX9_log at h
  obtain ⟨hob, h⟩ := mm_v_some h
  refine ⟨hob, mm_enter (by decide) (Nat.le_of_ble_eq_true rfl) (fun p e s m args below meth c ls X hr hlk hnm I hl => ?_)⟩
  have X : mm_C D dA lo cX9_log RX9 3 p s m args c := X
  have hl : lv_has ls 3 [(0, .ref a0), (1, .int x1), (2, .int x2)] := hl
  refine lv_aload_n X.1 X.2.1 dX9_log_0 rfl (lv_at hl 0 rfl) ?_
  refine mm_rgr X I fl_X9_60 dX9_log_1 h (fun v1 h => ?_)
  refine mm_rgr X I fl_X9_273 dX9_log_4 h (fun v2 h => ?_)
  refine lv_iload_n X.1 X.2.1 dX9_log_7 rfl (lv_at hl 1 rfl) ?_
  refine lv_iload_n X.1 X.2.1 dX9_log_8 rfl (lv_at hl 2 rfl) ?_
  refine mm_cVi X I hl (As := [.int x1, .int x2]) (ci := 1) md_X1_entry mv_X1_entry ml_X9_277 rfl (kX1_entry (n := n)) (by decide) ⟨Nat.le_refl 0, Nat.le_refl 0⟩ rfl rfl (Nat.le_of_ble_eq_true rfl) dX9_log_9 h (fun v3 M H locs I h => ?_)
  exact mm_xi X I hr hlk dX9_log_12 h
set_option maxHeartbeats 4000000 in
set_option maxRecDepth 100000 in
theorem wpX9_spell_b143 {p : Program} {l : Launch} {e : Env} {s : State} {m : MethodId} {args : Array Value} {below : List Frame} {meth : Method} {c : Code} {D : va_G} {dA : Nat → ClassId} {lo : Nat} (X : mm_C D dA lo cX9_spell RX9 11 p s m args c) (hr : meth.sig.returnType = (some .int)) (hlk : meth.locks = false) (n : Nat) {o : Int32 × mm_M}  : ∀ (M : mm_M) (a0 : Nat) (x1 : Int32) (x2 : Int32) (a3 : Nat) (x4 : Int32) (x5 : Int32) (s0 : Int32) (H : Heap) (locs : List Loc) (ls : Array Slot), mm_I D dA lo s M H locs → lv_has ls 11 [(0, .ref a0), (1, .int x1), (2, .int x2), (3, .ref a3), (4, .int x4), (5, .int x5)] → pX9_spell_b143 n M a0 x1 x2 a3 x4 x5 s0 = some o → W p l e (mm_rm 5 126 0 0) s m args below meth c H locs 0 0 (MQ below (mm_Q D dA lo (some (.int o.1)) o.2) args s 0 0 (mm_fr lo)) (F0 m 143 ls [.int s0]) := by
  intro M a0 x1 x2 a3 x4 x5 s0 H locs ls I hl h
  unfold pX9_spell_b143 at h
  refine lv_istore (lv' := [(10, .int s0), (0, .ref a0), (1, .int x1), (2, .int x2), (3, .ref a3), (4, .int x4), (5, .int x5)]) X.1 X.2.1 dX9_spell_143 hl (by decide) rfl (fun ls hl => ?_)
  refine lv_aload_n X.1 X.2.1 dX9_spell_145 rfl (lv_at hl 1 rfl) ?_
  refine mm_rgr X I fl_X9_60 dX9_spell_146 h (fun v1 h => ?_)
  refine mm_rgr X I fl_X9_140 dX9_spell_149 h (fun v2 h => ?_)
  refine lv_aload_n X.1 X.2.1 dX9_spell_152 rfl (lv_at hl 4 rfl) ?_
  refine lv_iload_n X.1 X.2.1 dX9_spell_153 rfl (lv_at hl 2 rfl) ?_
  refine mm_cVi X I hl (As := [.int x1]) (ci := 3) md_X3_lineOf mv_X3_lineOf ml_X9_159 rfl (kX3_lineOf (n := n)) (by decide) ⟨Nat.le_refl 0, Nat.le_refl 0⟩ rfl rfl (Nat.le_of_ble_eq_true rfl) dX9_spell_154 h (fun v3 M H locs I h => ?_)
  refine mm_rra X I dX9_spell_157 h (fun v4 h => ?_)
  refine mm_rgr X I fl_X9_149 dX9_spell_158 h (fun v5 h => ?_)
  refine lv_iload X.1 X.2.1 dX9_spell_161 (lv_at hl 5 rfl) ?_
  refine lv_iload X.1 X.2.1 dX9_spell_163 (lv_at hl 6 rfl) ?_
  refine lv_isub X.1 X.2.1 dX9_spell_165 ?_
  refine lv_iload_n X.1 X.2.1 dX9_spell_166 rfl (lv_at hl 3 rfl) ?_
  refine lv_iadd X.1 X.2.1 dX9_spell_167 ?_
  refine lv_iload X.1 X.2.1 dX9_spell_168 (lv_at hl 0 rfl) ?_
  refine lv_isub X.1 X.2.1 dX9_spell_170 ?_
  refine mm_cVi X I hl (As := [.int (((x4 - x5) + x2) - s0)]) (ci := 5) md_X5_at mv_X5_at ml_X9_152 rfl (kX5_at (n := n)) (by decide) ⟨Nat.le_refl 0, Nat.le_refl 0⟩ rfl rfl (Nat.le_of_ble_eq_true rfl) dX9_spell_171 h (fun v6 M H locs I h => ?_)
  exact mm_xi X I hr hlk dX9_spell_174 h
set_option maxHeartbeats 4000000 in
set_option maxRecDepth 100000 in
theorem kX9_spell {l : Launch} {D : va_G} {dA : Nat → ClassId} {lo : Nat} {n : Nat} {M : mm_M} {a0 : Nat} {x1 : Int32} {x2 : Int32} (o : Int32 × mm_M) (h : pX9_spell n M a0 x1 x2 = some o) : (∃ fs, M.2 a0 = some (mm_ob 9 fs)) ∧ mm_Met l D dA lo yX9_spell cX9_spell 11 (some .int) 5 126 0 0 [.ref a0, .int x1, .int x2] M (some (.int o.1)) o.2 := by
  unfold pX9_spell at h
  obtain ⟨hob, h⟩ := mm_v_some h
  refine ⟨hob, mm_enter (by decide) (Nat.le_of_ble_eq_true rfl) (fun p e s m args below meth c ls X hr hlk hnm I hl => ?_)⟩
  have X : mm_C D dA lo cX9_spell RX9 11 p s m args c := X
  have hl : lv_has ls 11 [(0, .ref a0), (1, .int x1), (2, .int x2)] := hl
  refine lv_aload_n X.1 X.2.1 dX9_spell_0 rfl (lv_at hl 0 rfl) ?_
  refine mm_cVr X I hl (As := []) (ci := 9) md_X9_rankedHits mv_X9_rankedHits ml_X9_126 rfl (kX9_rankedHits (n := n)) (by decide) ⟨Nat.le_refl 0, Nat.le_refl 0⟩ rfl rfl (Nat.le_of_ble_eq_true rfl) dX9_spell_1 h (fun v1 M H locs I h => ?_)
  refine lv_astore_n (lv' := [(3, .ref v1), (0, .ref a0), (1, .int x1), (2, .int x2)]) X.1 X.2.1 dX9_spell_4 rfl hl (by decide) rfl (fun ls hl => ?_)
  refine lv_aload_n X.1 X.2.1 dX9_spell_5 rfl (lv_at hl 0 rfl) ?_
  refine lv_iload_n X.1 X.2.1 dX9_spell_6 rfl (lv_at hl 2 rfl) ?_
  refine mm_cVi X I hl (As := [.int x1]) (ci := 3) md_X3_has mv_X3_has ml_X9_156 rfl (kX3_has (n := n)) (by decide) ⟨Nat.le_refl 0, Nat.le_refl 0⟩ rfl rfl (Nat.le_of_ble_eq_true rfl) dX9_spell_7 h (fun v2 M H locs I h => ?_)
  refine mm_jne (tgt := 15) X dX9_spell_10 (by decide) h (fun h => ?_) (fun h => ?_)
  · refine lv_aload_n X.1 X.2.1 dX9_spell_15 rfl (lv_at hl 0 rfl) ?_
    refine lv_iload_n X.1 X.2.1 dX9_spell_16 rfl (lv_at hl 2 rfl) ?_
    refine mm_cVi X I hl (As := [.int x1]) (ci := 3) md_X3_placeOf mv_X3_placeOf ml_X9_162 rfl (kX3_placeOf (n := n)) (by decide) ⟨Nat.le_refl 0, Nat.le_refl 0⟩ rfl rfl (Nat.le_of_ble_eq_true rfl) dX9_spell_17 h (fun v3 M H locs I h => ?_)
    refine lv_istore (lv' := [(4, .int v3), (3, .ref v1), (0, .ref a0), (1, .int x1), (2, .int x2)]) X.1 X.2.1 dX9_spell_20 hl (by decide) rfl (fun ls hl => ?_)
    refine lv_iconst (v := 5) X.1 X.2.1 dX9_spell_22 (by decide) ?_
    refine lv_iload X.1 X.2.1 dX9_spell_23 (lv_at hl 0 rfl) ?_
    refine mm_rmin X hl ml_X9_282 (by decide) (Nat.le_of_ble_eq_true rfl) (by decide) (by decide) dX9_spell_25 ?_
    refine lv_istore (lv' := [(5, .int (mm_min 5 v3)), (4, .int v3), (3, .ref v1), (0, .ref a0), (1, .int x1), (2, .int x2)]) X.1 X.2.1 dX9_spell_28 hl (by decide) rfl (fun ls hl => ?_)
    refine lv_iconst (v := 5) X.1 X.2.1 dX9_spell_30 (by decide) ?_
    refine lv_aload_n X.1 X.2.1 dX9_spell_31 rfl (lv_at hl 2 rfl) ?_
    refine lv_iload_n X.1 X.2.1 dX9_spell_32 rfl (lv_at hl 4 rfl) ?_
    refine mm_cVi X I hl (As := [.int x1]) (ci := 3) md_X3_signsFrom mv_X3_signsFrom ml_X9_165 rfl (kX3_signsFrom (n := n)) (by decide) ⟨Nat.le_refl 0, Nat.le_refl 0⟩ rfl rfl (Nat.le_of_ble_eq_true rfl) dX9_spell_33 h (fun v4 M H locs I h => ?_)
    refine lv_aload_n X.1 X.2.1 dX9_spell_36 rfl (lv_at hl 3 rfl) ?_
    refine mm_rgr X I fl_X9_33 dX9_spell_37 h (fun v5 h => ?_)
    refine mm_rgi X I fl_X9_109 dX9_spell_40 h (fun v6 h => ?_)
    refine lv_isub X.1 X.2.1 dX9_spell_43 ?_
    refine mm_rmin X hl ml_X9_282 (by decide) (Nat.le_of_ble_eq_true rfl) (by decide) (by decide) dX9_spell_44 ?_
    refine lv_istore (lv' := [(6, .int (mm_min 5 (v4 - v6))), (5, .int (mm_min 5 v3)), (4, .int v3), (3, .ref v1), (0, .ref a0), (1, .int x1), (2, .int x2)]) X.1 X.2.1 dX9_spell_47 hl (by decide) rfl (fun ls hl => ?_)
    refine lv_iload X.1 X.2.1 dX9_spell_49 (lv_at hl 1 rfl) ?_
    refine lv_aload_n X.1 X.2.1 dX9_spell_51 rfl (lv_at hl 4 rfl) ?_
    refine mm_rgr X I fl_X9_33 dX9_spell_52 h (fun v7 h => ?_)
    refine mm_rgi X I fl_X9_109 dX9_spell_55 h (fun v8 h => ?_)
    refine lv_iadd X.1 X.2.1 dX9_spell_58 ?_
    refine lv_iload X.1 X.2.1 dX9_spell_59 (lv_at hl 0 rfl) ?_
    refine lv_iadd X.1 X.2.1 dX9_spell_61 ?_
    refine lv_iconst (v := 2) X.1 X.2.1 dX9_spell_62 (by decide) ?_
    refine lv_iadd X.1 X.2.1 dX9_spell_63 ?_
    refine lv_istore (lv' := [(7, .int ((((mm_min 5 v3) + v8) + (mm_min 5 (v4 - v6))) + 2)), (6, .int (mm_min 5 (v4 - v6))), (5, .int (mm_min 5 v3)), (4, .int v3), (3, .ref v1), (0, .ref a0), (1, .int x1), (2, .int x2)]) X.1 X.2.1 dX9_spell_64 hl (by decide) rfl (fun ls hl => ?_)
    refine lv_iload_n X.1 X.2.1 dX9_spell_66 rfl (lv_at hl 7 rfl) ?_
    refine lv_iconst (v := (-1)) X.1 X.2.1 dX9_spell_67 (by decide) ?_
    refine mm_kne (tgt := 74) X dX9_spell_68 (by decide) h (fun h => ?_) (fun h => ?_)
    · refine lv_iload_n X.1 X.2.1 dX9_spell_74 rfl (lv_at hl 7 rfl) ?_
      refine mm_jlt (tgt := 84) X dX9_spell_75 (by decide) h (fun h => ?_) (fun h => ?_)
      · refine lv_iconst (v := (-1)) X.1 X.2.1 dX9_spell_84 (by decide) ?_
        exact mm_xi X I hr hlk dX9_spell_85 h
      · refine lv_iload_n X.1 X.2.1 dX9_spell_78 rfl (lv_at hl 7 rfl) ?_
        refine lv_iload X.1 X.2.1 dX9_spell_79 (lv_at hl 0 rfl) ?_
        refine mm_klt (tgt := 86) X dX9_spell_81 (by decide) h (fun h => ?_) (fun h => ?_)
        · refine lv_iload X.1 X.2.1 dX9_spell_86 (lv_at hl 2 rfl) ?_
          refine lv_istore (lv' := [(8, .int (mm_min 5 v3)), (7, .int ((((mm_min 5 v3) + v8) + (mm_min 5 (v4 - v6))) + 2)), (6, .int (mm_min 5 (v4 - v6))), (5, .int (mm_min 5 v3)), (4, .int v3), (3, .ref v1), (0, .ref a0), (1, .int x1), (2, .int x2)]) X.1 X.2.1 dX9_spell_88 hl (by decide) rfl (fun ls hl => ?_)
          refine lv_iload X.1 X.2.1 dX9_spell_90 (lv_at hl 3 rfl) ?_
          refine lv_aload_n X.1 X.2.1 dX9_spell_92 rfl (lv_at hl 6 rfl) ?_
          refine mm_rgr X I fl_X9_33 dX9_spell_93 h (fun v9 h => ?_)
          refine mm_rgi X I fl_X9_109 dX9_spell_96 h (fun v10 h => ?_)
          refine lv_iadd X.1 X.2.1 dX9_spell_99 ?_
          refine lv_iconst (v := 1) X.1 X.2.1 dX9_spell_100 (by decide) ?_
          refine lv_iadd X.1 X.2.1 dX9_spell_101 ?_
          refine lv_istore (lv' := [(9, .int (((mm_min 5 v3) + v10) + 1)), (8, .int (mm_min 5 v3)), (7, .int ((((mm_min 5 v3) + v8) + (mm_min 5 (v4 - v6))) + 2)), (6, .int (mm_min 5 (v4 - v6))), (5, .int (mm_min 5 v3)), (4, .int v3), (3, .ref v1), (0, .ref a0), (1, .int x1), (2, .int x2)]) X.1 X.2.1 dX9_spell_102 hl (by decide) rfl (fun ls hl => ?_)
          refine lv_iload_n X.1 X.2.1 dX9_spell_104 rfl (lv_at hl 9 rfl) ?_
          refine lv_iload X.1 X.2.1 dX9_spell_105 (lv_at hl 1 rfl) ?_
          refine mm_kne (tgt := 113) X dX9_spell_107 (by decide) h (fun h => ?_) (fun h => ?_)
          · refine lv_iload_n X.1 X.2.1 dX9_spell_113 rfl (lv_at hl 9 rfl) ?_
            refine lv_iload X.1 X.2.1 dX9_spell_114 (lv_at hl 0 rfl) ?_
            refine mm_kne (tgt := 122) X dX9_spell_116 (by decide) h (fun h => ?_) (fun h => ?_)
            · refine lv_iload_n X.1 X.2.1 dX9_spell_122 rfl (lv_at hl 9 rfl) ?_
              refine lv_iload X.1 X.2.1 dX9_spell_123 (lv_at hl 1 rfl) ?_
              refine mm_kge (tgt := 132) X dX9_spell_125 (by decide) h (fun h => ?_) (fun h => ?_)
              · refine lv_iload_n X.1 X.2.1 dX9_spell_132 rfl (lv_at hl 9 rfl) ?_
                refine lv_iload X.1 X.2.1 dX9_spell_133 (lv_at hl 0 rfl) ?_
                refine mm_kge (tgt := 142) X dX9_spell_135 (by decide) h (fun h => ?_) (fun h => ?_)
                · refine lv_iconst (v := 2) X.1 X.2.1 dX9_spell_142 (by decide) ?_
                  exact wpX9_spell_b143 X hr hlk n  M _ _ _ _ _ _ _ _ _ _ I (lv_sub hl [7, 8, 9, 6, 5, 4] rfl) h
                · refine lv_iconst (v := 1) X.1 X.2.1 dX9_spell_138 (by decide) ?_
                  refine lv_goto (tgt := 143) X.1 X.2.1 dX9_spell_139 (by decide) ?_
                  exact wpX9_spell_b143 X hr hlk n  M _ _ _ _ _ _ _ _ _ _ I (lv_sub hl [7, 8, 9, 6, 5, 4] rfl) h
              · refine lv_iconst (v := 0) X.1 X.2.1 dX9_spell_128 (by decide) ?_
                refine lv_goto (tgt := 143) X.1 X.2.1 dX9_spell_129 (by decide) ?_
                exact wpX9_spell_b143 X hr hlk n  M _ _ _ _ _ _ _ _ _ _ I (lv_sub hl [7, 8, 9, 6, 5, 4] rfl) h
            · refine lv_bipush (v := 93) X.1 X.2.1 dX9_spell_119 (by decide) ?_
              exact mm_xi X I hr hlk dX9_spell_121 h
          · refine lv_bipush (v := 91) X.1 X.2.1 dX9_spell_110 (by decide) ?_
            exact mm_xi X I hr hlk dX9_spell_112 h
        · refine lv_iconst (v := (-1)) X.1 X.2.1 dX9_spell_84 (by decide) ?_
          exact mm_xi X I hr hlk dX9_spell_85 h
    · refine lv_iload X.1 X.2.1 dX9_spell_71 (lv_at hl 0 rfl) ?_
      exact mm_xi X I hr hlk dX9_spell_73 h
  · refine lv_iconst (v := (-1)) X.1 X.2.1 dX9_spell_13 (by decide) ?_
    exact mm_xi X I hr hlk dX9_spell_14 h
set_option maxHeartbeats 4000000 in
set_option maxRecDepth 100000 in
theorem kX9_would {l : Launch} {D : va_G} {dA : Nat → ClassId} {lo : Nat} {n : Nat} {M : mm_M} {a0 : Nat} {x1 : Int32} (o : Int32 × mm_M) (h : pX9_would n M a0 x1 = some o) : (∃ fs, M.2 a0 = some (mm_ob 9 fs)) ∧ mm_Met l D dA lo yX9_would cX9_would 2 (some .int) 3 69 0 0 [.ref a0, .int x1] M (some (.int o.1)) o.2 := by
  unfold pX9_would at h
  obtain ⟨hob, h⟩ := mm_v_some h
  refine ⟨hob, mm_enter (by decide) (Nat.le_of_ble_eq_true rfl) (fun p e s m args below meth c ls X hr hlk hnm I hl => ?_)⟩
  have X : mm_C D dA lo cX9_would RX9 2 p s m args c := X
  have hl : lv_has ls 2 [(0, .ref a0), (1, .int x1)] := hl
  refine lv_aload_n X.1 X.2.1 dX9_would_0 rfl (lv_at hl 0 rfl) ?_
  refine mm_rgr X I fl_X9_60 dX9_would_1 h (fun v1 h => ?_)
  refine lv_iload_n X.1 X.2.1 dX9_would_4 rfl (lv_at hl 1 rfl) ?_
  refine mm_cVi X I hl (As := [.int x1]) (ci := 6) md_X6_hasLine mv_X6_hasLine ml_X9_134 rfl (kX6_hasLine (n := n)) (by decide) ⟨Nat.le_refl 0, Nat.le_refl 0⟩ rfl rfl (Nat.le_of_ble_eq_true rfl) dX9_would_5 h (fun v2 M H locs I h => ?_)
  refine mm_jeq (tgt := 38) X dX9_would_8 (by decide) h (fun h => ?_) (fun h => ?_)
  · refine lv_iconst (v := (-1)) X.1 X.2.1 dX9_would_38 (by decide) ?_
    exact mm_xi X I hr hlk dX9_would_39 h
  · refine lv_aload_n X.1 X.2.1 dX9_would_11 rfl (lv_at hl 0 rfl) ?_
    refine mm_rgr X I fl_X9_33 dX9_would_12 h (fun v3 h => ?_)
    refine mm_rgi X I fl_X9_109 dX9_would_15 h (fun v4 h => ?_)
    refine mm_jeq (tgt := 38) X dX9_would_18 (by decide) h (fun h => ?_) (fun h => ?_)
    · refine lv_iconst (v := (-1)) X.1 X.2.1 dX9_would_38 (by decide) ?_
      exact mm_xi X I hr hlk dX9_would_39 h
    · refine lv_aload_n X.1 X.2.1 dX9_would_21 rfl (lv_at hl 0 rfl) ?_
      refine mm_rgr X I fl_X9_10 dX9_would_22 h (fun v5 h => ?_)
      refine lv_aload_n X.1 X.2.1 dX9_would_25 rfl (lv_at hl 0 rfl) ?_
      refine mm_rgr X I fl_X9_40 dX9_would_26 h (fun v6 h => ?_)
      refine lv_bipush (v := 20) X.1 X.2.1 dX9_would_29 (by decide) ?_
      refine mm_cVi X I hl (As := [.ref v6, .int 20]) (ci := 8) md_X8_rowFault mv_X8_rowFault ml_X9_95 rfl (kX8_rowFault (n := n)) (by decide) ⟨Nat.le_refl 0, Nat.le_refl 0⟩ rfl rfl (Nat.le_of_ble_eq_true rfl) dX9_would_31 h (fun v7 M H locs I h => ?_)
      refine lv_iconst (v := (-1)) X.1 X.2.1 dX9_would_34 (by decide) ?_
      refine mm_keq (tgt := 40) X dX9_would_35 (by decide) h (fun h => ?_) (fun h => ?_)
      · refine lv_aload_n X.1 X.2.1 dX9_would_40 rfl (lv_at hl 0 rfl) ?_
        refine mm_rgr X I fl_X9_60 dX9_would_41 h (fun v8 h => ?_)
        refine lv_aload_n X.1 X.2.1 dX9_would_44 rfl (lv_at hl 0 rfl) ?_
        refine mm_rgr X I fl_X9_33 dX9_would_45 h (fun v9 h => ?_)
        refine mm_cVi X I hl (As := [.ref v9]) (ci := 6) md_X6_hits mv_X6_hits ml_X9_285 rfl (kX6_hits (n := n)) (by decide) ⟨Nat.le_refl 0, Nat.le_refl 0⟩ rfl rfl (Nat.le_of_ble_eq_true rfl) dX9_would_48 h (fun v10 M H locs I h => ?_)
        refine lv_aload_n X.1 X.2.1 dX9_would_51 rfl (lv_at hl 0 rfl) ?_
        refine mm_rgr X I fl_X9_60 dX9_would_52 h (fun v11 h => ?_)
        refine mm_rgr X I fl_X9_140 dX9_would_55 h (fun v12 h => ?_)
        refine lv_iload_n X.1 X.2.1 dX9_would_58 rfl (lv_at hl 1 rfl) ?_
        refine mm_rra X I dX9_would_59 h (fun v13 h => ?_)
        refine mm_rgr X I fl_X9_149 dX9_would_60 h (fun v14 h => ?_)
        refine lv_aload_n X.1 X.2.1 dX9_would_63 rfl (lv_at hl 0 rfl) ?_
        refine mm_rgr X I fl_X9_33 dX9_would_64 h (fun v15 h => ?_)
        refine mm_cVi X I hl (As := [.ref v15]) (ci := 5) md_X5_hits mv_X5_hits ml_X9_289 rfl (kX5_hits (n := n)) (by decide) ⟨Nat.le_refl 0, Nat.le_refl 0⟩ rfl rfl (Nat.le_of_ble_eq_true rfl) dX9_would_67 h (fun v16 M H locs I h => ?_)
        refine lv_isub X.1 X.2.1 dX9_would_70 ?_
        refine lv_aload_n X.1 X.2.1 dX9_would_71 rfl (lv_at hl 0 rfl) ?_
        refine mm_rgr X I fl_X9_40 dX9_would_72 h (fun v17 h => ?_)
        refine lv_aload_n X.1 X.2.1 dX9_would_75 rfl (lv_at hl 0 rfl) ?_
        refine mm_rgr X I fl_X9_33 dX9_would_76 h (fun v18 h => ?_)
        refine mm_cVi X I hl (As := [.ref v18]) (ci := 5) md_X5_hits mv_X5_hits ml_X9_289 rfl (kX5_hits (n := n)) (by decide) ⟨Nat.le_refl 0, Nat.le_refl 0⟩ rfl rfl (Nat.le_of_ble_eq_true rfl) dX9_would_79 h (fun v19 M H locs I h => ?_)
        refine lv_iadd X.1 X.2.1 dX9_would_82 ?_
        exact mm_xi X I hr hlk dX9_would_83 h
      · refine lv_iconst (v := (-1)) X.1 X.2.1 dX9_would_38 (by decide) ?_
        exact mm_xi X I hr hlk dX9_would_39 h
set_option maxHeartbeats 4000000 in
set_option maxRecDepth 100000 in
theorem kX9_hasScript {l : Launch} {D : va_G} {dA : Nat → ClassId} {lo : Nat} {n : Nat} {M : mm_M} {a0 : Nat} {x1 : Int32} (o : Int32 × mm_M) (h : pX9_hasScript n M a0 x1 = some o) : (∃ fs, M.2 a0 = some (mm_ob 9 fs)) ∧ mm_Met l D dA lo yX9_hasScript cX9_hasScript 2 (some .boolean) 0 0 0 0 [.ref a0, .int x1] M (some (.int o.1)) o.2 := by
  unfold pX9_hasScript at h
  obtain ⟨hob, h⟩ := mm_v_some h
  refine ⟨hob, mm_enter (by decide) (Nat.le_of_ble_eq_true rfl) (fun p e s m args below meth c ls X hr hlk hnm I hl => ?_)⟩
  have X : mm_C D dA lo cX9_hasScript RX9 2 p s m args c := X
  have hl : lv_has ls 2 [(0, .ref a0), (1, .int x1)] := hl
  refine lv_iload_n X.1 X.2.1 dX9_hasScript_0 rfl (lv_at hl 1 rfl) ?_
  refine mm_jlt (tgt := 16) X dX9_hasScript_1 (by decide) h (fun h => ?_) (fun h => ?_)
  · refine lv_iconst (v := 0) X.1 X.2.1 dX9_hasScript_16 (by decide) ?_
    exact mm_xz0 X I hr hlk dX9_hasScript_17 h
  · refine lv_iload_n X.1 X.2.1 dX9_hasScript_4 rfl (lv_at hl 1 rfl) ?_
    refine lv_aload_n X.1 X.2.1 dX9_hasScript_5 rfl (lv_at hl 0 rfl) ?_
    refine mm_rgi X I fl_X9_88 dX9_hasScript_6 h (fun v1 h => ?_)
    refine mm_kge (tgt := 16) X dX9_hasScript_9 (by decide) h (fun h => ?_) (fun h => ?_)
    · refine lv_iconst (v := 0) X.1 X.2.1 dX9_hasScript_16 (by decide) ?_
      exact mm_xz0 X I hr hlk dX9_hasScript_17 h
    · refine lv_iconst (v := 1) X.1 X.2.1 dX9_hasScript_12 (by decide) ?_
      refine lv_goto (tgt := 17) X.1 X.2.1 dX9_hasScript_13 (by decide) ?_
      exact mm_xz1 X I hr hlk dX9_hasScript_17 h
set_option maxHeartbeats 4000000 in
set_option maxRecDepth 100000 in
theorem kX9_step {l : Launch} {D : va_G} {dA : Nat → ClassId} {lo : Nat} {n : Nat} {M : mm_M} {a0 : Nat} {x1 : Int32} {x2 : Int32} {x3 : Int32} (o : Int32 × mm_M) (h : pX9_step n M a0 x1 x2 x3 = some o) : (∃ fs, M.2 a0 = some (mm_ob 9 fs)) ∧ mm_Met l D dA lo yX9_step cX9_step 5 (some .int) 1 21 0 0 [.ref a0, .int x1, .int x2, .int x3] M (some (.int o.1)) o.2 := by
  unfold pX9_step at h
  obtain ⟨hob, h⟩ := mm_v_some h
  refine ⟨hob, mm_enter (by decide) (Nat.le_of_ble_eq_true rfl) (fun p e s m args below meth c ls X hr hlk hnm I hl => ?_)⟩
  have X : mm_C D dA lo cX9_step RX9 5 p s m args c := X
  have hl : lv_has ls 5 [(0, .ref a0), (1, .int x1), (2, .int x2), (3, .int x3)] := hl
  refine lv_aload_n X.1 X.2.1 dX9_step_0 rfl (lv_at hl 0 rfl) ?_
  refine lv_iload_n X.1 X.2.1 dX9_step_1 rfl (lv_at hl 1 rfl) ?_
  refine mm_cVi X I hl (As := [.int x1]) (ci := 9) md_X9_hasScript mv_X9_hasScript ml_X9_290 rfl (kX9_hasScript (n := n)) (by decide) ⟨Nat.le_refl 0, Nat.le_refl 0⟩ rfl rfl (Nat.le_of_ble_eq_true rfl) dX9_step_2 h (fun v1 M H locs I h => ?_)
  refine mm_jeq (tgt := 25) X dX9_step_5 (by decide) h (fun h => ?_) (fun h => ?_)
  · refine lv_ldc (v := (-1000000)) X.1 X.2.1 X.2.2.2.1 (X.2.2.2.2.1 _ cn_X9_210) dX9_step_25 ?_
    exact mm_xi X I hr hlk dX9_step_27 h
  · refine lv_iload_n X.1 X.2.1 dX9_step_8 rfl (lv_at hl 2 rfl) ?_
    refine mm_jlt (tgt := 25) X dX9_step_9 (by decide) h (fun h => ?_) (fun h => ?_)
    · refine lv_ldc (v := (-1000000)) X.1 X.2.1 X.2.2.2.1 (X.2.2.2.2.1 _ cn_X9_210) dX9_step_25 ?_
      exact mm_xi X I hr hlk dX9_step_27 h
    · refine lv_iload_n X.1 X.2.1 dX9_step_12 rfl (lv_at hl 2 rfl) ?_
      refine lv_aload_n X.1 X.2.1 dX9_step_13 rfl (lv_at hl 0 rfl) ?_
      refine mm_rgr X I fl_X9_52 dX9_step_14 h (fun v2 h => ?_)
      refine lv_iload_n X.1 X.2.1 dX9_step_17 rfl (lv_at hl 1 rfl) ?_
      refine mm_rra X I dX9_step_18 h (fun v3 h => ?_)
      refine mm_rgi X I fl_X9_293 dX9_step_19 h (fun v4 h => ?_)
      refine mm_klt (tgt := 28) X dX9_step_22 (by decide) h (fun h => ?_) (fun h => ?_)
      · refine lv_aload_n X.1 X.2.1 dX9_step_28 rfl (lv_at hl 0 rfl) ?_
        refine mm_rgr X I fl_X9_52 dX9_step_29 h (fun v5 h => ?_)
        refine lv_iload_n X.1 X.2.1 dX9_step_32 rfl (lv_at hl 1 rfl) ?_
        refine mm_rra X I dX9_step_33 h (fun v6 h => ?_)
        refine mm_rgr X I fl_X9_294 dX9_step_34 h (fun v7 h => ?_)
        refine lv_iload_n X.1 X.2.1 dX9_step_37 rfl (lv_at hl 2 rfl) ?_
        refine mm_rra X I dX9_step_38 h (fun v8 h => ?_)
        refine lv_astore (lv' := [(4, .ref v8), (0, .ref a0), (1, .int x1), (2, .int x2), (3, .int x3)]) X.1 X.2.1 dX9_step_39 hl (by decide) rfl (fun ls hl => ?_)
        refine lv_iload_n X.1 X.2.1 dX9_step_41 rfl (lv_at hl 4 rfl) ?_
        by_cases z9_0 : x3 = 0
        · have h := mm_t z9_0 h
          refine lv_tableIn (tgt := 72) (off := 30) X.1 X.2.1 dX9_step_42 (by rw [z9_0]; decide) (by rw [z9_0]; decide) (by rw [z9_0]; rfl) (by decide) ?_
          refine lv_aload X.1 X.2.1 dX9_step_72 (lv_at hl 0 rfl) ?_
          refine mm_rgi X I fl_X9_298 dX9_step_74 h (fun v10 h => ?_)
          exact mm_xi X I hr hlk dX9_step_77 h
        · have h := mm_f z9_0 h
          by_cases z9_1 : x3 = 1
          · have h := mm_t z9_1 h
            refine lv_tableIn (tgt := 78) (off := 36) X.1 X.2.1 dX9_step_42 (by rw [z9_1]; decide) (by rw [z9_1]; decide) (by rw [z9_1]; rfl) (by decide) ?_
            refine lv_aload X.1 X.2.1 dX9_step_78 (lv_at hl 0 rfl) ?_
            refine mm_rgi X I fl_X9_301 dX9_step_80 h (fun v11 h => ?_)
            exact mm_xi X I hr hlk dX9_step_83 h
          · have h := mm_f z9_1 h
            by_cases z9_2 : x3 = 2
            · have h := mm_t z9_2 h
              refine lv_tableIn (tgt := 84) (off := 42) X.1 X.2.1 dX9_step_42 (by rw [z9_2]; decide) (by rw [z9_2]; decide) (by rw [z9_2]; rfl) (by decide) ?_
              refine lv_aload X.1 X.2.1 dX9_step_84 (lv_at hl 0 rfl) ?_
              refine mm_rgi X I fl_X9_304 dX9_step_86 h (fun v12 h => ?_)
              exact mm_xi X I hr hlk dX9_step_89 h
            · have h := mm_f z9_2 h
              by_cases z9_3 : x3 = 3
              · have h := mm_t z9_3 h
                refine lv_tableIn (tgt := 90) (off := 48) X.1 X.2.1 dX9_step_42 (by rw [z9_3]; decide) (by rw [z9_3]; decide) (by rw [z9_3]; rfl) (by decide) ?_
                refine lv_aload X.1 X.2.1 dX9_step_90 (lv_at hl 0 rfl) ?_
                refine mm_rgr X I fl_X9_215 dX9_step_92 h (fun v13 h => ?_)
                refine mm_rgi X I fl_X9_109 dX9_step_95 h (fun v14 h => ?_)
                exact mm_xi X I hr hlk dX9_step_98 h
              · have h := mm_f z9_3 h
                have z9_q0 : ¬ Int32.toInt x3 = 0 := fun q => z9_0 (Int32.toInt_inj.mp q)
                have z9_q1 : ¬ Int32.toInt x3 = 1 := fun q => z9_1 (Int32.toInt_inj.mp q)
                have z9_q2 : ¬ Int32.toInt x3 = 2 := fun q => z9_2 (Int32.toInt_inj.mp q)
                have z9_q3 : ¬ Int32.toInt x3 = 3 := fun q => z9_3 (Int32.toInt_inj.mp q)
                refine mm_tdef (tgt := 99) X dX9_step_42 (by decide) (fun i hi hq => ?_) (by decide) ?_
                · rcases (show i = 0 ∨ i = 1 ∨ i = 2 ∨ i = 3 by simp at hi; omega) with rfl | rfl | rfl | rfl
                  · exact absurd hq (by omega)
                  · exact absurd hq (by omega)
                  · exact absurd hq (by omega)
                  · exact absurd hq (by omega)
                · refine lv_ldc (v := (-1000000)) X.1 X.2.1 X.2.2.2.1 (X.2.2.2.2.1 _ cn_X9_210) dX9_step_99 ?_
                  exact mm_xi X I hr hlk dX9_step_101 h
      · refine lv_ldc (v := (-1000000)) X.1 X.2.1 X.2.2.2.1 (X.2.2.2.2.1 _ cn_X9_210) dX9_step_25 ?_
        exact mm_xi X I hr hlk dX9_step_27 h
set_option maxHeartbeats 4000000 in
set_option maxRecDepth 100000 in
theorem wpX9_run_b99 {p : Program} {l : Launch} {e : Env} {s : State} {m : MethodId} {args : Array Value} {below : List Frame} {meth : Method} {c : Code} {D : va_G} {dA : Nat → ClassId} {lo : Nat} (X : mm_C D dA lo cX9_run RX9 5 p s m args c) (hr : meth.sig.returnType = (some .int)) (hlk : meth.locks = false) (n : Nat) {o : Int32 × mm_M}  : ∀ (M : mm_M) (a0 : Nat) (x2 : Int32) (a3 : Nat) (x4 : Int32) (H : Heap) (locs : List Loc) (ls : Array Slot), mm_I D dA lo s M H locs → lv_has ls 5 [(0, .ref a0), (2, .int x2), (3, .ref a3), (4, .int x4)] → pX9_run_b99 n M a0 x2 a3 x4 = some o → W p l e (mm_rm 5 129 0 0) s m args below meth c H locs 0 0 (MQ below (mm_Q D dA lo (some (.int o.1)) o.2) args s 0 0 (mm_fr lo)) (F0 m 99 ls []) := by
  intro M a0 x2 a3 x4 H locs ls I hl h
  unfold pX9_run_b99 at h
  refine lv_iload_n X.1 X.2.1 dX9_run_99 rfl (lv_at hl 1 rfl) ?_
  refine lv_iconst (v := 1) X.1 X.2.1 dX9_run_100 (by decide) ?_
  refine mm_kne (tgt := 112) X dX9_run_101 (by decide) h (fun h => ?_) (fun h => ?_)
  · refine lv_iload X.1 X.2.1 dX9_run_112 (lv_at hl 3 rfl) ?_
    refine lv_aload_n X.1 X.2.1 dX9_run_114 rfl (lv_at hl 2 rfl) ?_
    refine mm_rgi X I fl_X9_293 dX9_run_115 h (fun v1 h => ?_)
    refine mm_kne (tgt := 125) X dX9_run_118 (by decide) h (fun h => ?_) (fun h => ?_)
    · refine lv_iload X.1 X.2.1 dX9_run_125 (lv_at hl 3 rfl) ?_
      exact mm_xi X I hr hlk dX9_run_127 h
    · refine lv_iconst (v := (-1)) X.1 X.2.1 dX9_run_121 (by decide) ?_
      refine lv_goto (tgt := 127) X.1 X.2.1 dX9_run_122 (by decide) ?_
      exact mm_xi X I hr hlk dX9_run_127 h
  · refine lv_aload_n X.1 X.2.1 dX9_run_104 rfl (lv_at hl 0 rfl) ?_
    refine mm_rgr X I fl_X9_19 dX9_run_105 h (fun v2 h => ?_)
    refine mm_cVi X I hl (As := []) (ci := 6) md_X6_allSigns mv_X6_allSigns ml_X9_131 rfl (kX6_allSigns (n := n)) (by decide) ⟨Nat.le_refl 0, Nat.le_refl 0⟩ rfl rfl (Nat.le_of_ble_eq_true rfl) dX9_run_108 h (fun v3 M H locs I h => ?_)
    exact mm_xi X I hr hlk dX9_run_111 h
set_option maxHeartbeats 4000000 in
set_option maxRecDepth 100000 in
theorem wpX9_run_l51 {p : Program} {l : Launch} {e : Env} {s : State} {m : MethodId} {args : Array Value} {below : List Frame} {meth : Method} {c : Code} {D : va_G} {dA : Nat → ClassId} {lo : Nat} (X : mm_C D dA lo cX9_run RX9 5 p s m args c) (hr : meth.sig.returnType = (some .int)) (hlk : meth.locks = false) (n : Nat) {o : Int32 × mm_M} (k : Nat) : ∀ (M : mm_M) (a0 : Nat) (x2 : Int32) (a3 : Nat) (x4 : Int32) (H : Heap) (locs : List Loc) (ls : Array Slot), mm_I D dA lo s M H locs → lv_has ls 5 [(0, .ref a0), (2, .int x2), (3, .ref a3), (4, .int x4)] → pX9_run_l51 n k M a0 x2 a3 x4 = some o → W p l e (mm_rm 5 129 0 0) s m args below meth c H locs 0 0 (MQ below (mm_Q D dA lo (some (.int o.1)) o.2) args s 0 0 (mm_fr lo)) (F0 m 51 ls []) := by
  induction k with
  | zero =>
    intro M a0 x2 a3 x4 H locs ls I hl h
    have h : (none : Option (Int32 × mm_M)) = some o := h
    cases h
  | succ k ih =>
    intro M a0 x2 a3 x4 H locs ls I hl h
    have h : pX9_run_l51b n (pX9_run_l51 n k) M a0 x2 a3 x4 = some o := h
    unfold pX9_run_l51b at h
    refine lv_iload X.1 X.2.1 dX9_run_51 (lv_at hl 3 rfl) ?_
    refine lv_aload_n X.1 X.2.1 dX9_run_53 rfl (lv_at hl 2 rfl) ?_
    refine mm_rgi X I fl_X9_293 dX9_run_54 h (fun v1 h => ?_)
    refine mm_kge (tgt := 99) X dX9_run_57 (by decide) h (fun h => ?_) (fun h => ?_)
    · exact wpX9_run_b99 X hr hlk n  M _ _ _ _ _ _ _ I (lv_sub hl [0, 1, 2, 3] rfl) h
    · refine lv_aload_n X.1 X.2.1 dX9_run_60 rfl (lv_at hl 0 rfl) ?_
      refine mm_rgr X I fl_X9_19 dX9_run_61 h (fun v2 h => ?_)
      refine lv_aload_n X.1 X.2.1 dX9_run_64 rfl (lv_at hl 2 rfl) ?_
      refine mm_rgr X I fl_X9_294 dX9_run_65 h (fun v3 h => ?_)
      refine lv_iload X.1 X.2.1 dX9_run_68 (lv_at hl 3 rfl) ?_
      refine mm_rra X I dX9_run_70 h (fun v4 h => ?_)
      refine mm_cVi X I hl (As := [.ref v4]) (ci := 6) md_X6_refusal mv_X6_refusal ml_X9_307 rfl (kX6_refusal (n := n)) (by decide) ⟨Nat.le_refl 0, Nat.le_refl 0⟩ rfl rfl (Nat.le_of_ble_eq_true rfl) dX9_run_71 h (fun v5 M H locs I h => ?_)
      refine lv_iconst (v := (-1)) X.1 X.2.1 dX9_run_74 (by decide) ?_
      refine mm_kne (tgt := 99) X dX9_run_75 (by decide) h (fun h => ?_) (fun h => ?_)
      · exact wpX9_run_b99 X hr hlk n  M _ _ _ _ _ _ _ I (lv_sub hl [0, 1, 2, 3] rfl) h
      · refine lv_aload_n X.1 X.2.1 dX9_run_78 rfl (lv_at hl 0 rfl) ?_
        refine mm_rgr X I fl_X9_19 dX9_run_79 h (fun v6 h => ?_)
        refine lv_aload_n X.1 X.2.1 dX9_run_82 rfl (lv_at hl 2 rfl) ?_
        refine mm_rgr X I fl_X9_294 dX9_run_83 h (fun v7 h => ?_)
        refine lv_iload X.1 X.2.1 dX9_run_86 (lv_at hl 3 rfl) ?_
        refine mm_rra X I dX9_run_88 h (fun v8 h => ?_)
        refine mm_cVi X I hl (As := [.ref v8]) (ci := 6) md_X6_carryOut mv_X6_carryOut ml_X9_311 rfl (kX6_carryOut (n := n)) (by decide) ⟨Nat.le_refl 0, Nat.le_refl 0⟩ rfl rfl (Nat.le_of_ble_eq_true rfl) dX9_run_89 h (fun v9 M H locs I h => ?_)
        refine lv_pop X.1 X.2.1 dX9_run_92 rfl ?_
        refine lv_iinc (v := (x4 + 1)) (lv' := [(4, .int (x4 + 1)), (0, .ref a0), (2, .int x2), (3, .ref a3)]) X.1 X.2.1 dX9_run_93 hl (k := 3) rfl rfl (by decide) rfl (fun ls hl => ?_)
        refine lv_goto (tgt := 51) X.1 X.2.1 dX9_run_96 (by decide) ?_
        exact ih M _ _ _ _ _ _ _ I (lv_sub hl [1, 2, 3, 0] rfl) h
set_option maxHeartbeats 4000000 in
set_option maxRecDepth 100000 in
theorem kX9_run {l : Launch} {D : va_G} {dA : Nat → ClassId} {lo : Nat} {n : Nat} {M : mm_M} {a0 : Nat} {x1 : Int32} {x2 : Int32} (o : Int32 × mm_M) (h : pX9_run n M a0 x1 x2 = some o) : (∃ fs, M.2 a0 = some (mm_ob 9 fs)) ∧ mm_Met l D dA lo yX9_run cX9_run 5 (some .int) 5 129 0 0 [.ref a0, .int x1, .int x2] M (some (.int o.1)) o.2 := by
  unfold pX9_run at h
  obtain ⟨hob, h⟩ := mm_v_some h
  refine ⟨hob, mm_enter (by decide) (Nat.le_of_ble_eq_true rfl) (fun p e s m args below meth c ls X hr hlk hnm I hl => ?_)⟩
  have X : mm_C D dA lo cX9_run RX9 5 p s m args c := X
  have hl : lv_has ls 5 [(0, .ref a0), (1, .int x1), (2, .int x2)] := hl
  refine lv_aload_n X.1 X.2.1 dX9_run_0 rfl (lv_at hl 0 rfl) ?_
  refine lv_iload_n X.1 X.2.1 dX9_run_1 rfl (lv_at hl 1 rfl) ?_
  refine mm_cVi X I hl (As := [.int x1]) (ci := 9) md_X9_hasScript mv_X9_hasScript ml_X9_290 rfl (kX9_hasScript (n := n)) (by decide) ⟨Nat.le_refl 0, Nat.le_refl 0⟩ rfl rfl (Nat.le_of_ble_eq_true rfl) dX9_run_2 h (fun v1 M H locs I h => ?_)
  refine mm_jeq (tgt := 27) X dX9_run_5 (by decide) h (fun h => ?_) (fun h => ?_)
  · refine lv_ldc (v := (-1000000)) X.1 X.2.1 X.2.2.2.1 (X.2.2.2.2.1 _ cn_X9_210) dX9_run_27 ?_
    exact mm_xi X I hr hlk dX9_run_29 h
  · refine lv_aload_n X.1 X.2.1 dX9_run_8 rfl (lv_at hl 0 rfl) ?_
    refine mm_rgr X I fl_X9_60 dX9_run_9 h (fun v2 h => ?_)
    refine mm_rgi X I fl_X9_120 dX9_run_12 h (fun v3 h => ?_)
    refine mm_jeq (tgt := 27) X dX9_run_15 (by decide) h (fun h => ?_) (fun h => ?_)
    · refine lv_ldc (v := (-1000000)) X.1 X.2.1 X.2.2.2.1 (X.2.2.2.2.1 _ cn_X9_210) dX9_run_27 ?_
      exact mm_xi X I hr hlk dX9_run_29 h
    · refine lv_iload_n X.1 X.2.1 dX9_run_18 rfl (lv_at hl 2 rfl) ?_
      refine mm_jlt (tgt := 27) X dX9_run_19 (by decide) h (fun h => ?_) (fun h => ?_)
      · refine lv_ldc (v := (-1000000)) X.1 X.2.1 X.2.2.2.1 (X.2.2.2.2.1 _ cn_X9_210) dX9_run_27 ?_
        exact mm_xi X I hr hlk dX9_run_29 h
      · refine lv_iload_n X.1 X.2.1 dX9_run_22 rfl (lv_at hl 2 rfl) ?_
        refine lv_iconst (v := 1) X.1 X.2.1 dX9_run_23 (by decide) ?_
        refine mm_kle (tgt := 30) X dX9_run_24 (by decide) h (fun h => ?_) (fun h => ?_)
        · refine lv_aload_n X.1 X.2.1 dX9_run_30 rfl (lv_at hl 0 rfl) ?_
          refine mm_rgr X I fl_X9_52 dX9_run_31 h (fun v4 h => ?_)
          refine lv_iload_n X.1 X.2.1 dX9_run_34 rfl (lv_at hl 1 rfl) ?_
          refine mm_rra X I dX9_run_35 h (fun v5 h => ?_)
          refine lv_astore_n (lv' := [(3, .ref v5), (0, .ref a0), (1, .int x1), (2, .int x2)]) X.1 X.2.1 dX9_run_36 rfl hl (by decide) rfl (fun ls hl => ?_)
          refine lv_aload_n X.1 X.2.1 dX9_run_37 rfl (lv_at hl 1 rfl) ?_
          refine mm_rgr X I fl_X9_19 dX9_run_38 h (fun v6 h => ?_)
          refine lv_aload_n X.1 X.2.1 dX9_run_41 rfl (lv_at hl 1 rfl) ?_
          refine mm_rgr X I fl_X9_60 dX9_run_42 h (fun v7 h => ?_)
          refine mm_cVv X I hl (As := [.ref v7]) (ci := 6) md_X6_copyFrom mv_X6_copyFrom ml_X9_106 rfl (kX6_copyFrom (n := n)) (by decide) ⟨Nat.le_refl 0, Nat.le_refl 0⟩ rfl rfl (Nat.le_of_ble_eq_true rfl) dX9_run_45 h (fun M H locs I h => ?_)
          refine lv_iconst (v := 0) X.1 X.2.1 dX9_run_48 (by decide) ?_
          refine lv_istore (lv' := [(4, .int 0), (3, .ref v5), (0, .ref a0), (1, .int x1), (2, .int x2)]) X.1 X.2.1 dX9_run_49 hl (by decide) rfl (fun ls hl => ?_)
          exact wpX9_run_l51 X hr hlk n  n M _ _ _ _ _ _ _ I (lv_sub hl [2, 4, 1, 0] rfl) h
        · refine lv_ldc (v := (-1000000)) X.1 X.2.1 X.2.2.2.1 (X.2.2.2.2.1 _ cn_X9_210) dX9_run_27 ?_
          exact mm_xi X I hr hlk dX9_run_29 h
set_option maxHeartbeats 4000000 in
set_option maxRecDepth 100000 in
theorem wpX9_perform_l29 {p : Program} {l : Launch} {e : Env} {s : State} {m : MethodId} {args : Array Value} {below : List Frame} {meth : Method} {c : Code} {D : va_G} {dA : Nat → ClassId} {lo : Nat} (X : mm_C D dA lo cX9_perform RX9 4 p s m args c) (hr : meth.sig.returnType = (some .int)) (hlk : meth.locks = false) (n : Nat) {o : Int32 × mm_M} (k : Nat) : ∀ (M : mm_M) (a0 : Nat) (a2 : Nat) (x3 : Int32) (H : Heap) (locs : List Loc) (ls : Array Slot), mm_I D dA lo s M H locs → lv_has ls 4 [(0, .ref a0), (2, .ref a2), (3, .int x3)] → pX9_perform_l29 n k M a0 a2 x3 = some o → W p l e (mm_rm 6 154 0 0) s m args below meth c H locs 0 0 (MQ below (mm_Q D dA lo (some (.int o.1)) o.2) args s 0 0 (mm_fr lo)) (F0 m 29 ls []) := by
  induction k with
  | zero =>
    intro M a0 a2 x3 H locs ls I hl h
    have h : (none : Option (Int32 × mm_M)) = some o := h
    cases h
  | succ k ih =>
    intro M a0 a2 x3 H locs ls I hl h
    have h : pX9_perform_l29b n (pX9_perform_l29 n k) M a0 a2 x3 = some o := h
    unfold pX9_perform_l29b at h
    refine lv_iload_n X.1 X.2.1 dX9_perform_29 rfl (lv_at hl 2 rfl) ?_
    refine lv_aload_n X.1 X.2.1 dX9_perform_30 rfl (lv_at hl 1 rfl) ?_
    refine mm_rgi X I fl_X9_293 dX9_perform_31 h (fun v1 h => ?_)
    refine mm_kge (tgt := 58) X dX9_perform_34 (by decide) h (fun h => ?_) (fun h => ?_)
    · refine lv_iload_n X.1 X.2.1 dX9_perform_58 rfl (lv_at hl 2 rfl) ?_
      exact mm_xi X I hr hlk dX9_perform_59 h
    · refine lv_aload_n X.1 X.2.1 dX9_perform_37 rfl (lv_at hl 0 rfl) ?_
      refine lv_aload_n X.1 X.2.1 dX9_perform_38 rfl (lv_at hl 1 rfl) ?_
      refine mm_rgr X I fl_X9_294 dX9_perform_39 h (fun v2 h => ?_)
      refine lv_iload_n X.1 X.2.1 dX9_perform_42 rfl (lv_at hl 2 rfl) ?_
      refine mm_rra X I dX9_perform_43 h (fun v3 h => ?_)
      refine lv_iconst (v := 0) X.1 X.2.1 dX9_perform_44 (by decide) ?_
      refine mm_cVi X I hl (As := [.ref v3, .int 0]) (ci := 9) md_X9_attempt mv_X9_attempt ml_X9_203 rfl (kX9_attempt (n := n)) (by decide) ⟨Nat.le_refl 0, Nat.le_refl 0⟩ rfl rfl (Nat.le_of_ble_eq_true rfl) dX9_perform_45 h (fun v4 M H locs I h => ?_)
      refine lv_iconst (v := (-1)) X.1 X.2.1 dX9_perform_48 (by decide) ?_
      refine mm_keq (tgt := 58) X dX9_perform_49 (by decide) h (fun h => ?_) (fun h => ?_)
      · refine lv_iload_n X.1 X.2.1 dX9_perform_58 rfl (lv_at hl 2 rfl) ?_
        exact mm_xi X I hr hlk dX9_perform_59 h
      · refine lv_iinc (v := (x3 + 1)) (lv' := [(3, .int (x3 + 1)), (0, .ref a0), (2, .ref a2)]) X.1 X.2.1 dX9_perform_52 hl (k := 2) rfl rfl (by decide) rfl (fun ls hl => ?_)
        refine lv_goto (tgt := 29) X.1 X.2.1 dX9_perform_55 (by decide) ?_
        exact ih M _ _ _ _ _ _ I (lv_sub hl [1, 2, 0] rfl) h
set_option maxHeartbeats 4000000 in
set_option maxRecDepth 100000 in
theorem kX9_perform {l : Launch} {D : va_G} {dA : Nat → ClassId} {lo : Nat} {n : Nat} {M : mm_M} {a0 : Nat} {x1 : Int32} (o : Int32 × mm_M) (h : pX9_perform n M a0 x1 = some o) : (∃ fs, M.2 a0 = some (mm_ob 9 fs)) ∧ mm_Met l D dA lo yX9_perform cX9_perform 4 (some .int) 6 154 0 0 [.ref a0, .int x1] M (some (.int o.1)) o.2 := by
  unfold pX9_perform at h
  obtain ⟨hob, h⟩ := mm_v_some h
  refine ⟨hob, mm_enter (by decide) (Nat.le_of_ble_eq_true rfl) (fun p e s m args below meth c ls X hr hlk hnm I hl => ?_)⟩
  have X : mm_C D dA lo cX9_perform RX9 4 p s m args c := X
  have hl : lv_has ls 4 [(0, .ref a0), (1, .int x1)] := hl
  refine lv_aload_n X.1 X.2.1 dX9_perform_0 rfl (lv_at hl 0 rfl) ?_
  refine lv_iload_n X.1 X.2.1 dX9_perform_1 rfl (lv_at hl 1 rfl) ?_
  refine mm_cVi X I hl (As := [.int x1]) (ci := 9) md_X9_hasScript mv_X9_hasScript ml_X9_290 rfl (kX9_hasScript (n := n)) (by decide) ⟨Nat.le_refl 0, Nat.le_refl 0⟩ rfl rfl (Nat.le_of_ble_eq_true rfl) dX9_perform_2 h (fun v1 M H locs I h => ?_)
  refine mm_jeq (tgt := 18) X dX9_perform_5 (by decide) h (fun h => ?_) (fun h => ?_)
  · refine lv_iconst (v := (-1)) X.1 X.2.1 dX9_perform_18 (by decide) ?_
    exact mm_xi X I hr hlk dX9_perform_19 h
  · refine lv_aload_n X.1 X.2.1 dX9_perform_8 rfl (lv_at hl 0 rfl) ?_
    refine mm_rgr X I fl_X9_60 dX9_perform_9 h (fun v2 h => ?_)
    refine mm_rgi X I fl_X9_120 dX9_perform_12 h (fun v3 h => ?_)
    refine mm_jne (tgt := 20) X dX9_perform_15 (by decide) h (fun h => ?_) (fun h => ?_)
    · refine lv_aload_n X.1 X.2.1 dX9_perform_20 rfl (lv_at hl 0 rfl) ?_
      refine mm_rgr X I fl_X9_52 dX9_perform_21 h (fun v4 h => ?_)
      refine lv_iload_n X.1 X.2.1 dX9_perform_24 rfl (lv_at hl 1 rfl) ?_
      refine mm_rra X I dX9_perform_25 h (fun v5 h => ?_)
      refine lv_astore_n (lv' := [(2, .ref v5), (0, .ref a0), (1, .int x1)]) X.1 X.2.1 dX9_perform_26 rfl hl (by decide) rfl (fun ls hl => ?_)
      refine lv_iconst (v := 0) X.1 X.2.1 dX9_perform_27 (by decide) ?_
      refine lv_istore_n (lv' := [(3, .int 0), (2, .ref v5), (0, .ref a0), (1, .int x1)]) X.1 X.2.1 dX9_perform_28 rfl hl (by decide) rfl (fun ls hl => ?_)
      exact wpX9_perform_l29 X hr hlk n  n M _ _ _ _ _ _ I (lv_sub hl [2, 1, 0] rfl) h
    · refine lv_iconst (v := (-1)) X.1 X.2.1 dX9_perform_18 (by decide) ?_
      exact mm_xi X I hr hlk dX9_perform_19 h
set_option maxHeartbeats 4000000 in
set_option maxRecDepth 100000 in
theorem wpX9_unlikeSigns_l31 {p : Program} {l : Launch} {e : Env} {s : State} {m : MethodId} {args : Array Value} {below : List Frame} {meth : Method} {c : Code} {D : va_G} {dA : Nat → ClassId} {lo : Nat} (X : mm_C D dA lo cX9_unlikeSigns RX9 5 p s m args c) (hr : meth.sig.returnType = (some .int)) (hlk : meth.locks = false) (n : Nat) {o : Int32 × mm_M} {K4 : mm_M → Nat → Int32 → Int32 → Option (Int32 × mm_M)} (k4 : ∀ (M : mm_M) (a0 : Nat) (x1 : Int32) (x2 : Int32) (H : Heap) (locs : List Loc) (ls : Array Slot), mm_I D dA lo s M H locs → lv_has ls 5 [(0, .ref a0), (1, .int x1), (2, .int x2)] → K4 M a0 x1 x2 = some o → W p l e (mm_rm 1 21 0 0) s m args below meth c H locs 0 0 (MQ below (mm_Q D dA lo (some (.int o.1)) o.2) args s 0 0 (mm_fr lo)) (F0 m 4 ls [])) (k : Nat) : ∀ (M : mm_M) (a0 : Nat) (x1 : Int32) (x2 : Int32) (a3 : Nat) (x4 : Int32) (H : Heap) (locs : List Loc) (ls : Array Slot), mm_I D dA lo s M H locs → lv_has ls 5 [(0, .ref a0), (1, .int x1), (2, .int x2), (3, .ref a3), (4, .int x4)] → pX9_unlikeSigns_l31 n K4 k M a0 x1 x2 a3 x4 = some o → W p l e (mm_rm 1 21 0 0) s m args below meth c H locs 0 0 (MQ below (mm_Q D dA lo (some (.int o.1)) o.2) args s 0 0 (mm_fr lo)) (F0 m 31 ls []) := by
  induction k with
  | zero =>
    intro M a0 x1 x2 a3 x4 H locs ls I hl h
    have h : (none : Option (Int32 × mm_M)) = some o := h
    cases h
  | succ k ih =>
    intro M a0 x1 x2 a3 x4 H locs ls I hl h
    have h : pX9_unlikeSigns_l31b n K4 (pX9_unlikeSigns_l31 n K4 k) M a0 x1 x2 a3 x4 = some o := h
    unfold pX9_unlikeSigns_l31b at h
    refine lv_iload X.1 X.2.1 dX9_unlikeSigns_31 (lv_at hl 4 rfl) ?_
    refine lv_aload_n X.1 X.2.1 dX9_unlikeSigns_33 rfl (lv_at hl 3 rfl) ?_
    refine mm_rgi X I fl_X9_109 dX9_unlikeSigns_34 h (fun v1 h => ?_)
    refine mm_kge (tgt := 60) X dX9_unlikeSigns_37 (by decide) h (fun h => ?_) (fun h => ?_)
    · refine lv_iinc (v := (x2 + 1)) (lv' := [(2, .int (x2 + 1)), (0, .ref a0), (1, .int x1), (3, .ref a3), (4, .int x4)]) X.1 X.2.1 dX9_unlikeSigns_60 hl (k := 2) rfl rfl (by decide) rfl (fun ls hl => ?_)
      refine lv_goto (tgt := 4) X.1 X.2.1 dX9_unlikeSigns_63 (by decide) ?_
      exact k4 M _ _ _ _ _ _ I (lv_sub hl [1, 2, 0] rfl) h
    · refine lv_iload_n X.1 X.2.1 dX9_unlikeSigns_40 rfl (lv_at hl 1 rfl) ?_
      refine lv_iconst (v := 1) X.1 X.2.1 dX9_unlikeSigns_41 (by decide) ?_
      refine lv_aload_n X.1 X.2.1 dX9_unlikeSigns_42 rfl (lv_at hl 3 rfl) ?_
      refine lv_iload X.1 X.2.1 dX9_unlikeSigns_43 (lv_at hl 4 rfl) ?_
      refine mm_cVi X I hl (As := [.int x4]) (ci := 5) md_X5_at mv_X5_at ml_X9_152 rfl (kX5_at (n := n)) (by decide) ⟨Nat.le_refl 0, Nat.le_refl 0⟩ rfl rfl (Nat.le_of_ble_eq_true rfl) dX9_unlikeSigns_45 h (fun v2 M H locs I h => ?_)
      refine mm_cSi X I hl (As := [.int v2]) md_X9_signIndex mv_X9_signIndex ml_X9_196 (kX9_signIndex (n := n)) (by decide) ⟨Nat.le_refl 0, Nat.le_refl 0⟩ rfl rfl (Nat.le_of_ble_eq_true rfl) dX9_unlikeSigns_48 h (fun v3 M H locs I h => ?_)
      refine lv_ishl X.1 X.2.1 dX9_unlikeSigns_51 ?_
      refine lv_ior X.1 X.2.1 dX9_unlikeSigns_52 ?_
      refine lv_istore_n (lv' := [(1, .int (x1 ||| (1 <<< (v3 &&& 31)))), (0, .ref a0), (2, .int x2), (3, .ref a3), (4, .int x4)]) X.1 X.2.1 dX9_unlikeSigns_53 rfl hl (by decide) rfl (fun ls hl => ?_)
      refine lv_iinc (v := (x4 + 1)) (lv' := [(4, .int (x4 + 1)), (1, .int (x1 ||| (1 <<< (v3 &&& 31)))), (0, .ref a0), (2, .int x2), (3, .ref a3)]) X.1 X.2.1 dX9_unlikeSigns_54 hl (k := 4) rfl rfl (by decide) rfl (fun ls hl => ?_)
      refine lv_goto (tgt := 31) X.1 X.2.1 dX9_unlikeSigns_57 (by decide) ?_
      exact ih M _ _ _ _ _ _ _ _ I (lv_sub hl [2, 1, 3, 4, 0] rfl) h
set_option maxHeartbeats 4000000 in
set_option maxRecDepth 100000 in
theorem wpX9_unlikeSigns_l4 {p : Program} {l : Launch} {e : Env} {s : State} {m : MethodId} {args : Array Value} {below : List Frame} {meth : Method} {c : Code} {D : va_G} {dA : Nat → ClassId} {lo : Nat} (X : mm_C D dA lo cX9_unlikeSigns RX9 5 p s m args c) (hr : meth.sig.returnType = (some .int)) (hlk : meth.locks = false) (n : Nat) {o : Int32 × mm_M} (k : Nat) : ∀ (M : mm_M) (a0 : Nat) (x1 : Int32) (x2 : Int32) (H : Heap) (locs : List Loc) (ls : Array Slot), mm_I D dA lo s M H locs → lv_has ls 5 [(0, .ref a0), (1, .int x1), (2, .int x2)] → pX9_unlikeSigns_l4 n k M a0 x1 x2 = some o → W p l e (mm_rm 1 21 0 0) s m args below meth c H locs 0 0 (MQ below (mm_Q D dA lo (some (.int o.1)) o.2) args s 0 0 (mm_fr lo)) (F0 m 4 ls []) := by
  induction k with
  | zero =>
    intro M a0 x1 x2 H locs ls I hl h
    have h : (none : Option (Int32 × mm_M)) = some o := h
    cases h
  | succ k ih =>
    intro M a0 x1 x2 H locs ls I hl h
    have h : pX9_unlikeSigns_l4b n (pX9_unlikeSigns_l4 n k) M a0 x1 x2 = some o := h
    unfold pX9_unlikeSigns_l4b at h
    refine lv_iload_n X.1 X.2.1 dX9_unlikeSigns_4 rfl (lv_at hl 2 rfl) ?_
    refine lv_aload_n X.1 X.2.1 dX9_unlikeSigns_5 rfl (lv_at hl 0 rfl) ?_
    refine mm_rgr X I fl_X9_60 dX9_unlikeSigns_6 h (fun v1 h => ?_)
    refine mm_rgi X I fl_X9_120 dX9_unlikeSigns_9 h (fun v2 h => ?_)
    refine mm_kge (tgt := 66) X dX9_unlikeSigns_12 (by decide) h (fun h => ?_) (fun h => ?_)
    · refine lv_iload_n X.1 X.2.1 dX9_unlikeSigns_66 rfl (lv_at hl 1 rfl) ?_
      refine mm_cSi X I hl (As := [.int x1]) md_J_bitCount mv_J_bitCount ml_X9_332 (kJ_bitCount (n := n)) (by decide) ⟨Nat.le_refl 0, Nat.le_refl 0⟩ rfl rfl (Nat.le_of_ble_eq_true rfl) dX9_unlikeSigns_67 h (fun v3 M H locs I h => ?_)
      exact mm_xi X I hr hlk dX9_unlikeSigns_70 h
    · refine lv_aload_n X.1 X.2.1 dX9_unlikeSigns_15 rfl (lv_at hl 0 rfl) ?_
      refine mm_rgr X I fl_X9_60 dX9_unlikeSigns_16 h (fun v4 h => ?_)
      refine mm_rgr X I fl_X9_140 dX9_unlikeSigns_19 h (fun v5 h => ?_)
      refine lv_iload_n X.1 X.2.1 dX9_unlikeSigns_22 rfl (lv_at hl 2 rfl) ?_
      refine mm_rra X I dX9_unlikeSigns_23 h (fun v6 h => ?_)
      refine mm_rgr X I fl_X9_149 dX9_unlikeSigns_24 h (fun v7 h => ?_)
      refine lv_astore_n (lv' := [(3, .ref v7), (0, .ref a0), (1, .int x1), (2, .int x2)]) X.1 X.2.1 dX9_unlikeSigns_27 rfl hl (by decide) rfl (fun ls hl => ?_)
      refine lv_iconst (v := 0) X.1 X.2.1 dX9_unlikeSigns_28 (by decide) ?_
      refine lv_istore (lv' := [(4, .int 0), (3, .ref v7), (0, .ref a0), (1, .int x1), (2, .int x2)]) X.1 X.2.1 dX9_unlikeSigns_29 hl (by decide) rfl (fun ls hl => ?_)
      exact wpX9_unlikeSigns_l31 X hr hlk n ih n M _ _ _ _ _ _ _ _ I (lv_sub hl [2, 3, 4, 1, 0] rfl) h
set_option maxHeartbeats 4000000 in
set_option maxRecDepth 100000 in
theorem kX9_unlikeSigns {l : Launch} {D : va_G} {dA : Nat → ClassId} {lo : Nat} {n : Nat} {M : mm_M} {a0 : Nat} (o : Int32 × mm_M) (h : pX9_unlikeSigns n M a0 = some o) : (∃ fs, M.2 a0 = some (mm_ob 9 fs)) ∧ mm_Met l D dA lo yX9_unlikeSigns cX9_unlikeSigns 5 (some .int) 1 21 0 0 [.ref a0] M (some (.int o.1)) o.2 := by
  unfold pX9_unlikeSigns at h
  obtain ⟨hob, h⟩ := mm_v_some h
  refine ⟨hob, mm_enter (by decide) (Nat.le_of_ble_eq_true rfl) (fun p e s m args below meth c ls X hr hlk hnm I hl => ?_)⟩
  have X : mm_C D dA lo cX9_unlikeSigns RX9 5 p s m args c := X
  have hl : lv_has ls 5 [(0, .ref a0)] := hl
  refine lv_iconst (v := 0) X.1 X.2.1 dX9_unlikeSigns_0 (by decide) ?_
  refine lv_istore_n (lv' := [(1, .int 0), (0, .ref a0)]) X.1 X.2.1 dX9_unlikeSigns_1 rfl hl (by decide) rfl (fun ls hl => ?_)
  refine lv_iconst (v := 0) X.1 X.2.1 dX9_unlikeSigns_2 (by decide) ?_
  refine lv_istore_n (lv' := [(2, .int 0), (1, .int 0), (0, .ref a0)]) X.1 X.2.1 dX9_unlikeSigns_3 rfl hl (by decide) rfl (fun ls hl => ?_)
  exact wpX9_unlikeSigns_l4 X hr hlk n  n M _ _ _ _ _ _ I (lv_sub hl [2, 1, 0] rfl) h
set_option maxHeartbeats 4000000 in
set_option maxRecDepth 100000 in
theorem kX9_most {l : Launch} {D : va_G} {dA : Nat → ClassId} {lo : Nat} {n : Nat} {M : mm_M} {a0 : Nat} {x1 : Int32} (o : Int32 × mm_M) (h : pX9_most n M a0 x1 = some o) : (∃ fs, M.2 a0 = some (mm_ob 9 fs)) ∧ mm_Met l D dA lo yX9_most cX9_most 2 (some .int) 5 126 0 0 [.ref a0, .int x1] M (some (.int o.1)) o.2 := by
  unfold pX9_most at h
  obtain ⟨hob, h⟩ := mm_v_some h
  refine ⟨hob, mm_enter (by decide) (Nat.le_of_ble_eq_true rfl) (fun p e s m args below meth c ls X hr hlk hnm I hl => ?_)⟩
  have X : mm_C D dA lo cX9_most RX9 2 p s m args c := X
  have hl : lv_has ls 2 [(0, .ref a0), (1, .int x1)] := hl
  refine lv_aload_n X.1 X.2.1 dX9_most_0 rfl (lv_at hl 0 rfl) ?_
  refine mm_rgr X I fl_X9_60 dX9_most_1 h (fun v1 h => ?_)
  refine mm_rgi X I fl_X9_120 dX9_most_4 h (fun v2 h => ?_)
  refine mm_jne (tgt := 13) X dX9_most_7 (by decide) h (fun h => ?_) (fun h => ?_)
  · refine lv_iload_n X.1 X.2.1 dX9_most_13 rfl (lv_at hl 1 rfl) ?_
    by_cases z3_0 : x1 = 0
    · have h := mm_t z3_0 h
      refine lv_tableIn (tgt := 56) (off := 42) X.1 X.2.1 dX9_most_14 (by rw [z3_0]; decide) (by rw [z3_0]; decide) (by rw [z3_0]; rfl) (by decide) ?_
      refine lv_aload_n X.1 X.2.1 dX9_most_56 rfl (lv_at hl 0 rfl) ?_
      refine mm_rgr X I fl_X9_60 dX9_most_57 h (fun v4 h => ?_)
      refine mm_cVi X I hl (As := []) (ci := 6) md_X6_longestLine mv_X6_longestLine ml_X9_314 rfl (kX6_longestLine (n := n)) (by decide) ⟨Nat.le_refl 0, Nat.le_refl 0⟩ rfl rfl (Nat.le_of_ble_eq_true rfl) dX9_most_60 h (fun v5 M H locs I h => ?_)
      exact mm_xi X I hr hlk dX9_most_63 h
    · have h := mm_f z3_0 h
      by_cases z3_1 : x1 = 1
      · have h := mm_t z3_1 h
        refine lv_tableIn (tgt := 64) (off := 50) X.1 X.2.1 dX9_most_14 (by rw [z3_1]; decide) (by rw [z3_1]; decide) (by rw [z3_1]; rfl) (by decide) ?_
        refine lv_aload_n X.1 X.2.1 dX9_most_64 rfl (lv_at hl 0 rfl) ?_
        refine mm_rgr X I fl_X9_60 dX9_most_65 h (fun v6 h => ?_)
        refine mm_cVi X I hl (As := []) (ci := 6) md_X6_shortestLine mv_X6_shortestLine ml_X9_317 rfl (kX6_shortestLine (n := n)) (by decide) ⟨Nat.le_refl 0, Nat.le_refl 0⟩ rfl rfl (Nat.le_of_ble_eq_true rfl) dX9_most_68 h (fun v7 M H locs I h => ?_)
        exact mm_xi X I hr hlk dX9_most_71 h
      · have h := mm_f z3_1 h
        by_cases z3_2 : x1 = 2
        · have h := mm_t z3_2 h
          refine lv_tableIn (tgt := 72) (off := 58) X.1 X.2.1 dX9_most_14 (by rw [z3_2]; decide) (by rw [z3_2]; decide) (by rw [z3_2]; rfl) (by decide) ?_
          refine lv_aload_n X.1 X.2.1 dX9_most_72 rfl (lv_at hl 0 rfl) ?_
          refine mm_cVi X I hl (As := []) (ci := 9) md_X9_unlikeSigns mv_X9_unlikeSigns ml_X9_320 rfl (kX9_unlikeSigns (n := n)) (by decide) ⟨Nat.le_refl 0, Nat.le_refl 0⟩ rfl rfl (Nat.le_of_ble_eq_true rfl) dX9_most_73 h (fun v8 M H locs I h => ?_)
          exact mm_xi X I hr hlk dX9_most_76 h
        · have h := mm_f z3_2 h
          by_cases z3_3 : x1 = 3
          · have h := mm_t z3_3 h
            refine lv_tableIn (tgt := 77) (off := 63) X.1 X.2.1 dX9_most_14 (by rw [z3_3]; decide) (by rw [z3_3]; decide) (by rw [z3_3]; rfl) (by decide) ?_
            refine lv_iconst (v := 0) X.1 X.2.1 dX9_most_77 (by decide) ?_
            refine lv_aload_n X.1 X.2.1 dX9_most_78 rfl (lv_at hl 0 rfl) ?_
            refine mm_cVr X I hl (As := []) (ci := 9) md_X9_rankedPlaces mv_X9_rankedPlaces ml_X9_172 rfl (kX9_rankedPlaces (n := n)) (by decide) ⟨Nat.le_refl 0, Nat.le_refl 0⟩ rfl rfl (Nat.le_of_ble_eq_true rfl) dX9_most_79 h (fun v9 M H locs I h => ?_)
            refine lv_aload_n X.1 X.2.1 dX9_most_82 rfl (lv_at hl 0 rfl) ?_
            refine mm_cVr X I hl (As := []) (ci := 9) md_X9_rankedPlaces mv_X9_rankedPlaces ml_X9_172 rfl (kX9_rankedPlaces (n := n)) (by decide) ⟨Nat.le_refl 0, Nat.le_refl 0⟩ rfl rfl (Nat.le_of_ble_eq_true rfl) dX9_most_83 h (fun v10 M H locs I h => ?_)
            refine mm_cVi X I hl (As := []) (ci := 3) md_X3_mostShared mv_X3_mostShared ml_X9_178 rfl (kX3_mostShared (n := n)) (by decide) ⟨Nat.le_refl 0, Nat.le_refl 0⟩ rfl rfl (Nat.le_of_ble_eq_true rfl) dX9_most_86 h (fun v11 M H locs I h => ?_)
            refine mm_cVi X I hl (As := [.int v11]) (ci := 3) md_X3_shared mv_X3_shared ml_X9_175 rfl (kX3_shared (n := n)) (by decide) ⟨Nat.le_refl 0, Nat.le_refl 0⟩ rfl rfl (Nat.le_of_ble_eq_true rfl) dX9_most_89 h (fun v12 M H locs I h => ?_)
            refine mm_rmax X hl ml_X9_191 (by decide) (Nat.le_of_ble_eq_true rfl) (by decide) (by decide) dX9_most_92 ?_
            exact mm_xi X I hr hlk dX9_most_95 h
          · have h := mm_f z3_3 h
            by_cases z3_4 : x1 = 4
            · have h := mm_t z3_4 h
              refine lv_tableIn (tgt := 96) (off := 82) X.1 X.2.1 dX9_most_14 (by rw [z3_4]; decide) (by rw [z3_4]; decide) (by rw [z3_4]; rfl) (by decide) ?_
              refine lv_aload_n X.1 X.2.1 dX9_most_96 rfl (lv_at hl 0 rfl) ?_
              refine mm_rgr X I fl_X9_60 dX9_most_97 h (fun v13 h => ?_)
              refine mm_cVi X I hl (As := []) (ci := 6) md_X6_risingLines mv_X6_risingLines ml_X9_323 rfl (kX6_risingLines (n := n)) (by decide) ⟨Nat.le_refl 0, Nat.le_refl 0⟩ rfl rfl (Nat.le_of_ble_eq_true rfl) dX9_most_100 h (fun v14 M H locs I h => ?_)
              exact mm_xi X I hr hlk dX9_most_103 h
            · have h := mm_f z3_4 h
              by_cases z3_5 : x1 = 5
              · have h := mm_t z3_5 h
                refine lv_tableIn (tgt := 104) (off := 90) X.1 X.2.1 dX9_most_14 (by rw [z3_5]; decide) (by rw [z3_5]; decide) (by rw [z3_5]; rfl) (by decide) ?_
                refine lv_aload_n X.1 X.2.1 dX9_most_104 rfl (lv_at hl 0 rfl) ?_
                refine mm_rgr X I fl_X9_60 dX9_most_105 h (fun v15 h => ?_)
                refine mm_cVi X I hl (As := []) (ci := 6) md_X6_laidBits mv_X6_laidBits ml_X9_326 rfl (kX6_laidBits (n := n)) (by decide) ⟨Nat.le_refl 0, Nat.le_refl 0⟩ rfl rfl (Nat.le_of_ble_eq_true rfl) dX9_most_108 h (fun v16 M H locs I h => ?_)
                exact mm_xi X I hr hlk dX9_most_111 h
              · have h := mm_f z3_5 h
                by_cases z3_6 : x1 = 6
                · have h := mm_t z3_6 h
                  refine lv_tableIn (tgt := 112) (off := 98) X.1 X.2.1 dX9_most_14 (by rw [z3_6]; decide) (by rw [z3_6]; decide) (by rw [z3_6]; rfl) (by decide) ?_
                  refine lv_aload_n X.1 X.2.1 dX9_most_112 rfl (lv_at hl 0 rfl) ?_
                  refine mm_rgr X I fl_X9_60 dX9_most_113 h (fun v17 h => ?_)
                  refine mm_cVi X I hl (As := []) (ci := 6) md_X6_withinBits mv_X6_withinBits ml_X9_329 rfl (kX6_withinBits (n := n)) (by decide) ⟨Nat.le_refl 0, Nat.le_refl 0⟩ rfl rfl (Nat.le_of_ble_eq_true rfl) dX9_most_116 h (fun v18 M H locs I h => ?_)
                  exact mm_xi X I hr hlk dX9_most_119 h
                · have h := mm_f z3_6 h
                  have z3_q0 : ¬ Int32.toInt x1 = 0 := fun q => z3_0 (Int32.toInt_inj.mp q)
                  have z3_q1 : ¬ Int32.toInt x1 = 1 := fun q => z3_1 (Int32.toInt_inj.mp q)
                  have z3_q2 : ¬ Int32.toInt x1 = 2 := fun q => z3_2 (Int32.toInt_inj.mp q)
                  have z3_q3 : ¬ Int32.toInt x1 = 3 := fun q => z3_3 (Int32.toInt_inj.mp q)
                  have z3_q4 : ¬ Int32.toInt x1 = 4 := fun q => z3_4 (Int32.toInt_inj.mp q)
                  have z3_q5 : ¬ Int32.toInt x1 = 5 := fun q => z3_5 (Int32.toInt_inj.mp q)
                  have z3_q6 : ¬ Int32.toInt x1 = 6 := fun q => z3_6 (Int32.toInt_inj.mp q)
                  refine mm_tdef (tgt := 120) X dX9_most_14 (by decide) (fun i hi hq => ?_) (by decide) ?_
                  · rcases (show i = 0 ∨ i = 1 ∨ i = 2 ∨ i = 3 ∨ i = 4 ∨ i = 5 ∨ i = 6 by simp at hi; omega) with rfl | rfl | rfl | rfl | rfl | rfl | rfl
                    · exact absurd hq (by omega)
                    · exact absurd hq (by omega)
                    · exact absurd hq (by omega)
                    · exact absurd hq (by omega)
                    · exact absurd hq (by omega)
                    · exact absurd hq (by omega)
                    · exact absurd hq (by omega)
                  · refine lv_ldc (v := (-1000000)) X.1 X.2.1 X.2.2.2.1 (X.2.2.2.2.1 _ cn_X9_210) dX9_most_120 ?_
                    exact mm_xi X I hr hlk dX9_most_122 h
  · refine lv_ldc (v := (-1000000)) X.1 X.2.1 X.2.2.2.1 (X.2.2.2.2.1 _ cn_X9_210) dX9_most_10 ?_
    exact mm_xi X I hr hlk dX9_most_12 h
set_option maxHeartbeats 4000000 in
set_option maxRecDepth 100000 in
theorem kX9_image {l : Launch} {D : va_G} {dA : Nat → ClassId} {lo : Nat} {n : Nat} {M : mm_M} {a0 : Nat} (o : Int32 × mm_M) (h : pX9_image n M a0 = some o) : (∃ fs, M.2 a0 = some (mm_ob 9 fs)) ∧ mm_Met l D dA lo yX9_image cX9_image 1 (some .int) 5 125 0 0 [.ref a0] M (some (.int o.1)) o.2 := by
  unfold pX9_image at h
  obtain ⟨hob, h⟩ := mm_v_some h
  refine ⟨hob, mm_enter (by decide) (Nat.le_of_ble_eq_true rfl) (fun p e s m args below meth c ls X hr hlk hnm I hl => ?_)⟩
  have X : mm_C D dA lo cX9_image RX9 1 p s m args c := X
  have hl : lv_has ls 1 [(0, .ref a0)] := hl
  refine lv_aload_n X.1 X.2.1 dX9_image_0 rfl (lv_at hl 0 rfl) ?_
  refine mm_rgr X I fl_X9_60 dX9_image_1 h (fun v1 h => ?_)
  refine mm_rgi X I fl_X9_120 dX9_image_4 h (fun v2 h => ?_)
  refine mm_jne (tgt := 12) X dX9_image_7 (by decide) h (fun h => ?_) (fun h => ?_)
  · refine lv_aload_n X.1 X.2.1 dX9_image_12 rfl (lv_at hl 0 rfl) ?_
    refine mm_rgr X I fl_X9_23 dX9_image_13 h (fun v3 h => ?_)
    refine lv_aload_n X.1 X.2.1 dX9_image_16 rfl (lv_at hl 0 rfl) ?_
    refine mm_rgr X I fl_X9_60 dX9_image_17 h (fun v4 h => ?_)
    refine mm_cVv X I hl (As := [.ref v4]) (ci := 6) md_X6_copyFrom mv_X6_copyFrom ml_X9_106 rfl (kX6_copyFrom (n := n)) (by decide) ⟨Nat.le_refl 0, Nat.le_refl 0⟩ rfl rfl (Nat.le_of_ble_eq_true rfl) dX9_image_20 h (fun M H locs I h => ?_)
    refine lv_aload_n X.1 X.2.1 dX9_image_23 rfl (lv_at hl 0 rfl) ?_
    refine lv_iconst (v := 1) X.1 X.2.1 dX9_image_24 (by decide) ?_
    refine mm_rpz X I fl_X9_113 dX9_image_25 h (fun M H locs I h => ?_)
    refine lv_aload_n X.1 X.2.1 dX9_image_28 rfl (lv_at hl 0 rfl) ?_
    refine mm_rgr X I fl_X9_60 dX9_image_29 h (fun v6 h => ?_)
    refine mm_cVi X I hl (As := []) (ci := 6) md_X6_allSigns mv_X6_allSigns ml_X9_131 rfl (kX6_allSigns (n := n)) (by decide) ⟨Nat.le_refl 0, Nat.le_refl 0⟩ rfl rfl (Nat.le_of_ble_eq_true rfl) dX9_image_32 h (fun v7 M H locs I h => ?_)
    exact mm_xi X I hr hlk dX9_image_35 h
  · refine lv_iconst (v := (-1)) X.1 X.2.1 dX9_image_10 (by decide) ?_
    exact mm_xi X I hr hlk dX9_image_11 h
set_option maxHeartbeats 4000000 in
set_option maxRecDepth 100000 in
theorem kX9_back {l : Launch} {D : va_G} {dA : Nat → ClassId} {lo : Nat} {n : Nat} {M : mm_M} {a0 : Nat} (o : Int32 × mm_M) (h : pX9_back n M a0 = some o) : (∃ fs, M.2 a0 = some (mm_ob 9 fs)) ∧ mm_Met l D dA lo yX9_back cX9_back 1 (some .int) 5 125 0 0 [.ref a0] M (some (.int o.1)) o.2 := by
  unfold pX9_back at h
  obtain ⟨hob, h⟩ := mm_v_some h
  refine ⟨hob, mm_enter (by decide) (Nat.le_of_ble_eq_true rfl) (fun p e s m args below meth c ls X hr hlk hnm I hl => ?_)⟩
  have X : mm_C D dA lo cX9_back RX9 1 p s m args c := X
  have hl : lv_has ls 1 [(0, .ref a0)] := hl
  refine lv_aload_n X.1 X.2.1 dX9_back_0 rfl (lv_at hl 0 rfl) ?_
  refine mm_rgi X I fl_X9_113 dX9_back_1 h (fun v1 h => ?_)
  refine mm_jne (tgt := 9) X dX9_back_4 (by decide) h (fun h => ?_) (fun h => ?_)
  · refine lv_aload_n X.1 X.2.1 dX9_back_9 rfl (lv_at hl 0 rfl) ?_
    refine mm_rgr X I fl_X9_60 dX9_back_10 h (fun v2 h => ?_)
    refine lv_aload_n X.1 X.2.1 dX9_back_13 rfl (lv_at hl 0 rfl) ?_
    refine mm_rgr X I fl_X9_23 dX9_back_14 h (fun v3 h => ?_)
    refine mm_cVv X I hl (As := [.ref v3]) (ci := 6) md_X6_copyFrom mv_X6_copyFrom ml_X9_106 rfl (kX6_copyFrom (n := n)) (by decide) ⟨Nat.le_refl 0, Nat.le_refl 0⟩ rfl rfl (Nat.le_of_ble_eq_true rfl) dX9_back_17 h (fun M H locs I h => ?_)
    refine lv_aload_n X.1 X.2.1 dX9_back_20 rfl (lv_at hl 0 rfl) ?_
    refine lv_iconst (v := 0) X.1 X.2.1 dX9_back_21 (by decide) ?_
    refine mm_rpi X I fl_X9_110 dX9_back_22 h (fun M H locs I h => ?_)
    refine lv_aload_n X.1 X.2.1 dX9_back_25 rfl (lv_at hl 0 rfl) ?_
    refine mm_cVv X I hl (As := []) (ci := 9) md_X9_forgetRankings mv_X9_forgetRankings ml_X9_117 rfl (kX9_forgetRankings (n := n)) (by decide) ⟨Nat.le_refl 0, Nat.le_refl 0⟩ rfl rfl (Nat.le_of_ble_eq_true rfl) dX9_back_26 h (fun M H locs I h => ?_)
    refine lv_aload_n X.1 X.2.1 dX9_back_29 rfl (lv_at hl 0 rfl) ?_
    refine mm_rgr X I fl_X9_60 dX9_back_30 h (fun v6 h => ?_)
    refine mm_cVi X I hl (As := []) (ci := 6) md_X6_allSigns mv_X6_allSigns ml_X9_131 rfl (kX6_allSigns (n := n)) (by decide) ⟨Nat.le_refl 0, Nat.le_refl 0⟩ rfl rfl (Nat.le_of_ble_eq_true rfl) dX9_back_33 h (fun v7 M H locs I h => ?_)
    exact mm_xi X I hr hlk dX9_back_36 h
  · refine lv_iconst (v := (-1)) X.1 X.2.1 dX9_back_7 (by decide) ?_
    exact mm_xi X I hr hlk dX9_back_8 h
set_option maxHeartbeats 4000000 in
set_option maxRecDepth 100000 in
theorem kX9_count {l : Launch} {D : va_G} {dA : Nat → ClassId} {lo : Nat} {n : Nat} {M : mm_M} {a0 : Nat} {x1 : Int32} (o : Int32 × mm_M) (h : pX9_count n M a0 x1 = some o) : (∃ fs, M.2 a0 = some (mm_ob 9 fs)) ∧ mm_Met l D dA lo yX9_count cX9_count 2 (some .int) 2 50 0 0 [.ref a0, .int x1] M (some (.int o.1)) o.2 := by
  unfold pX9_count at h
  obtain ⟨hob, h⟩ := mm_v_some h
  refine ⟨hob, mm_enter (by decide) (Nat.le_of_ble_eq_true rfl) (fun p e s m args below meth c ls X hr hlk hnm I hl => ?_)⟩
  have X : mm_C D dA lo cX9_count RX9 2 p s m args c := X
  have hl : lv_has ls 2 [(0, .ref a0), (1, .int x1)] := hl
  refine lv_iload_n X.1 X.2.1 dX9_count_0 rfl (lv_at hl 1 rfl) ?_
  by_cases z1_0 : x1 = 0
  · have h := mm_t z1_0 h
    refine lv_tableIn (tgt := 40) (off := 39) X.1 X.2.1 dX9_count_1 (by rw [z1_0]; decide) (by rw [z1_0]; decide) (by rw [z1_0]; rfl) (by decide) ?_
    refine lv_aload_n X.1 X.2.1 dX9_count_40 rfl (lv_at hl 0 rfl) ?_
    refine mm_rgr X I fl_X9_60 dX9_count_41 h (fun v2 h => ?_)
    refine mm_rgi X I fl_X9_120 dX9_count_44 h (fun v3 h => ?_)
    exact mm_xi X I hr hlk dX9_count_47 h
  · have h := mm_f z1_0 h
    by_cases z1_1 : x1 = 1
    · have h := mm_t z1_1 h
      refine lv_tableIn (tgt := 48) (off := 47) X.1 X.2.1 dX9_count_1 (by rw [z1_1]; decide) (by rw [z1_1]; decide) (by rw [z1_1]; rfl) (by decide) ?_
      refine lv_aload_n X.1 X.2.1 dX9_count_48 rfl (lv_at hl 0 rfl) ?_
      refine mm_rgi X I fl_X9_88 dX9_count_49 h (fun v4 h => ?_)
      exact mm_xi X I hr hlk dX9_count_52 h
    · have h := mm_f z1_1 h
      by_cases z1_2 : x1 = 2
      · have h := mm_t z1_2 h
        refine lv_tableIn (tgt := 53) (off := 52) X.1 X.2.1 dX9_count_1 (by rw [z1_2]; decide) (by rw [z1_2]; decide) (by rw [z1_2]; rfl) (by decide) ?_
        refine lv_aload_n X.1 X.2.1 dX9_count_53 rfl (lv_at hl 0 rfl) ?_
        refine mm_rgr X I fl_X9_10 dX9_count_54 h (fun v5 h => ?_)
        refine mm_rgi X I fl_X9_76 dX9_count_57 h (fun v6 h => ?_)
        exact mm_xi X I hr hlk dX9_count_60 h
      · have h := mm_f z1_2 h
        by_cases z1_3 : x1 = 3
        · have h := mm_t z1_3 h
          refine lv_tableIn (tgt := 61) (off := 60) X.1 X.2.1 dX9_count_1 (by rw [z1_3]; decide) (by rw [z1_3]; decide) (by rw [z1_3]; rfl) (by decide) ?_
          refine lv_aload_n X.1 X.2.1 dX9_count_61 rfl (lv_at hl 0 rfl) ?_
          refine mm_rgr X I fl_X9_60 dX9_count_62 h (fun v7 h => ?_)
          refine mm_rgr X I fl_X9_273 dX9_count_65 h (fun v8 h => ?_)
          refine mm_cVi X I hl (As := []) (ci := 1) md_X1_size mv_X1_size ml_X9_337 rfl (kX1_size (n := n)) (by decide) ⟨Nat.le_refl 0, Nat.le_refl 0⟩ rfl rfl (Nat.le_of_ble_eq_true rfl) dX9_count_68 h (fun v9 M H locs I h => ?_)
          exact mm_xi X I hr hlk dX9_count_71 h
        · have h := mm_f z1_3 h
          by_cases z1_4 : x1 = 4
          · have h := mm_t z1_4 h
            refine lv_tableIn (tgt := 72) (off := 71) X.1 X.2.1 dX9_count_1 (by rw [z1_4]; decide) (by rw [z1_4]; decide) (by rw [z1_4]; rfl) (by decide) ?_
            refine lv_aload_n X.1 X.2.1 dX9_count_72 rfl (lv_at hl 0 rfl) ?_
            refine mm_rgi X I fl_X9_110 dX9_count_73 h (fun v10 h => ?_)
            exact mm_xi X I hr hlk dX9_count_76 h
          · have h := mm_f z1_4 h
            by_cases z1_5 : x1 = 5
            · have h := mm_t z1_5 h
              refine lv_tableIn (tgt := 77) (off := 76) X.1 X.2.1 dX9_count_1 (by rw [z1_5]; decide) (by rw [z1_5]; decide) (by rw [z1_5]; rfl) (by decide) ?_
              refine lv_aload_n X.1 X.2.1 dX9_count_77 rfl (lv_at hl 0 rfl) ?_
              refine mm_rgr X I fl_X9_60 dX9_count_78 h (fun v11 h => ?_)
              refine mm_rgi X I fl_X9_339 dX9_count_81 h (fun v12 h => ?_)
              exact mm_xi X I hr hlk dX9_count_84 h
            · have h := mm_f z1_5 h
              have z1_q0 : ¬ Int32.toInt x1 = 0 := fun q => z1_0 (Int32.toInt_inj.mp q)
              have z1_q1 : ¬ Int32.toInt x1 = 1 := fun q => z1_1 (Int32.toInt_inj.mp q)
              have z1_q2 : ¬ Int32.toInt x1 = 2 := fun q => z1_2 (Int32.toInt_inj.mp q)
              have z1_q3 : ¬ Int32.toInt x1 = 3 := fun q => z1_3 (Int32.toInt_inj.mp q)
              have z1_q4 : ¬ Int32.toInt x1 = 4 := fun q => z1_4 (Int32.toInt_inj.mp q)
              have z1_q5 : ¬ Int32.toInt x1 = 5 := fun q => z1_5 (Int32.toInt_inj.mp q)
              refine mm_tdef (tgt := 85) X dX9_count_1 (by decide) (fun i hi hq => ?_) (by decide) ?_
              · rcases (show i = 0 ∨ i = 1 ∨ i = 2 ∨ i = 3 ∨ i = 4 ∨ i = 5 by simp at hi; omega) with rfl | rfl | rfl | rfl | rfl | rfl
                · exact absurd hq (by omega)
                · exact absurd hq (by omega)
                · exact absurd hq (by omega)
                · exact absurd hq (by omega)
                · exact absurd hq (by omega)
                · exact absurd hq (by omega)
              · refine lv_ldc (v := (-1000000)) X.1 X.2.1 X.2.2.2.1 (X.2.2.2.2.1 _ cn_X9_210) dX9_count_85 ?_
                exact mm_xi X I hr hlk dX9_count_87 h
